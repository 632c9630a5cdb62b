theorem dX7_init_0 : decode cX7_init 0 = .ok (.aload_n 0, 1) := by decide +kernel
theorem dX7_init_1 : decode cX7_init 1 = .ok (.invokespecial 1, 3) := by decide +kernel
theorem dX7_init_4 : decode cX7_init 4 = .ok (.aload_n 0, 1) := by decide +kernel
theorem dX7_init_5 : decode cX7_init 5 = .ok (.bipush 8, 2) := by decide +kernel
theorem dX7_init_7 : decode cX7_init 7 = .ok (.newarray .int, 2) := by decide +kernel
theorem dX7_init_9 : decode cX7_init 9 = .ok (.putfield 7, 3) := by decide +kernel
theorem dX7_init_12 : decode cX7_init 12 = .ok (.aload_n 0, 1) := by decide +kernel
theorem dX7_init_13 : decode cX7_init 13 = .ok (.bipush 40, 2) := by decide +kernel
theorem dX7_init_15 : decode cX7_init 15 = .ok (.newarray .boolean, 2) := by decide +kernel
theorem dX7_init_17 : decode cX7_init 17 = .ok (.putfield 13, 3) := by decide +kernel
theorem dX7_init_20 : decode cX7_init 20 = .ok (.aload_n 0, 1) := by decide +kernel
theorem dX7_init_21 : decode cX7_init 21 = .ok (.bipush 40, 2) := by decide +kernel
theorem dX7_init_23 : decode cX7_init 23 = .ok (.newarray .int, 2) := by decide +kernel
theorem dX7_init_25 : decode cX7_init 25 = .ok (.putfield 17, 3) := by decide +kernel
theorem dX7_init_28 : decode cX7_init 28 = .ok (.aload_n 0, 1) := by decide +kernel
theorem dX7_init_29 : decode cX7_init 29 = .ok (.sipush 320, 3) := by decide +kernel
theorem dX7_init_32 : decode cX7_init 32 = .ok (.newarray .int, 2) := by decide +kernel
theorem dX7_init_34 : decode cX7_init 34 = .ok (.putfield 20, 3) := by decide +kernel
theorem dX7_init_37 : decode cX7_init 37 = .ok (.aload_n 0, 1) := by decide +kernel
theorem dX7_init_38 : decode cX7_init 38 = .ok (.bipush 40, 2) := by decide +kernel
theorem dX7_init_40 : decode cX7_init 40 = .ok (.newarray .int, 2) := by decide +kernel
theorem dX7_init_42 : decode cX7_init 42 = .ok (.putfield 23, 3) := by decide +kernel
theorem dX7_init_45 : decode cX7_init 45 = .ok (.aload_n 0, 1) := by decide +kernel
theorem dX7_init_46 : decode cX7_init 46 = .ok (.sipush 320, 3) := by decide +kernel
theorem dX7_init_49 : decode cX7_init 49 = .ok (.newarray .int, 2) := by decide +kernel
theorem dX7_init_51 : decode cX7_init 51 = .ok (.putfield 26, 3) := by decide +kernel
theorem dX7_init_54 : decode cX7_init 54 = .ok (.aload_n 0, 1) := by decide +kernel
theorem dX7_init_55 : decode cX7_init 55 = .ok (.sipush 200, 3) := by decide +kernel
theorem dX7_init_58 : decode cX7_init 58 = .ok (.newarray .int, 2) := by decide +kernel
theorem dX7_init_60 : decode cX7_init 60 = .ok (.putfield 29, 3) := by decide +kernel
theorem dX7_init_63 : decode cX7_init 63 = .ok (.return_, 1) := by decide +kernel
theorem dX7_thrown_0 : decode cX7_thrown 0 = .ok (.aload_n 0, 1) := by decide +kernel
theorem dX7_thrown_1 : decode cX7_thrown 1 = .ok (.getfield 32, 3) := by decide +kernel
theorem dX7_thrown_4 : decode cX7_thrown 4 = .ok (.ireturn, 1) := by decide +kernel
theorem dX7_holds_0 : decode cX7_holds 0 = .ok (.aload_n 0, 1) := by decide +kernel
theorem dX7_holds_1 : decode cX7_holds 1 = .ok (.iload_n 1, 1) := by decide +kernel
theorem dX7_holds_2 : decode cX7_holds 2 = .ok (.putfield 32, 3) := by decide +kernel
theorem dX7_holds_5 : decode cX7_holds 5 = .ok (.iload_n 1, 1) := by decide +kernel
theorem dX7_holds_6 : decode cX7_holds 6 = .ok (.ifCond .ne 7, 3) := by decide +kernel
theorem dX7_holds_9 : decode cX7_holds 9 = .ok (.iconst 1, 1) := by decide +kernel
theorem dX7_holds_10 : decode cX7_holds 10 = .ok (.goto 4, 3) := by decide +kernel
theorem dX7_holds_13 : decode cX7_holds 13 = .ok (.iconst 0, 1) := by decide +kernel
theorem dX7_holds_14 : decode cX7_holds 14 = .ok (.ireturn, 1) := by decide +kernel
theorem dX7_isLetter_0 : decode cX7_isLetter 0 = .ok (.iload_n 0, 1) := by decide +kernel
theorem dX7_isLetter_1 : decode cX7_isLetter 1 = .ok (.bipush 97, 2) := by decide +kernel
theorem dX7_isLetter_3 : decode cX7_isLetter 3 = .ok (.if_icmp .lt 13, 3) := by decide +kernel
theorem dX7_isLetter_6 : decode cX7_isLetter 6 = .ok (.iload_n 0, 1) := by decide +kernel
theorem dX7_isLetter_7 : decode cX7_isLetter 7 = .ok (.bipush 122, 2) := by decide +kernel
theorem dX7_isLetter_9 : decode cX7_isLetter 9 = .ok (.if_icmp .gt 7, 3) := by decide +kernel
theorem dX7_isLetter_12 : decode cX7_isLetter 12 = .ok (.iconst 1, 1) := by decide +kernel
theorem dX7_isLetter_13 : decode cX7_isLetter 13 = .ok (.goto 4, 3) := by decide +kernel
theorem dX7_isLetter_16 : decode cX7_isLetter 16 = .ok (.iconst 0, 1) := by decide +kernel
theorem dX7_isLetter_17 : decode cX7_isLetter 17 = .ok (.ireturn, 1) := by decide +kernel
theorem dX7_isPattern_0 : decode cX7_isPattern 0 = .ok (.iload_n 1, 1) := by decide +kernel
theorem dX7_isPattern_1 : decode cX7_isPattern 1 = .ok (.ifCond .lt 24, 3) := by decide +kernel
theorem dX7_isPattern_4 : decode cX7_isPattern 4 = .ok (.iload_n 1, 1) := by decide +kernel
theorem dX7_isPattern_5 : decode cX7_isPattern 5 = .ok (.aload_n 0, 1) := by decide +kernel
theorem dX7_isPattern_6 : decode cX7_isPattern 6 = .ok (.getfield 36, 3) := by decide +kernel
theorem dX7_isPattern_9 : decode cX7_isPattern 9 = .ok (.if_icmp .ge 16, 3) := by decide +kernel
theorem dX7_isPattern_12 : decode cX7_isPattern 12 = .ok (.aload_n 0, 1) := by decide +kernel
theorem dX7_isPattern_13 : decode cX7_isPattern 13 = .ok (.getfield 13, 3) := by decide +kernel
theorem dX7_isPattern_16 : decode cX7_isPattern 16 = .ok (.iload_n 1, 1) := by decide +kernel
theorem dX7_isPattern_17 : decode cX7_isPattern 17 = .ok (.baload, 1) := by decide +kernel
theorem dX7_isPattern_18 : decode cX7_isPattern 18 = .ok (.ifCond .eq 7, 3) := by decide +kernel
theorem dX7_isPattern_21 : decode cX7_isPattern 21 = .ok (.iconst 1, 1) := by decide +kernel
theorem dX7_isPattern_22 : decode cX7_isPattern 22 = .ok (.goto 4, 3) := by decide +kernel
theorem dX7_isPattern_25 : decode cX7_isPattern 25 = .ok (.iconst 0, 1) := by decide +kernel
theorem dX7_isPattern_26 : decode cX7_isPattern 26 = .ok (.ireturn, 1) := by decide +kernel
theorem dX7_patternsNow_0 : decode cX7_patternsNow 0 = .ok (.iconst 0, 1) := by decide +kernel
theorem dX7_patternsNow_1 : decode cX7_patternsNow 1 = .ok (.istore_n 1, 1) := by decide +kernel
theorem dX7_patternsNow_2 : decode cX7_patternsNow 2 = .ok (.iconst 0, 1) := by decide +kernel
theorem dX7_patternsNow_3 : decode cX7_patternsNow 3 = .ok (.istore_n 2, 1) := by decide +kernel
theorem dX7_patternsNow_4 : decode cX7_patternsNow 4 = .ok (.iload_n 2, 1) := by decide +kernel
theorem dX7_patternsNow_5 : decode cX7_patternsNow 5 = .ok (.aload_n 0, 1) := by decide +kernel
theorem dX7_patternsNow_6 : decode cX7_patternsNow 6 = .ok (.getfield 36, 3) := by decide +kernel
theorem dX7_patternsNow_9 : decode cX7_patternsNow 9 = .ok (.if_icmp .ge 26, 3) := by decide +kernel
theorem dX7_patternsNow_12 : decode cX7_patternsNow 12 = .ok (.iload_n 1, 1) := by decide +kernel
theorem dX7_patternsNow_13 : decode cX7_patternsNow 13 = .ok (.aload_n 0, 1) := by decide +kernel
theorem dX7_patternsNow_14 : decode cX7_patternsNow 14 = .ok (.getfield 13, 3) := by decide +kernel
theorem dX7_patternsNow_17 : decode cX7_patternsNow 17 = .ok (.iload_n 2, 1) := by decide +kernel
theorem dX7_patternsNow_18 : decode cX7_patternsNow 18 = .ok (.baload, 1) := by decide +kernel
theorem dX7_patternsNow_19 : decode cX7_patternsNow 19 = .ok (.ifCond .eq 7, 3) := by decide +kernel
theorem dX7_patternsNow_22 : decode cX7_patternsNow 22 = .ok (.iconst 1, 1) := by decide +kernel
theorem dX7_patternsNow_23 : decode cX7_patternsNow 23 = .ok (.goto 4, 3) := by decide +kernel
theorem dX7_patternsNow_26 : decode cX7_patternsNow 26 = .ok (.iconst 0, 1) := by decide +kernel
theorem dX7_patternsNow_27 : decode cX7_patternsNow 27 = .ok (.iadd, 1) := by decide +kernel
theorem dX7_patternsNow_28 : decode cX7_patternsNow 28 = .ok (.istore_n 1, 1) := by decide +kernel
theorem dX7_patternsNow_29 : decode cX7_patternsNow 29 = .ok (.iinc 2 1, 3) := by decide +kernel
theorem dX7_patternsNow_32 : decode cX7_patternsNow 32 = .ok (.goto (-28), 3) := by decide +kernel
theorem dX7_patternsNow_35 : decode cX7_patternsNow 35 = .ok (.iload_n 1, 1) := by decide +kernel
theorem dX7_patternsNow_36 : decode cX7_patternsNow 36 = .ok (.ireturn, 1) := by decide +kernel
theorem dX7_draft_0 : decode cX7_draft 0 = .ok (.aload_n 0, 1) := by decide +kernel
theorem dX7_draft_1 : decode cX7_draft 1 = .ok (.iload_n 1, 1) := by decide +kernel
theorem dX7_draft_2 : decode cX7_draft 2 = .ok (.invokestatic 39, 3) := by decide +kernel
theorem dX7_draft_5 : decode cX7_draft 5 = .ok (.ifCond .ne 7, 3) := by decide +kernel
theorem dX7_draft_8 : decode cX7_draft 8 = .ok (.iconst 1, 1) := by decide +kernel
theorem dX7_draft_9 : decode cX7_draft 9 = .ok (.goto 17, 3) := by decide +kernel
theorem dX7_draft_12 : decode cX7_draft 12 = .ok (.aload_n 0, 1) := by decide +kernel
theorem dX7_draft_13 : decode cX7_draft 13 = .ok (.getfield 43, 3) := by decide +kernel
theorem dX7_draft_16 : decode cX7_draft 16 = .ok (.bipush 8, 2) := by decide +kernel
theorem dX7_draft_18 : decode cX7_draft 18 = .ok (.if_icmp .ne 7, 3) := by decide +kernel
theorem dX7_draft_21 : decode cX7_draft 21 = .ok (.iconst 2, 1) := by decide +kernel
theorem dX7_draft_22 : decode cX7_draft 22 = .ok (.goto 4, 3) := by decide +kernel
theorem dX7_draft_25 : decode cX7_draft 25 = .ok (.iconst 0, 1) := by decide +kernel
theorem dX7_draft_26 : decode cX7_draft 26 = .ok (.invokevirtual 46, 3) := by decide +kernel
theorem dX7_draft_29 : decode cX7_draft 29 = .ok (.ifCond .ne 5, 3) := by decide +kernel
theorem dX7_draft_32 : decode cX7_draft 32 = .ok (.iconst 0, 1) := by decide +kernel
theorem dX7_draft_33 : decode cX7_draft 33 = .ok (.ireturn, 1) := by decide +kernel
theorem dX7_draft_34 : decode cX7_draft 34 = .ok (.aload_n 0, 1) := by decide +kernel
theorem dX7_draft_35 : decode cX7_draft 35 = .ok (.getfield 7, 3) := by decide +kernel
theorem dX7_draft_38 : decode cX7_draft 38 = .ok (.aload_n 0, 1) := by decide +kernel
theorem dX7_draft_39 : decode cX7_draft 39 = .ok (.getfield 43, 3) := by decide +kernel
theorem dX7_draft_42 : decode cX7_draft 42 = .ok (.iload_n 1, 1) := by decide +kernel
theorem dX7_draft_43 : decode cX7_draft 43 = .ok (.iastore, 1) := by decide +kernel
theorem dX7_draft_44 : decode cX7_draft 44 = .ok (.aload_n 0, 1) := by decide +kernel
theorem dX7_draft_45 : decode cX7_draft 45 = .ok (.dup, 1) := by decide +kernel
theorem dX7_draft_46 : decode cX7_draft 46 = .ok (.getfield 43, 3) := by decide +kernel
theorem dX7_draft_49 : decode cX7_draft 49 = .ok (.iconst 1, 1) := by decide +kernel
theorem dX7_draft_50 : decode cX7_draft 50 = .ok (.iadd, 1) := by decide +kernel
theorem dX7_draft_51 : decode cX7_draft 51 = .ok (.putfield 43, 3) := by decide +kernel
theorem dX7_draft_54 : decode cX7_draft 54 = .ok (.aload_n 0, 1) := by decide +kernel
theorem dX7_draft_55 : decode cX7_draft 55 = .ok (.getfield 43, 3) := by decide +kernel
theorem dX7_draft_58 : decode cX7_draft 58 = .ok (.ireturn, 1) := by decide +kernel
theorem dX7_isDraft_0 : decode cX7_isDraft 0 = .ok (.aload_n 0, 1) := by decide +kernel
theorem dX7_isDraft_1 : decode cX7_isDraft 1 = .ok (.getfield 13, 3) := by decide +kernel
theorem dX7_isDraft_4 : decode cX7_isDraft 4 = .ok (.iload_n 1, 1) := by decide +kernel
theorem dX7_isDraft_5 : decode cX7_isDraft 5 = .ok (.baload, 1) := by decide +kernel
theorem dX7_isDraft_6 : decode cX7_isDraft 6 = .ok (.ifCond .eq 20, 3) := by decide +kernel
theorem dX7_isDraft_9 : decode cX7_isDraft 9 = .ok (.aload_n 0, 1) := by decide +kernel
theorem dX7_isDraft_10 : decode cX7_isDraft 10 = .ok (.getfield 17, 3) := by decide +kernel
theorem dX7_isDraft_13 : decode cX7_isDraft 13 = .ok (.iload_n 1, 1) := by decide +kernel
theorem dX7_isDraft_14 : decode cX7_isDraft 14 = .ok (.iaload, 1) := by decide +kernel
theorem dX7_isDraft_15 : decode cX7_isDraft 15 = .ok (.aload_n 0, 1) := by decide +kernel
theorem dX7_isDraft_16 : decode cX7_isDraft 16 = .ok (.getfield 43, 3) := by decide +kernel
theorem dX7_isDraft_19 : decode cX7_isDraft 19 = .ok (.if_icmp .ne 7, 3) := by decide +kernel
theorem dX7_isDraft_22 : decode cX7_isDraft 22 = .ok (.iconst 1, 1) := by decide +kernel
theorem dX7_isDraft_23 : decode cX7_isDraft 23 = .ok (.goto 4, 3) := by decide +kernel
theorem dX7_isDraft_26 : decode cX7_isDraft 26 = .ok (.iconst 0, 1) := by decide +kernel
theorem dX7_isDraft_27 : decode cX7_isDraft 27 = .ok (.istore_n 2, 1) := by decide +kernel
theorem dX7_isDraft_28 : decode cX7_isDraft 28 = .ok (.iconst 0, 1) := by decide +kernel
theorem dX7_isDraft_29 : decode cX7_isDraft 29 = .ok (.istore_n 3, 1) := by decide +kernel
theorem dX7_isDraft_30 : decode cX7_isDraft 30 = .ok (.iload_n 3, 1) := by decide +kernel
theorem dX7_isDraft_31 : decode cX7_isDraft 31 = .ok (.aload_n 0, 1) := by decide +kernel
theorem dX7_isDraft_32 : decode cX7_isDraft 32 = .ok (.getfield 43, 3) := by decide +kernel
theorem dX7_isDraft_35 : decode cX7_isDraft 35 = .ok (.if_icmp .ge 39, 3) := by decide +kernel
theorem dX7_isDraft_38 : decode cX7_isDraft 38 = .ok (.iload_n 2, 1) := by decide +kernel
theorem dX7_isDraft_39 : decode cX7_isDraft 39 = .ok (.ifCond .eq 35, 3) := by decide +kernel
theorem dX7_isDraft_42 : decode cX7_isDraft 42 = .ok (.aload_n 0, 1) := by decide +kernel
theorem dX7_isDraft_43 : decode cX7_isDraft 43 = .ok (.getfield 20, 3) := by decide +kernel
theorem dX7_isDraft_46 : decode cX7_isDraft 46 = .ok (.bipush 8, 2) := by decide +kernel
theorem dX7_isDraft_48 : decode cX7_isDraft 48 = .ok (.iload_n 1, 1) := by decide +kernel
theorem dX7_isDraft_49 : decode cX7_isDraft 49 = .ok (.imul, 1) := by decide +kernel
theorem dX7_isDraft_50 : decode cX7_isDraft 50 = .ok (.iload_n 3, 1) := by decide +kernel
theorem dX7_isDraft_51 : decode cX7_isDraft 51 = .ok (.iadd, 1) := by decide +kernel
theorem dX7_isDraft_52 : decode cX7_isDraft 52 = .ok (.iaload, 1) := by decide +kernel
theorem dX7_isDraft_53 : decode cX7_isDraft 53 = .ok (.aload_n 0, 1) := by decide +kernel
theorem dX7_isDraft_54 : decode cX7_isDraft 54 = .ok (.getfield 7, 3) := by decide +kernel
theorem dX7_isDraft_57 : decode cX7_isDraft 57 = .ok (.iload_n 3, 1) := by decide +kernel
theorem dX7_isDraft_58 : decode cX7_isDraft 58 = .ok (.iaload, 1) := by decide +kernel
theorem dX7_isDraft_59 : decode cX7_isDraft 59 = .ok (.if_icmp .ne 7, 3) := by decide +kernel
theorem dX7_isDraft_62 : decode cX7_isDraft 62 = .ok (.iconst 1, 1) := by decide +kernel
theorem dX7_isDraft_63 : decode cX7_isDraft 63 = .ok (.goto 4, 3) := by decide +kernel
theorem dX7_isDraft_66 : decode cX7_isDraft 66 = .ok (.iconst 0, 1) := by decide +kernel
theorem dX7_isDraft_67 : decode cX7_isDraft 67 = .ok (.istore_n 2, 1) := by decide +kernel
theorem dX7_isDraft_68 : decode cX7_isDraft 68 = .ok (.iinc 3 1, 3) := by decide +kernel
theorem dX7_isDraft_71 : decode cX7_isDraft 71 = .ok (.goto (-41), 3) := by decide +kernel
theorem dX7_isDraft_74 : decode cX7_isDraft 74 = .ok (.iload_n 2, 1) := by decide +kernel
theorem dX7_isDraft_75 : decode cX7_isDraft 75 = .ok (.ireturn, 1) := by decide +kernel
theorem dX7_enter_0 : decode cX7_enter 0 = .ok (.aload_n 0, 1) := by decide +kernel
theorem dX7_enter_1 : decode cX7_enter 1 = .ok (.getfield 43, 3) := by decide +kernel
theorem dX7_enter_4 : decode cX7_enter 4 = .ok (.ifCond .le 25, 3) := by decide +kernel
theorem dX7_enter_7 : decode cX7_enter 7 = .ok (.aload_n 0, 1) := by decide +kernel
theorem dX7_enter_8 : decode cX7_enter 8 = .ok (.invokevirtual 50, 3) := by decide +kernel
theorem dX7_enter_11 : decode cX7_enter 11 = .ok (.bipush 20, 2) := by decide +kernel
theorem dX7_enter_13 : decode cX7_enter 13 = .ok (.if_icmp .ge 16, 3) := by decide +kernel
theorem dX7_enter_16 : decode cX7_enter 16 = .ok (.aload_n 0, 1) := by decide +kernel
theorem dX7_enter_17 : decode cX7_enter 17 = .ok (.getfield 36, 3) := by decide +kernel
theorem dX7_enter_20 : decode cX7_enter 20 = .ok (.bipush 40, 2) := by decide +kernel
theorem dX7_enter_22 : decode cX7_enter 22 = .ok (.if_icmp .ge 7, 3) := by decide +kernel
theorem dX7_enter_25 : decode cX7_enter 25 = .ok (.iconst 1, 1) := by decide +kernel
theorem dX7_enter_26 : decode cX7_enter 26 = .ok (.goto 4, 3) := by decide +kernel
theorem dX7_enter_29 : decode cX7_enter 29 = .ok (.iconst 0, 1) := by decide +kernel
theorem dX7_enter_30 : decode cX7_enter 30 = .ok (.istore_n 1, 1) := by decide +kernel
theorem dX7_enter_31 : decode cX7_enter 31 = .ok (.iconst 0, 1) := by decide +kernel
theorem dX7_enter_32 : decode cX7_enter 32 = .ok (.istore_n 2, 1) := by decide +kernel
theorem dX7_enter_33 : decode cX7_enter 33 = .ok (.iload_n 2, 1) := by decide +kernel
theorem dX7_enter_34 : decode cX7_enter 34 = .ok (.aload_n 0, 1) := by decide +kernel
theorem dX7_enter_35 : decode cX7_enter 35 = .ok (.getfield 36, 3) := by decide +kernel
theorem dX7_enter_38 : decode cX7_enter 38 = .ok (.if_icmp .ge 27, 3) := by decide +kernel
theorem dX7_enter_41 : decode cX7_enter 41 = .ok (.iload_n 1, 1) := by decide +kernel
theorem dX7_enter_42 : decode cX7_enter 42 = .ok (.ifCond .eq 15, 3) := by decide +kernel
theorem dX7_enter_45 : decode cX7_enter 45 = .ok (.aload_n 0, 1) := by decide +kernel
theorem dX7_enter_46 : decode cX7_enter 46 = .ok (.iload_n 2, 1) := by decide +kernel
theorem dX7_enter_47 : decode cX7_enter 47 = .ok (.invokevirtual 54, 3) := by decide +kernel
theorem dX7_enter_50 : decode cX7_enter 50 = .ok (.ifCond .ne 7, 3) := by decide +kernel
theorem dX7_enter_53 : decode cX7_enter 53 = .ok (.iconst 1, 1) := by decide +kernel
theorem dX7_enter_54 : decode cX7_enter 54 = .ok (.goto 4, 3) := by decide +kernel
theorem dX7_enter_57 : decode cX7_enter 57 = .ok (.iconst 0, 1) := by decide +kernel
theorem dX7_enter_58 : decode cX7_enter 58 = .ok (.istore_n 1, 1) := by decide +kernel
theorem dX7_enter_59 : decode cX7_enter 59 = .ok (.iinc 2 1, 3) := by decide +kernel
theorem dX7_enter_62 : decode cX7_enter 62 = .ok (.goto (-29), 3) := by decide +kernel
theorem dX7_enter_65 : decode cX7_enter 65 = .ok (.aload_n 0, 1) := by decide +kernel
theorem dX7_enter_66 : decode cX7_enter 66 = .ok (.iload_n 1, 1) := by decide +kernel
theorem dX7_enter_67 : decode cX7_enter 67 = .ok (.ifCond .eq 7, 3) := by decide +kernel
theorem dX7_enter_70 : decode cX7_enter 70 = .ok (.iconst 0, 1) := by decide +kernel
theorem dX7_enter_71 : decode cX7_enter 71 = .ok (.goto 4, 3) := by decide +kernel
theorem dX7_enter_74 : decode cX7_enter 74 = .ok (.iconst 1, 1) := by decide +kernel
theorem dX7_enter_75 : decode cX7_enter 75 = .ok (.invokevirtual 46, 3) := by decide +kernel
theorem dX7_enter_78 : decode cX7_enter 78 = .ok (.ifCond .ne 5, 3) := by decide +kernel
theorem dX7_enter_81 : decode cX7_enter 81 = .ok (.iconst 0, 1) := by decide +kernel
theorem dX7_enter_82 : decode cX7_enter 82 = .ok (.ireturn, 1) := by decide +kernel
theorem dX7_enter_83 : decode cX7_enter 83 = .ok (.iconst 0, 1) := by decide +kernel
theorem dX7_enter_84 : decode cX7_enter 84 = .ok (.istore_n 2, 1) := by decide +kernel
theorem dX7_enter_85 : decode cX7_enter 85 = .ok (.iload_n 2, 1) := by decide +kernel
theorem dX7_enter_86 : decode cX7_enter 86 = .ok (.aload_n 0, 1) := by decide +kernel
theorem dX7_enter_87 : decode cX7_enter 87 = .ok (.getfield 43, 3) := by decide +kernel
theorem dX7_enter_90 : decode cX7_enter 90 = .ok (.if_icmp .ge 29, 3) := by decide +kernel
theorem dX7_enter_93 : decode cX7_enter 93 = .ok (.aload_n 0, 1) := by decide +kernel
theorem dX7_enter_94 : decode cX7_enter 94 = .ok (.getfield 20, 3) := by decide +kernel
theorem dX7_enter_97 : decode cX7_enter 97 = .ok (.bipush 8, 2) := by decide +kernel
theorem dX7_enter_99 : decode cX7_enter 99 = .ok (.aload_n 0, 1) := by decide +kernel
theorem dX7_enter_100 : decode cX7_enter 100 = .ok (.getfield 36, 3) := by decide +kernel
theorem dX7_enter_103 : decode cX7_enter 103 = .ok (.imul, 1) := by decide +kernel
theorem dX7_enter_104 : decode cX7_enter 104 = .ok (.iload_n 2, 1) := by decide +kernel
theorem dX7_enter_105 : decode cX7_enter 105 = .ok (.iadd, 1) := by decide +kernel
theorem dX7_enter_106 : decode cX7_enter 106 = .ok (.aload_n 0, 1) := by decide +kernel
theorem dX7_enter_107 : decode cX7_enter 107 = .ok (.getfield 7, 3) := by decide +kernel
theorem dX7_enter_110 : decode cX7_enter 110 = .ok (.iload_n 2, 1) := by decide +kernel
theorem dX7_enter_111 : decode cX7_enter 111 = .ok (.iaload, 1) := by decide +kernel
theorem dX7_enter_112 : decode cX7_enter 112 = .ok (.iastore, 1) := by decide +kernel
theorem dX7_enter_113 : decode cX7_enter 113 = .ok (.iinc 2 1, 3) := by decide +kernel
theorem dX7_enter_116 : decode cX7_enter 116 = .ok (.goto (-31), 3) := by decide +kernel
theorem dX7_enter_119 : decode cX7_enter 119 = .ok (.aload_n 0, 1) := by decide +kernel
theorem dX7_enter_120 : decode cX7_enter 120 = .ok (.getfield 17, 3) := by decide +kernel
theorem dX7_enter_123 : decode cX7_enter 123 = .ok (.aload_n 0, 1) := by decide +kernel
theorem dX7_enter_124 : decode cX7_enter 124 = .ok (.getfield 36, 3) := by decide +kernel
theorem dX7_enter_127 : decode cX7_enter 127 = .ok (.aload_n 0, 1) := by decide +kernel
theorem dX7_enter_128 : decode cX7_enter 128 = .ok (.getfield 43, 3) := by decide +kernel
theorem dX7_enter_131 : decode cX7_enter 131 = .ok (.iastore, 1) := by decide +kernel
theorem dX7_enter_132 : decode cX7_enter 132 = .ok (.aload_n 0, 1) := by decide +kernel
theorem dX7_enter_133 : decode cX7_enter 133 = .ok (.getfield 23, 3) := by decide +kernel
theorem dX7_enter_136 : decode cX7_enter 136 = .ok (.aload_n 0, 1) := by decide +kernel
theorem dX7_enter_137 : decode cX7_enter 137 = .ok (.getfield 36, 3) := by decide +kernel
theorem dX7_enter_140 : decode cX7_enter 140 = .ok (.iconst 0, 1) := by decide +kernel
theorem dX7_enter_141 : decode cX7_enter 141 = .ok (.iastore, 1) := by decide +kernel
theorem dX7_enter_142 : decode cX7_enter 142 = .ok (.aload_n 0, 1) := by decide +kernel
theorem dX7_enter_143 : decode cX7_enter 143 = .ok (.getfield 13, 3) := by decide +kernel
theorem dX7_enter_146 : decode cX7_enter 146 = .ok (.aload_n 0, 1) := by decide +kernel
theorem dX7_enter_147 : decode cX7_enter 147 = .ok (.getfield 36, 3) := by decide +kernel
theorem dX7_enter_150 : decode cX7_enter 150 = .ok (.iconst 1, 1) := by decide +kernel
theorem dX7_enter_151 : decode cX7_enter 151 = .ok (.bastore, 1) := by decide +kernel
theorem dX7_enter_152 : decode cX7_enter 152 = .ok (.aload_n 0, 1) := by decide +kernel
theorem dX7_enter_153 : decode cX7_enter 153 = .ok (.iconst 0, 1) := by decide +kernel
theorem dX7_enter_154 : decode cX7_enter 154 = .ok (.putfield 43, 3) := by decide +kernel
theorem dX7_enter_157 : decode cX7_enter 157 = .ok (.aload_n 0, 1) := by decide +kernel
theorem dX7_enter_158 : decode cX7_enter 158 = .ok (.dup, 1) := by decide +kernel
theorem dX7_enter_159 : decode cX7_enter 159 = .ok (.getfield 36, 3) := by decide +kernel
theorem dX7_enter_162 : decode cX7_enter 162 = .ok (.iconst 1, 1) := by decide +kernel
theorem dX7_enter_163 : decode cX7_enter 163 = .ok (.iadd, 1) := by decide +kernel
theorem dX7_enter_164 : decode cX7_enter 164 = .ok (.putfield 36, 3) := by decide +kernel
theorem dX7_enter_167 : decode cX7_enter 167 = .ok (.aload_n 0, 1) := by decide +kernel
theorem dX7_enter_168 : decode cX7_enter 168 = .ok (.getfield 36, 3) := by decide +kernel
theorem dX7_enter_171 : decode cX7_enter 171 = .ok (.iconst 1, 1) := by decide +kernel
theorem dX7_enter_172 : decode cX7_enter 172 = .ok (.isub, 1) := by decide +kernel
theorem dX7_enter_173 : decode cX7_enter 173 = .ok (.ireturn, 1) := by decide +kernel
theorem dX7_isAsked_0 : decode cX7_isAsked 0 = .ok (.aload_n 0, 1) := by decide +kernel
theorem dX7_isAsked_1 : decode cX7_isAsked 1 = .ok (.aload_n 0, 1) := by decide +kernel
theorem dX7_isAsked_2 : decode cX7_isAsked 2 = .ok (.iload_n 1, 1) := by decide +kernel
theorem dX7_isAsked_3 : decode cX7_isAsked 3 = .ok (.invokevirtual 57, 3) := by decide +kernel
theorem dX7_isAsked_6 : decode cX7_isAsked 6 = .ok (.ifCond .eq 7, 3) := by decide +kernel
theorem dX7_isAsked_9 : decode cX7_isAsked 9 = .ok (.iconst 0, 1) := by decide +kernel
theorem dX7_isAsked_10 : decode cX7_isAsked 10 = .ok (.goto 4, 3) := by decide +kernel
theorem dX7_isAsked_13 : decode cX7_isAsked 13 = .ok (.iconst 1, 1) := by decide +kernel
theorem dX7_isAsked_14 : decode cX7_isAsked 14 = .ok (.invokevirtual 46, 3) := by decide +kernel
theorem dX7_isAsked_17 : decode cX7_isAsked 17 = .ok (.ireturn, 1) := by decide +kernel
theorem dX7_setReplacement_0 : decode cX7_setReplacement 0 = .ok (.aload_n 0, 1) := by decide +kernel
theorem dX7_setReplacement_1 : decode cX7_setReplacement 1 = .ok (.iload_n 1, 1) := by decide +kernel
theorem dX7_setReplacement_2 : decode cX7_setReplacement 2 = .ok (.invokevirtual 60, 3) := by decide +kernel
theorem dX7_setReplacement_5 : decode cX7_setReplacement 5 = .ok (.ifCond .ne 5, 3) := by decide +kernel
theorem dX7_setReplacement_8 : decode cX7_setReplacement 8 = .ok (.iconst 0, 1) := by decide +kernel
theorem dX7_setReplacement_9 : decode cX7_setReplacement 9 = .ok (.ireturn, 1) := by decide +kernel
theorem dX7_setReplacement_10 : decode cX7_setReplacement 10 = .ok (.aload_n 0, 1) := by decide +kernel
theorem dX7_setReplacement_11 : decode cX7_setReplacement 11 = .ok (.getfield 23, 3) := by decide +kernel
theorem dX7_setReplacement_14 : decode cX7_setReplacement 14 = .ok (.iload_n 1, 1) := by decide +kernel
theorem dX7_setReplacement_15 : decode cX7_setReplacement 15 = .ok (.iaload, 1) := by decide +kernel
theorem dX7_setReplacement_16 : decode cX7_setReplacement 16 = .ok (.istore_n 2, 1) := by decide +kernel
theorem dX7_setReplacement_17 : decode cX7_setReplacement 17 = .ok (.iconst 0, 1) := by decide +kernel
theorem dX7_setReplacement_18 : decode cX7_setReplacement 18 = .ok (.istore_n 3, 1) := by decide +kernel
theorem dX7_setReplacement_19 : decode cX7_setReplacement 19 = .ok (.iload_n 3, 1) := by decide +kernel
theorem dX7_setReplacement_20 : decode cX7_setReplacement 20 = .ok (.aload_n 0, 1) := by decide +kernel
theorem dX7_setReplacement_21 : decode cX7_setReplacement 21 = .ok (.getfield 43, 3) := by decide +kernel
theorem dX7_setReplacement_24 : decode cX7_setReplacement 24 = .ok (.if_icmp .ge 26, 3) := by decide +kernel
theorem dX7_setReplacement_27 : decode cX7_setReplacement 27 = .ok (.aload_n 0, 1) := by decide +kernel
theorem dX7_setReplacement_28 : decode cX7_setReplacement 28 = .ok (.getfield 26, 3) := by decide +kernel
theorem dX7_setReplacement_31 : decode cX7_setReplacement 31 = .ok (.bipush 8, 2) := by decide +kernel
theorem dX7_setReplacement_33 : decode cX7_setReplacement 33 = .ok (.iload_n 1, 1) := by decide +kernel
theorem dX7_setReplacement_34 : decode cX7_setReplacement 34 = .ok (.imul, 1) := by decide +kernel
theorem dX7_setReplacement_35 : decode cX7_setReplacement 35 = .ok (.iload_n 3, 1) := by decide +kernel
theorem dX7_setReplacement_36 : decode cX7_setReplacement 36 = .ok (.iadd, 1) := by decide +kernel
theorem dX7_setReplacement_37 : decode cX7_setReplacement 37 = .ok (.aload_n 0, 1) := by decide +kernel
theorem dX7_setReplacement_38 : decode cX7_setReplacement 38 = .ok (.getfield 7, 3) := by decide +kernel
theorem dX7_setReplacement_41 : decode cX7_setReplacement 41 = .ok (.iload_n 3, 1) := by decide +kernel
theorem dX7_setReplacement_42 : decode cX7_setReplacement 42 = .ok (.iaload, 1) := by decide +kernel
theorem dX7_setReplacement_43 : decode cX7_setReplacement 43 = .ok (.iastore, 1) := by decide +kernel
theorem dX7_setReplacement_44 : decode cX7_setReplacement 44 = .ok (.iinc 3 1, 3) := by decide +kernel
theorem dX7_setReplacement_47 : decode cX7_setReplacement 47 = .ok (.goto (-28), 3) := by decide +kernel
theorem dX7_setReplacement_50 : decode cX7_setReplacement 50 = .ok (.aload_n 0, 1) := by decide +kernel
theorem dX7_setReplacement_51 : decode cX7_setReplacement 51 = .ok (.getfield 23, 3) := by decide +kernel
theorem dX7_setReplacement_54 : decode cX7_setReplacement 54 = .ok (.iload_n 1, 1) := by decide +kernel
theorem dX7_setReplacement_55 : decode cX7_setReplacement 55 = .ok (.aload_n 0, 1) := by decide +kernel
theorem dX7_setReplacement_56 : decode cX7_setReplacement 56 = .ok (.getfield 43, 3) := by decide +kernel
theorem dX7_setReplacement_59 : decode cX7_setReplacement 59 = .ok (.iastore, 1) := by decide +kernel
theorem dX7_setReplacement_60 : decode cX7_setReplacement 60 = .ok (.aload_n 0, 1) := by decide +kernel
theorem dX7_setReplacement_61 : decode cX7_setReplacement 61 = .ok (.iconst 0, 1) := by decide +kernel
theorem dX7_setReplacement_62 : decode cX7_setReplacement 62 = .ok (.putfield 43, 3) := by decide +kernel
theorem dX7_setReplacement_65 : decode cX7_setReplacement 65 = .ok (.iload_n 2, 1) := by decide +kernel
theorem dX7_setReplacement_66 : decode cX7_setReplacement 66 = .ok (.ireturn, 1) := by decide +kernel
theorem dX7_takeOut_0 : decode cX7_takeOut 0 = .ok (.aload_n 0, 1) := by decide +kernel
theorem dX7_takeOut_1 : decode cX7_takeOut 1 = .ok (.iload_n 1, 1) := by decide +kernel
theorem dX7_takeOut_2 : decode cX7_takeOut 2 = .ok (.invokevirtual 60, 3) := by decide +kernel
theorem dX7_takeOut_5 : decode cX7_takeOut 5 = .ok (.ifCond .ne 5, 3) := by decide +kernel
theorem dX7_takeOut_8 : decode cX7_takeOut 8 = .ok (.iconst 0, 1) := by decide +kernel
theorem dX7_takeOut_9 : decode cX7_takeOut 9 = .ok (.ireturn, 1) := by decide +kernel
theorem dX7_takeOut_10 : decode cX7_takeOut 10 = .ok (.aload_n 0, 1) := by decide +kernel
theorem dX7_takeOut_11 : decode cX7_takeOut 11 = .ok (.getfield 13, 3) := by decide +kernel
theorem dX7_takeOut_14 : decode cX7_takeOut 14 = .ok (.iload_n 1, 1) := by decide +kernel
theorem dX7_takeOut_15 : decode cX7_takeOut 15 = .ok (.iconst 0, 1) := by decide +kernel
theorem dX7_takeOut_16 : decode cX7_takeOut 16 = .ok (.bastore, 1) := by decide +kernel
theorem dX7_takeOut_17 : decode cX7_takeOut 17 = .ok (.aload_n 0, 1) := by decide +kernel
theorem dX7_takeOut_18 : decode cX7_takeOut 18 = .ok (.invokevirtual 50, 3) := by decide +kernel
theorem dX7_takeOut_21 : decode cX7_takeOut 21 = .ok (.ireturn, 1) := by decide +kernel
theorem dX7_patterns_0 : decode cX7_patterns 0 = .ok (.aload_n 0, 1) := by decide +kernel
theorem dX7_patterns_1 : decode cX7_patterns 1 = .ok (.iconst 0, 1) := by decide +kernel
theorem dX7_patterns_2 : decode cX7_patterns 2 = .ok (.putfield 32, 3) := by decide +kernel
theorem dX7_patterns_5 : decode cX7_patterns 5 = .ok (.aload_n 0, 1) := by decide +kernel
theorem dX7_patterns_6 : decode cX7_patterns 6 = .ok (.invokevirtual 50, 3) := by decide +kernel
theorem dX7_patterns_9 : decode cX7_patterns 9 = .ok (.ireturn, 1) := by decide +kernel
theorem dX7_length_0 : decode cX7_length 0 = .ok (.aload_n 0, 1) := by decide +kernel
theorem dX7_length_1 : decode cX7_length 1 = .ok (.iload_n 1, 1) := by decide +kernel
theorem dX7_length_2 : decode cX7_length 2 = .ok (.invokevirtual 60, 3) := by decide +kernel
theorem dX7_length_5 : decode cX7_length 5 = .ok (.ifCond .eq 12, 3) := by decide +kernel
theorem dX7_length_8 : decode cX7_length 8 = .ok (.aload_n 0, 1) := by decide +kernel
theorem dX7_length_9 : decode cX7_length 9 = .ok (.getfield 17, 3) := by decide +kernel
theorem dX7_length_12 : decode cX7_length 12 = .ok (.iload_n 1, 1) := by decide +kernel
theorem dX7_length_13 : decode cX7_length 13 = .ok (.iaload, 1) := by decide +kernel
theorem dX7_length_14 : decode cX7_length 14 = .ok (.goto 4, 3) := by decide +kernel
theorem dX7_length_17 : decode cX7_length 17 = .ok (.iconst 0, 1) := by decide +kernel
theorem dX7_length_18 : decode cX7_length 18 = .ok (.ireturn, 1) := by decide +kernel
theorem dX7_begins_0 : decode cX7_begins 0 = .ok (.aload_n 0, 1) := by decide +kernel
theorem dX7_begins_1 : decode cX7_begins 1 = .ok (.getfield 13, 3) := by decide +kernel
theorem dX7_begins_4 : decode cX7_begins 4 = .ok (.iload 4, 2) := by decide +kernel
theorem dX7_begins_6 : decode cX7_begins 6 = .ok (.baload, 1) := by decide +kernel
theorem dX7_begins_7 : decode cX7_begins 7 = .ok (.ifCond .eq 18, 3) := by decide +kernel
theorem dX7_begins_10 : decode cX7_begins 10 = .ok (.iload_n 3, 1) := by decide +kernel
theorem dX7_begins_11 : decode cX7_begins 11 = .ok (.aload_n 0, 1) := by decide +kernel
theorem dX7_begins_12 : decode cX7_begins 12 = .ok (.getfield 17, 3) := by decide +kernel
theorem dX7_begins_15 : decode cX7_begins 15 = .ok (.iload 4, 2) := by decide +kernel
theorem dX7_begins_17 : decode cX7_begins 17 = .ok (.iaload, 1) := by decide +kernel
theorem dX7_begins_18 : decode cX7_begins 18 = .ok (.if_icmp .gt 7, 3) := by decide +kernel
theorem dX7_begins_21 : decode cX7_begins 21 = .ok (.iconst 1, 1) := by decide +kernel
theorem dX7_begins_22 : decode cX7_begins 22 = .ok (.goto 4, 3) := by decide +kernel
theorem dX7_begins_25 : decode cX7_begins 25 = .ok (.iconst 0, 1) := by decide +kernel
theorem dX7_begins_26 : decode cX7_begins 26 = .ok (.istore 5, 2) := by decide +kernel
theorem dX7_begins_28 : decode cX7_begins 28 = .ok (.iconst 0, 1) := by decide +kernel
theorem dX7_begins_29 : decode cX7_begins 29 = .ok (.istore 6, 2) := by decide +kernel
theorem dX7_begins_31 : decode cX7_begins 31 = .ok (.iload 6, 2) := by decide +kernel
theorem dX7_begins_33 : decode cX7_begins 33 = .ok (.iload_n 3, 1) := by decide +kernel
theorem dX7_begins_34 : decode cX7_begins 34 = .ok (.if_icmp .ge 51, 3) := by decide +kernel
theorem dX7_begins_37 : decode cX7_begins 37 = .ok (.iload 5, 2) := by decide +kernel
theorem dX7_begins_39 : decode cX7_begins 39 = .ok (.ifCond .eq 46, 3) := by decide +kernel
theorem dX7_begins_42 : decode cX7_begins 42 = .ok (.aload_n 0, 1) := by decide +kernel
theorem dX7_begins_43 : decode cX7_begins 43 = .ok (.getfield 20, 3) := by decide +kernel
theorem dX7_begins_46 : decode cX7_begins 46 = .ok (.bipush 8, 2) := by decide +kernel
theorem dX7_begins_48 : decode cX7_begins 48 = .ok (.iload_n 1, 1) := by decide +kernel
theorem dX7_begins_49 : decode cX7_begins 49 = .ok (.imul, 1) := by decide +kernel
theorem dX7_begins_50 : decode cX7_begins 50 = .ok (.iload_n 2, 1) := by decide +kernel
theorem dX7_begins_51 : decode cX7_begins 51 = .ok (.iadd, 1) := by decide +kernel
theorem dX7_begins_52 : decode cX7_begins 52 = .ok (.iload 6, 2) := by decide +kernel
theorem dX7_begins_54 : decode cX7_begins 54 = .ok (.iadd, 1) := by decide +kernel
theorem dX7_begins_55 : decode cX7_begins 55 = .ok (.iaload, 1) := by decide +kernel
theorem dX7_begins_56 : decode cX7_begins 56 = .ok (.aload_n 0, 1) := by decide +kernel
theorem dX7_begins_57 : decode cX7_begins 57 = .ok (.getfield 20, 3) := by decide +kernel
theorem dX7_begins_60 : decode cX7_begins 60 = .ok (.bipush 8, 2) := by decide +kernel
theorem dX7_begins_62 : decode cX7_begins 62 = .ok (.iload 4, 2) := by decide +kernel
theorem dX7_begins_64 : decode cX7_begins 64 = .ok (.imul, 1) := by decide +kernel
theorem dX7_begins_65 : decode cX7_begins 65 = .ok (.iload 6, 2) := by decide +kernel
theorem dX7_begins_67 : decode cX7_begins 67 = .ok (.iadd, 1) := by decide +kernel
theorem dX7_begins_68 : decode cX7_begins 68 = .ok (.iaload, 1) := by decide +kernel
theorem dX7_begins_69 : decode cX7_begins 69 = .ok (.if_icmp .ne 7, 3) := by decide +kernel
theorem dX7_begins_72 : decode cX7_begins 72 = .ok (.iconst 1, 1) := by decide +kernel
theorem dX7_begins_73 : decode cX7_begins 73 = .ok (.goto 4, 3) := by decide +kernel
theorem dX7_begins_76 : decode cX7_begins 76 = .ok (.iconst 0, 1) := by decide +kernel
theorem dX7_begins_77 : decode cX7_begins 77 = .ok (.istore 5, 2) := by decide +kernel
theorem dX7_begins_79 : decode cX7_begins 79 = .ok (.iinc 6 1, 3) := by decide +kernel
theorem dX7_begins_82 : decode cX7_begins 82 = .ok (.goto (-51), 3) := by decide +kernel
theorem dX7_begins_85 : decode cX7_begins 85 = .ok (.iload 5, 2) := by decide +kernel
theorem dX7_begins_87 : decode cX7_begins 87 = .ok (.ireturn, 1) := by decide +kernel
theorem dX7_beginnings_0 : decode cX7_beginnings 0 = .ok (.aload_n 0, 1) := by decide +kernel
theorem dX7_beginnings_1 : decode cX7_beginnings 1 = .ok (.iconst 0, 1) := by decide +kernel
theorem dX7_beginnings_2 : decode cX7_beginnings 2 = .ok (.putfield 32, 3) := by decide +kernel
theorem dX7_beginnings_5 : decode cX7_beginnings 5 = .ok (.iconst 0, 1) := by decide +kernel
theorem dX7_beginnings_6 : decode cX7_beginnings 6 = .ok (.istore_n 1, 1) := by decide +kernel
theorem dX7_beginnings_7 : decode cX7_beginnings 7 = .ok (.iconst 0, 1) := by decide +kernel
theorem dX7_beginnings_8 : decode cX7_beginnings 8 = .ok (.istore_n 2, 1) := by decide +kernel
theorem dX7_beginnings_9 : decode cX7_beginnings 9 = .ok (.iload_n 2, 1) := by decide +kernel
theorem dX7_beginnings_10 : decode cX7_beginnings 10 = .ok (.aload_n 0, 1) := by decide +kernel
theorem dX7_beginnings_11 : decode cX7_beginnings 11 = .ok (.getfield 36, 3) := by decide +kernel
theorem dX7_beginnings_14 : decode cX7_beginnings 14 = .ok (.if_icmp .ge 91, 3) := by decide +kernel
theorem dX7_beginnings_17 : decode cX7_beginnings 17 = .ok (.iconst 1, 1) := by decide +kernel
theorem dX7_beginnings_18 : decode cX7_beginnings 18 = .ok (.istore_n 3, 1) := by decide +kernel
theorem dX7_beginnings_19 : decode cX7_beginnings 19 = .ok (.iload_n 3, 1) := by decide +kernel
theorem dX7_beginnings_20 : decode cX7_beginnings 20 = .ok (.aload_n 0, 1) := by decide +kernel
theorem dX7_beginnings_21 : decode cX7_beginnings 21 = .ok (.getfield 17, 3) := by decide +kernel
theorem dX7_beginnings_24 : decode cX7_beginnings 24 = .ok (.iload_n 2, 1) := by decide +kernel
theorem dX7_beginnings_25 : decode cX7_beginnings 25 = .ok (.iaload, 1) := by decide +kernel
theorem dX7_beginnings_26 : decode cX7_beginnings 26 = .ok (.if_icmp .gt 73, 3) := by decide +kernel
theorem dX7_beginnings_29 : decode cX7_beginnings 29 = .ok (.aload_n 0, 1) := by decide +kernel
theorem dX7_beginnings_30 : decode cX7_beginnings 30 = .ok (.getfield 13, 3) := by decide +kernel
theorem dX7_beginnings_33 : decode cX7_beginnings 33 = .ok (.iload_n 2, 1) := by decide +kernel
theorem dX7_beginnings_34 : decode cX7_beginnings 34 = .ok (.baload, 1) := by decide +kernel
theorem dX7_beginnings_35 : decode cX7_beginnings 35 = .ok (.ifCond .eq 64, 3) := by decide +kernel
theorem dX7_beginnings_38 : decode cX7_beginnings 38 = .ok (.iconst 1, 1) := by decide +kernel
theorem dX7_beginnings_39 : decode cX7_beginnings 39 = .ok (.istore 4, 2) := by decide +kernel
theorem dX7_beginnings_41 : decode cX7_beginnings 41 = .ok (.iconst 0, 1) := by decide +kernel
theorem dX7_beginnings_42 : decode cX7_beginnings 42 = .ok (.istore 5, 2) := by decide +kernel
theorem dX7_beginnings_44 : decode cX7_beginnings 44 = .ok (.iload 5, 2) := by decide +kernel
theorem dX7_beginnings_46 : decode cX7_beginnings 46 = .ok (.iload_n 2, 1) := by decide +kernel
theorem dX7_beginnings_47 : decode cX7_beginnings 47 = .ok (.if_icmp .ge 33, 3) := by decide +kernel
theorem dX7_beginnings_50 : decode cX7_beginnings 50 = .ok (.iload 4, 2) := by decide +kernel
theorem dX7_beginnings_52 : decode cX7_beginnings 52 = .ok (.ifCond .eq 19, 3) := by decide +kernel
theorem dX7_beginnings_55 : decode cX7_beginnings 55 = .ok (.aload_n 0, 1) := by decide +kernel
theorem dX7_beginnings_56 : decode cX7_beginnings 56 = .ok (.iload_n 2, 1) := by decide +kernel
theorem dX7_beginnings_57 : decode cX7_beginnings 57 = .ok (.iconst 0, 1) := by decide +kernel
theorem dX7_beginnings_58 : decode cX7_beginnings 58 = .ok (.iload_n 3, 1) := by decide +kernel
theorem dX7_beginnings_59 : decode cX7_beginnings 59 = .ok (.iload 5, 2) := by decide +kernel
theorem dX7_beginnings_61 : decode cX7_beginnings 61 = .ok (.invokevirtual 63, 3) := by decide +kernel
theorem dX7_beginnings_64 : decode cX7_beginnings 64 = .ok (.ifCond .ne 7, 3) := by decide +kernel
theorem dX7_beginnings_67 : decode cX7_beginnings 67 = .ok (.iconst 1, 1) := by decide +kernel
theorem dX7_beginnings_68 : decode cX7_beginnings 68 = .ok (.goto 4, 3) := by decide +kernel
theorem dX7_beginnings_71 : decode cX7_beginnings 71 = .ok (.iconst 0, 1) := by decide +kernel
theorem dX7_beginnings_72 : decode cX7_beginnings 72 = .ok (.istore 4, 2) := by decide +kernel
theorem dX7_beginnings_74 : decode cX7_beginnings 74 = .ok (.iinc 5 1, 3) := by decide +kernel
theorem dX7_beginnings_77 : decode cX7_beginnings 77 = .ok (.goto (-33), 3) := by decide +kernel
theorem dX7_beginnings_80 : decode cX7_beginnings 80 = .ok (.iload_n 1, 1) := by decide +kernel
theorem dX7_beginnings_81 : decode cX7_beginnings 81 = .ok (.iload 4, 2) := by decide +kernel
theorem dX7_beginnings_83 : decode cX7_beginnings 83 = .ok (.ifCond .eq 7, 3) := by decide +kernel
theorem dX7_beginnings_86 : decode cX7_beginnings 86 = .ok (.iconst 1, 1) := by decide +kernel
theorem dX7_beginnings_87 : decode cX7_beginnings 87 = .ok (.goto 4, 3) := by decide +kernel
theorem dX7_beginnings_90 : decode cX7_beginnings 90 = .ok (.iconst 0, 1) := by decide +kernel
theorem dX7_beginnings_91 : decode cX7_beginnings 91 = .ok (.iadd, 1) := by decide +kernel
theorem dX7_beginnings_92 : decode cX7_beginnings 92 = .ok (.istore_n 1, 1) := by decide +kernel
theorem dX7_beginnings_93 : decode cX7_beginnings 93 = .ok (.iinc 3 1, 3) := by decide +kernel
theorem dX7_beginnings_96 : decode cX7_beginnings 96 = .ok (.goto (-77), 3) := by decide +kernel
theorem dX7_beginnings_99 : decode cX7_beginnings 99 = .ok (.iinc 2 1, 3) := by decide +kernel
theorem dX7_beginnings_102 : decode cX7_beginnings 102 = .ok (.goto (-93), 3) := by decide +kernel
theorem dX7_beginnings_105 : decode cX7_beginnings 105 = .ok (.iload_n 1, 1) := by decide +kernel
theorem dX7_beginnings_106 : decode cX7_beginnings 106 = .ok (.ireturn, 1) := by decide +kernel
theorem dX7_link_0 : decode cX7_link 0 = .ok (.aload_n 0, 1) := by decide +kernel
theorem dX7_link_1 : decode cX7_link 1 = .ok (.iload_n 1, 1) := by decide +kernel
theorem dX7_link_2 : decode cX7_link 2 = .ok (.invokevirtual 60, 3) := by decide +kernel
theorem dX7_link_5 : decode cX7_link 5 = .ok (.ifCond .ne 5, 3) := by decide +kernel
theorem dX7_link_8 : decode cX7_link 8 = .ok (.iconst 0, 1) := by decide +kernel
theorem dX7_link_9 : decode cX7_link 9 = .ok (.ireturn, 1) := by decide +kernel
theorem dX7_link_10 : decode cX7_link 10 = .ok (.iconst 0, 1) := by decide +kernel
theorem dX7_link_11 : decode cX7_link 11 = .ok (.istore_n 2, 1) := by decide +kernel
theorem dX7_link_12 : decode cX7_link 12 = .ok (.iconst 1, 1) := by decide +kernel
theorem dX7_link_13 : decode cX7_link 13 = .ok (.istore_n 3, 1) := by decide +kernel
theorem dX7_link_14 : decode cX7_link 14 = .ok (.iload_n 3, 1) := by decide +kernel
theorem dX7_link_15 : decode cX7_link 15 = .ok (.aload_n 0, 1) := by decide +kernel
theorem dX7_link_16 : decode cX7_link 16 = .ok (.getfield 17, 3) := by decide +kernel
theorem dX7_link_19 : decode cX7_link 19 = .ok (.iload_n 1, 1) := by decide +kernel
theorem dX7_link_20 : decode cX7_link 20 = .ok (.iaload, 1) := by decide +kernel
theorem dX7_link_21 : decode cX7_link 21 = .ok (.if_icmp .ge 52, 3) := by decide +kernel
theorem dX7_link_24 : decode cX7_link 24 = .ok (.iconst 0, 1) := by decide +kernel
theorem dX7_link_25 : decode cX7_link 25 = .ok (.istore 4, 2) := by decide +kernel
theorem dX7_link_27 : decode cX7_link 27 = .ok (.iload 4, 2) := by decide +kernel
theorem dX7_link_29 : decode cX7_link 29 = .ok (.aload_n 0, 1) := by decide +kernel
theorem dX7_link_30 : decode cX7_link 30 = .ok (.getfield 36, 3) := by decide +kernel
theorem dX7_link_33 : decode cX7_link 33 = .ok (.if_icmp .ge 34, 3) := by decide +kernel
theorem dX7_link_36 : decode cX7_link 36 = .ok (.aload_n 0, 1) := by decide +kernel
theorem dX7_link_37 : decode cX7_link 37 = .ok (.iload_n 1, 1) := by decide +kernel
theorem dX7_link_38 : decode cX7_link 38 = .ok (.aload_n 0, 1) := by decide +kernel
theorem dX7_link_39 : decode cX7_link 39 = .ok (.getfield 17, 3) := by decide +kernel
theorem dX7_link_42 : decode cX7_link 42 = .ok (.iload_n 1, 1) := by decide +kernel
theorem dX7_link_43 : decode cX7_link 43 = .ok (.iaload, 1) := by decide +kernel
theorem dX7_link_44 : decode cX7_link 44 = .ok (.iload_n 3, 1) := by decide +kernel
theorem dX7_link_45 : decode cX7_link 45 = .ok (.isub, 1) := by decide +kernel
theorem dX7_link_46 : decode cX7_link 46 = .ok (.iload_n 3, 1) := by decide +kernel
theorem dX7_link_47 : decode cX7_link 47 = .ok (.iload 4, 2) := by decide +kernel
theorem dX7_link_49 : decode cX7_link 49 = .ok (.invokevirtual 63, 3) := by decide +kernel
theorem dX7_link_52 : decode cX7_link 52 = .ok (.ifCond .eq 7, 3) := by decide +kernel
theorem dX7_link_55 : decode cX7_link 55 = .ok (.iload_n 3, 1) := by decide +kernel
theorem dX7_link_56 : decode cX7_link 56 = .ok (.goto 4, 3) := by decide +kernel
theorem dX7_link_59 : decode cX7_link 59 = .ok (.iload_n 2, 1) := by decide +kernel
theorem dX7_link_60 : decode cX7_link 60 = .ok (.istore_n 2, 1) := by decide +kernel
theorem dX7_link_61 : decode cX7_link 61 = .ok (.iinc 4 1, 3) := by decide +kernel
theorem dX7_link_64 : decode cX7_link 64 = .ok (.goto (-37), 3) := by decide +kernel
theorem dX7_link_67 : decode cX7_link 67 = .ok (.iinc 3 1, 3) := by decide +kernel
theorem dX7_link_70 : decode cX7_link 70 = .ok (.goto (-56), 3) := by decide +kernel
theorem dX7_link_73 : decode cX7_link 73 = .ok (.iload_n 2, 1) := by decide +kernel
theorem dX7_link_74 : decode cX7_link 74 = .ok (.ireturn, 1) := by decide +kernel
theorem dX7_overlap_0 : decode cX7_overlap 0 = .ok (.aload_n 0, 1) := by decide +kernel
theorem dX7_overlap_1 : decode cX7_overlap 1 = .ok (.aload_n 0, 1) := by decide +kernel
theorem dX7_overlap_2 : decode cX7_overlap 2 = .ok (.iload_n 1, 1) := by decide +kernel
theorem dX7_overlap_3 : decode cX7_overlap 3 = .ok (.invokevirtual 57, 3) := by decide +kernel
theorem dX7_overlap_6 : decode cX7_overlap 6 = .ok (.ifCond .eq 15, 3) := by decide +kernel
theorem dX7_overlap_9 : decode cX7_overlap 9 = .ok (.aload_n 0, 1) := by decide +kernel
theorem dX7_overlap_10 : decode cX7_overlap 10 = .ok (.iload_n 2, 1) := by decide +kernel
theorem dX7_overlap_11 : decode cX7_overlap 11 = .ok (.invokevirtual 57, 3) := by decide +kernel
theorem dX7_overlap_14 : decode cX7_overlap 14 = .ok (.ifCond .eq 7, 3) := by decide +kernel
theorem dX7_overlap_17 : decode cX7_overlap 17 = .ok (.iconst 0, 1) := by decide +kernel
theorem dX7_overlap_18 : decode cX7_overlap 18 = .ok (.goto 4, 3) := by decide +kernel
theorem dX7_overlap_21 : decode cX7_overlap 21 = .ok (.iconst 1, 1) := by decide +kernel
theorem dX7_overlap_22 : decode cX7_overlap 22 = .ok (.invokevirtual 46, 3) := by decide +kernel
theorem dX7_overlap_25 : decode cX7_overlap 25 = .ok (.ifCond .ne 5, 3) := by decide +kernel
theorem dX7_overlap_28 : decode cX7_overlap 28 = .ok (.iconst 0, 1) := by decide +kernel
theorem dX7_overlap_29 : decode cX7_overlap 29 = .ok (.ireturn, 1) := by decide +kernel
theorem dX7_overlap_30 : decode cX7_overlap 30 = .ok (.iconst 0, 1) := by decide +kernel
theorem dX7_overlap_31 : decode cX7_overlap 31 = .ok (.istore_n 3, 1) := by decide +kernel
theorem dX7_overlap_32 : decode cX7_overlap 32 = .ok (.iconst 1, 1) := by decide +kernel
theorem dX7_overlap_33 : decode cX7_overlap 33 = .ok (.istore 4, 2) := by decide +kernel
theorem dX7_overlap_35 : decode cX7_overlap 35 = .ok (.iload 4, 2) := by decide +kernel
theorem dX7_overlap_37 : decode cX7_overlap 37 = .ok (.aload_n 0, 1) := by decide +kernel
theorem dX7_overlap_38 : decode cX7_overlap 38 = .ok (.getfield 17, 3) := by decide +kernel
theorem dX7_overlap_41 : decode cX7_overlap 41 = .ok (.iload_n 1, 1) := by decide +kernel
theorem dX7_overlap_42 : decode cX7_overlap 42 = .ok (.iaload, 1) := by decide +kernel
theorem dX7_overlap_43 : decode cX7_overlap 43 = .ok (.if_icmp .ge 47, 3) := by decide +kernel
theorem dX7_overlap_46 : decode cX7_overlap 46 = .ok (.iload 4, 2) := by decide +kernel
theorem dX7_overlap_48 : decode cX7_overlap 48 = .ok (.aload_n 0, 1) := by decide +kernel
theorem dX7_overlap_49 : decode cX7_overlap 49 = .ok (.getfield 17, 3) := by decide +kernel
theorem dX7_overlap_52 : decode cX7_overlap 52 = .ok (.iload_n 2, 1) := by decide +kernel
theorem dX7_overlap_53 : decode cX7_overlap 53 = .ok (.iaload, 1) := by decide +kernel
theorem dX7_overlap_54 : decode cX7_overlap 54 = .ok (.if_icmp .ge 36, 3) := by decide +kernel
theorem dX7_overlap_57 : decode cX7_overlap 57 = .ok (.aload_n 0, 1) := by decide +kernel
theorem dX7_overlap_58 : decode cX7_overlap 58 = .ok (.iload_n 1, 1) := by decide +kernel
theorem dX7_overlap_59 : decode cX7_overlap 59 = .ok (.aload_n 0, 1) := by decide +kernel
theorem dX7_overlap_60 : decode cX7_overlap 60 = .ok (.getfield 17, 3) := by decide +kernel
theorem dX7_overlap_63 : decode cX7_overlap 63 = .ok (.iload_n 1, 1) := by decide +kernel
theorem dX7_overlap_64 : decode cX7_overlap 64 = .ok (.iaload, 1) := by decide +kernel
theorem dX7_overlap_65 : decode cX7_overlap 65 = .ok (.iload 4, 2) := by decide +kernel
theorem dX7_overlap_67 : decode cX7_overlap 67 = .ok (.isub, 1) := by decide +kernel
theorem dX7_overlap_68 : decode cX7_overlap 68 = .ok (.iload 4, 2) := by decide +kernel
theorem dX7_overlap_70 : decode cX7_overlap 70 = .ok (.iload_n 2, 1) := by decide +kernel
theorem dX7_overlap_71 : decode cX7_overlap 71 = .ok (.invokevirtual 63, 3) := by decide +kernel
theorem dX7_overlap_74 : decode cX7_overlap 74 = .ok (.ifCond .eq 8, 3) := by decide +kernel
theorem dX7_overlap_77 : decode cX7_overlap 77 = .ok (.iload 4, 2) := by decide +kernel
theorem dX7_overlap_79 : decode cX7_overlap 79 = .ok (.goto 4, 3) := by decide +kernel
theorem dX7_overlap_82 : decode cX7_overlap 82 = .ok (.iload_n 3, 1) := by decide +kernel
theorem dX7_overlap_83 : decode cX7_overlap 83 = .ok (.istore_n 3, 1) := by decide +kernel
theorem dX7_overlap_84 : decode cX7_overlap 84 = .ok (.iinc 4 1, 3) := by decide +kernel
theorem dX7_overlap_87 : decode cX7_overlap 87 = .ok (.goto (-52), 3) := by decide +kernel
theorem dX7_overlap_90 : decode cX7_overlap 90 = .ok (.iload_n 3, 1) := by decide +kernel
theorem dX7_overlap_91 : decode cX7_overlap 91 = .ok (.ireturn, 1) := by decide +kernel
theorem dX7_stands_0 : decode cX7_stands 0 = .ok (.aload_n 0, 1) := by decide +kernel
theorem dX7_stands_1 : decode cX7_stands 1 = .ok (.getfield 13, 3) := by decide +kernel
theorem dX7_stands_4 : decode cX7_stands 4 = .ok (.iload_n 1, 1) := by decide +kernel
theorem dX7_stands_5 : decode cX7_stands 5 = .ok (.baload, 1) := by decide +kernel
theorem dX7_stands_6 : decode cX7_stands 6 = .ok (.ifCond .eq 26, 3) := by decide +kernel
theorem dX7_stands_9 : decode cX7_stands 9 = .ok (.iload_n 2, 1) := by decide +kernel
theorem dX7_stands_10 : decode cX7_stands 10 = .ok (.ifCond .lt 22, 3) := by decide +kernel
theorem dX7_stands_13 : decode cX7_stands 13 = .ok (.iload_n 2, 1) := by decide +kernel
theorem dX7_stands_14 : decode cX7_stands 14 = .ok (.aload_n 0, 1) := by decide +kernel
theorem dX7_stands_15 : decode cX7_stands 15 = .ok (.getfield 17, 3) := by decide +kernel
theorem dX7_stands_18 : decode cX7_stands 18 = .ok (.iload_n 1, 1) := by decide +kernel
theorem dX7_stands_19 : decode cX7_stands 19 = .ok (.iaload, 1) := by decide +kernel
theorem dX7_stands_20 : decode cX7_stands 20 = .ok (.iadd, 1) := by decide +kernel
theorem dX7_stands_21 : decode cX7_stands 21 = .ok (.aload_n 0, 1) := by decide +kernel
theorem dX7_stands_22 : decode cX7_stands 22 = .ok (.getfield 67, 3) := by decide +kernel
theorem dX7_stands_25 : decode cX7_stands 25 = .ok (.if_icmp .gt 7, 3) := by decide +kernel
theorem dX7_stands_28 : decode cX7_stands 28 = .ok (.iconst 1, 1) := by decide +kernel
theorem dX7_stands_29 : decode cX7_stands 29 = .ok (.goto 4, 3) := by decide +kernel
theorem dX7_stands_32 : decode cX7_stands 32 = .ok (.iconst 0, 1) := by decide +kernel
theorem dX7_stands_33 : decode cX7_stands 33 = .ok (.istore_n 3, 1) := by decide +kernel
theorem dX7_stands_34 : decode cX7_stands 34 = .ok (.iconst 0, 1) := by decide +kernel
theorem dX7_stands_35 : decode cX7_stands 35 = .ok (.istore 4, 2) := by decide +kernel
theorem dX7_stands_37 : decode cX7_stands 37 = .ok (.iload 4, 2) := by decide +kernel
theorem dX7_stands_39 : decode cX7_stands 39 = .ok (.aload_n 0, 1) := by decide +kernel
theorem dX7_stands_40 : decode cX7_stands 40 = .ok (.getfield 17, 3) := by decide +kernel
theorem dX7_stands_43 : decode cX7_stands 43 = .ok (.iload_n 1, 1) := by decide +kernel
theorem dX7_stands_44 : decode cX7_stands 44 = .ok (.iaload, 1) := by decide +kernel
theorem dX7_stands_45 : decode cX7_stands 45 = .ok (.if_icmp .ge 43, 3) := by decide +kernel
theorem dX7_stands_48 : decode cX7_stands 48 = .ok (.iload_n 3, 1) := by decide +kernel
theorem dX7_stands_49 : decode cX7_stands 49 = .ok (.ifCond .eq 39, 3) := by decide +kernel
theorem dX7_stands_52 : decode cX7_stands 52 = .ok (.aload_n 0, 1) := by decide +kernel
theorem dX7_stands_53 : decode cX7_stands 53 = .ok (.getfield 29, 3) := by decide +kernel
theorem dX7_stands_56 : decode cX7_stands 56 = .ok (.iload_n 2, 1) := by decide +kernel
theorem dX7_stands_57 : decode cX7_stands 57 = .ok (.iload 4, 2) := by decide +kernel
theorem dX7_stands_59 : decode cX7_stands 59 = .ok (.iadd, 1) := by decide +kernel
theorem dX7_stands_60 : decode cX7_stands 60 = .ok (.iaload, 1) := by decide +kernel
theorem dX7_stands_61 : decode cX7_stands 61 = .ok (.aload_n 0, 1) := by decide +kernel
theorem dX7_stands_62 : decode cX7_stands 62 = .ok (.getfield 20, 3) := by decide +kernel
theorem dX7_stands_65 : decode cX7_stands 65 = .ok (.bipush 8, 2) := by decide +kernel
theorem dX7_stands_67 : decode cX7_stands 67 = .ok (.iload_n 1, 1) := by decide +kernel
theorem dX7_stands_68 : decode cX7_stands 68 = .ok (.imul, 1) := by decide +kernel
theorem dX7_stands_69 : decode cX7_stands 69 = .ok (.iload 4, 2) := by decide +kernel
theorem dX7_stands_71 : decode cX7_stands 71 = .ok (.iadd, 1) := by decide +kernel
theorem dX7_stands_72 : decode cX7_stands 72 = .ok (.iaload, 1) := by decide +kernel
theorem dX7_stands_73 : decode cX7_stands 73 = .ok (.if_icmp .ne 7, 3) := by decide +kernel
theorem dX7_stands_76 : decode cX7_stands 76 = .ok (.iconst 1, 1) := by decide +kernel
theorem dX7_stands_77 : decode cX7_stands 77 = .ok (.goto 4, 3) := by decide +kernel
theorem dX7_stands_80 : decode cX7_stands 80 = .ok (.iconst 0, 1) := by decide +kernel
theorem dX7_stands_81 : decode cX7_stands 81 = .ok (.istore_n 3, 1) := by decide +kernel
theorem dX7_stands_82 : decode cX7_stands 82 = .ok (.iinc 4 1, 3) := by decide +kernel
theorem dX7_stands_85 : decode cX7_stands 85 = .ok (.goto (-48), 3) := by decide +kernel
theorem dX7_stands_88 : decode cX7_stands 88 = .ok (.iload_n 3, 1) := by decide +kernel
theorem dX7_stands_89 : decode cX7_stands 89 = .ok (.ireturn, 1) := by decide +kernel
theorem dX7_endingAt_0 : decode cX7_endingAt 0 = .ok (.iconst 0, 1) := by decide +kernel
theorem dX7_endingAt_1 : decode cX7_endingAt 1 = .ok (.istore_n 2, 1) := by decide +kernel
theorem dX7_endingAt_2 : decode cX7_endingAt 2 = .ok (.iconst 0, 1) := by decide +kernel
theorem dX7_endingAt_3 : decode cX7_endingAt 3 = .ok (.istore_n 3, 1) := by decide +kernel
theorem dX7_endingAt_4 : decode cX7_endingAt 4 = .ok (.iload_n 3, 1) := by decide +kernel
theorem dX7_endingAt_5 : decode cX7_endingAt 5 = .ok (.aload_n 0, 1) := by decide +kernel
theorem dX7_endingAt_6 : decode cX7_endingAt 6 = .ok (.getfield 36, 3) := by decide +kernel
theorem dX7_endingAt_9 : decode cX7_endingAt 9 = .ok (.if_icmp .ge 33, 3) := by decide +kernel
theorem dX7_endingAt_12 : decode cX7_endingAt 12 = .ok (.iload_n 2, 1) := by decide +kernel
theorem dX7_endingAt_13 : decode cX7_endingAt 13 = .ok (.aload_n 0, 1) := by decide +kernel
theorem dX7_endingAt_14 : decode cX7_endingAt 14 = .ok (.iload_n 3, 1) := by decide +kernel
theorem dX7_endingAt_15 : decode cX7_endingAt 15 = .ok (.iload_n 1, 1) := by decide +kernel
theorem dX7_endingAt_16 : decode cX7_endingAt 16 = .ok (.aload_n 0, 1) := by decide +kernel
theorem dX7_endingAt_17 : decode cX7_endingAt 17 = .ok (.getfield 17, 3) := by decide +kernel
theorem dX7_endingAt_20 : decode cX7_endingAt 20 = .ok (.iload_n 3, 1) := by decide +kernel
theorem dX7_endingAt_21 : decode cX7_endingAt 21 = .ok (.iaload, 1) := by decide +kernel
theorem dX7_endingAt_22 : decode cX7_endingAt 22 = .ok (.isub, 1) := by decide +kernel
theorem dX7_endingAt_23 : decode cX7_endingAt 23 = .ok (.invokevirtual 70, 3) := by decide +kernel
theorem dX7_endingAt_26 : decode cX7_endingAt 26 = .ok (.ifCond .eq 7, 3) := by decide +kernel
theorem dX7_endingAt_29 : decode cX7_endingAt 29 = .ok (.iconst 1, 1) := by decide +kernel
theorem dX7_endingAt_30 : decode cX7_endingAt 30 = .ok (.goto 4, 3) := by decide +kernel
theorem dX7_endingAt_33 : decode cX7_endingAt 33 = .ok (.iconst 0, 1) := by decide +kernel
theorem dX7_endingAt_34 : decode cX7_endingAt 34 = .ok (.iadd, 1) := by decide +kernel
theorem dX7_endingAt_35 : decode cX7_endingAt 35 = .ok (.istore_n 2, 1) := by decide +kernel
theorem dX7_endingAt_36 : decode cX7_endingAt 36 = .ok (.iinc 3 1, 3) := by decide +kernel
theorem dX7_endingAt_39 : decode cX7_endingAt 39 = .ok (.goto (-35), 3) := by decide +kernel
theorem dX7_endingAt_42 : decode cX7_endingAt 42 = .ok (.iload_n 2, 1) := by decide +kernel
theorem dX7_endingAt_43 : decode cX7_endingAt 43 = .ok (.ireturn, 1) := by decide +kernel
theorem dX7_feeds_0 : decode cX7_feeds 0 = .ok (.aload_n 0, 1) := by decide +kernel
theorem dX7_feeds_1 : decode cX7_feeds 1 = .ok (.getfield 29, 3) := by decide +kernel
theorem dX7_feeds_4 : decode cX7_feeds 4 = .ok (.aload_n 0, 1) := by decide +kernel
theorem dX7_feeds_5 : decode cX7_feeds 5 = .ok (.getfield 67, 3) := by decide +kernel
theorem dX7_feeds_8 : decode cX7_feeds 8 = .ok (.iload_n 1, 1) := by decide +kernel
theorem dX7_feeds_9 : decode cX7_feeds 9 = .ok (.iastore, 1) := by decide +kernel
theorem dX7_feeds_10 : decode cX7_feeds 10 = .ok (.aload_n 0, 1) := by decide +kernel
theorem dX7_feeds_11 : decode cX7_feeds 11 = .ok (.dup, 1) := by decide +kernel
theorem dX7_feeds_12 : decode cX7_feeds 12 = .ok (.getfield 67, 3) := by decide +kernel
theorem dX7_feeds_15 : decode cX7_feeds 15 = .ok (.iconst 1, 1) := by decide +kernel
theorem dX7_feeds_16 : decode cX7_feeds 16 = .ok (.iadd, 1) := by decide +kernel
theorem dX7_feeds_17 : decode cX7_feeds 17 = .ok (.putfield 67, 3) := by decide +kernel
theorem dX7_feeds_20 : decode cX7_feeds 20 = .ok (.aload_n 0, 1) := by decide +kernel
theorem dX7_feeds_21 : decode cX7_feeds 21 = .ok (.aload_n 0, 1) := by decide +kernel
theorem dX7_feeds_22 : decode cX7_feeds 22 = .ok (.getfield 67, 3) := by decide +kernel
theorem dX7_feeds_25 : decode cX7_feeds 25 = .ok (.invokevirtual 74, 3) := by decide +kernel
theorem dX7_feeds_28 : decode cX7_feeds 28 = .ok (.istore_n 2, 1) := by decide +kernel
theorem dX7_feeds_29 : decode cX7_feeds 29 = .ok (.aload_n 0, 1) := by decide +kernel
theorem dX7_feeds_30 : decode cX7_feeds 30 = .ok (.dup, 1) := by decide +kernel
theorem dX7_feeds_31 : decode cX7_feeds 31 = .ok (.getfield 78, 3) := by decide +kernel
theorem dX7_feeds_34 : decode cX7_feeds 34 = .ok (.iload_n 2, 1) := by decide +kernel
theorem dX7_feeds_35 : decode cX7_feeds 35 = .ok (.iadd, 1) := by decide +kernel
theorem dX7_feeds_36 : decode cX7_feeds 36 = .ok (.putfield 78, 3) := by decide +kernel
theorem dX7_feeds_39 : decode cX7_feeds 39 = .ok (.iload_n 2, 1) := by decide +kernel
theorem dX7_feeds_40 : decode cX7_feeds 40 = .ok (.ireturn, 1) := by decide +kernel
theorem dX7_feed_0 : decode cX7_feed 0 = .ok (.aload_n 0, 1) := by decide +kernel
theorem dX7_feed_1 : decode cX7_feed 1 = .ok (.iload_n 1, 1) := by decide +kernel
theorem dX7_feed_2 : decode cX7_feed 2 = .ok (.invokestatic 39, 3) := by decide +kernel
theorem dX7_feed_5 : decode cX7_feed 5 = .ok (.ifCond .ne 7, 3) := by decide +kernel
theorem dX7_feed_8 : decode cX7_feed 8 = .ok (.iconst 1, 1) := by decide +kernel
theorem dX7_feed_9 : decode cX7_feed 9 = .ok (.goto 18, 3) := by decide +kernel
theorem dX7_feed_12 : decode cX7_feed 12 = .ok (.aload_n 0, 1) := by decide +kernel
theorem dX7_feed_13 : decode cX7_feed 13 = .ok (.getfield 67, 3) := by decide +kernel
theorem dX7_feed_16 : decode cX7_feed 16 = .ok (.sipush 200, 3) := by decide +kernel
theorem dX7_feed_19 : decode cX7_feed 19 = .ok (.if_icmp .ne 7, 3) := by decide +kernel
theorem dX7_feed_22 : decode cX7_feed 22 = .ok (.iconst 2, 1) := by decide +kernel
theorem dX7_feed_23 : decode cX7_feed 23 = .ok (.goto 4, 3) := by decide +kernel
theorem dX7_feed_26 : decode cX7_feed 26 = .ok (.iconst 0, 1) := by decide +kernel
theorem dX7_feed_27 : decode cX7_feed 27 = .ok (.invokevirtual 46, 3) := by decide +kernel
theorem dX7_feed_30 : decode cX7_feed 30 = .ok (.ifCond .ne 5, 3) := by decide +kernel
theorem dX7_feed_33 : decode cX7_feed 33 = .ok (.iconst 0, 1) := by decide +kernel
theorem dX7_feed_34 : decode cX7_feed 34 = .ok (.ireturn, 1) := by decide +kernel
theorem dX7_feed_35 : decode cX7_feed 35 = .ok (.aload_n 0, 1) := by decide +kernel
theorem dX7_feed_36 : decode cX7_feed 36 = .ok (.iload_n 1, 1) := by decide +kernel
theorem dX7_feed_37 : decode cX7_feed 37 = .ok (.invokevirtual 81, 3) := by decide +kernel
theorem dX7_feed_40 : decode cX7_feed 40 = .ok (.ireturn, 1) := by decide +kernel
theorem dX7_feedPattern_0 : decode cX7_feedPattern 0 = .ok (.aload_n 0, 1) := by decide +kernel
theorem dX7_feedPattern_1 : decode cX7_feedPattern 1 = .ok (.iload_n 1, 1) := by decide +kernel
theorem dX7_feedPattern_2 : decode cX7_feedPattern 2 = .ok (.invokevirtual 57, 3) := by decide +kernel
theorem dX7_feedPattern_5 : decode cX7_feedPattern 5 = .ok (.istore_n 2, 1) := by decide +kernel
theorem dX7_feedPattern_6 : decode cX7_feedPattern 6 = .ok (.aload_n 0, 1) := by decide +kernel
theorem dX7_feedPattern_7 : decode cX7_feedPattern 7 = .ok (.iload_n 2, 1) := by decide +kernel
theorem dX7_feedPattern_8 : decode cX7_feedPattern 8 = .ok (.ifCond .ne 7, 3) := by decide +kernel
theorem dX7_feedPattern_11 : decode cX7_feedPattern 11 = .ok (.iconst 1, 1) := by decide +kernel
theorem dX7_feedPattern_12 : decode cX7_feedPattern 12 = .ok (.goto 25, 3) := by decide +kernel
theorem dX7_feedPattern_15 : decode cX7_feedPattern 15 = .ok (.aload_n 0, 1) := by decide +kernel
theorem dX7_feedPattern_16 : decode cX7_feedPattern 16 = .ok (.getfield 67, 3) := by decide +kernel
theorem dX7_feedPattern_19 : decode cX7_feedPattern 19 = .ok (.aload_n 0, 1) := by decide +kernel
theorem dX7_feedPattern_20 : decode cX7_feedPattern 20 = .ok (.getfield 17, 3) := by decide +kernel
theorem dX7_feedPattern_23 : decode cX7_feedPattern 23 = .ok (.iload_n 1, 1) := by decide +kernel
theorem dX7_feedPattern_24 : decode cX7_feedPattern 24 = .ok (.iaload, 1) := by decide +kernel
theorem dX7_feedPattern_25 : decode cX7_feedPattern 25 = .ok (.iadd, 1) := by decide +kernel
theorem dX7_feedPattern_26 : decode cX7_feedPattern 26 = .ok (.sipush 200, 3) := by decide +kernel
theorem dX7_feedPattern_29 : decode cX7_feedPattern 29 = .ok (.if_icmp .le 7, 3) := by decide +kernel
theorem dX7_feedPattern_32 : decode cX7_feedPattern 32 = .ok (.iconst 2, 1) := by decide +kernel
theorem dX7_feedPattern_33 : decode cX7_feedPattern 33 = .ok (.goto 4, 3) := by decide +kernel
theorem dX7_feedPattern_36 : decode cX7_feedPattern 36 = .ok (.iconst 0, 1) := by decide +kernel
theorem dX7_feedPattern_37 : decode cX7_feedPattern 37 = .ok (.invokevirtual 46, 3) := by decide +kernel
theorem dX7_feedPattern_40 : decode cX7_feedPattern 40 = .ok (.ifCond .ne 5, 3) := by decide +kernel
theorem dX7_feedPattern_43 : decode cX7_feedPattern 43 = .ok (.iconst 0, 1) := by decide +kernel
theorem dX7_feedPattern_44 : decode cX7_feedPattern 44 = .ok (.ireturn, 1) := by decide +kernel
theorem dX7_feedPattern_45 : decode cX7_feedPattern 45 = .ok (.iconst 0, 1) := by decide +kernel
theorem dX7_feedPattern_46 : decode cX7_feedPattern 46 = .ok (.istore_n 3, 1) := by decide +kernel
theorem dX7_feedPattern_47 : decode cX7_feedPattern 47 = .ok (.iconst 0, 1) := by decide +kernel
theorem dX7_feedPattern_48 : decode cX7_feedPattern 48 = .ok (.istore 4, 2) := by decide +kernel
theorem dX7_feedPattern_50 : decode cX7_feedPattern 50 = .ok (.iload 4, 2) := by decide +kernel
theorem dX7_feedPattern_52 : decode cX7_feedPattern 52 = .ok (.aload_n 0, 1) := by decide +kernel
theorem dX7_feedPattern_53 : decode cX7_feedPattern 53 = .ok (.getfield 17, 3) := by decide +kernel
theorem dX7_feedPattern_56 : decode cX7_feedPattern 56 = .ok (.iload_n 1, 1) := by decide +kernel
theorem dX7_feedPattern_57 : decode cX7_feedPattern 57 = .ok (.iaload, 1) := by decide +kernel
theorem dX7_feedPattern_58 : decode cX7_feedPattern 58 = .ok (.if_icmp .ge 28, 3) := by decide +kernel
theorem dX7_feedPattern_61 : decode cX7_feedPattern 61 = .ok (.iload_n 3, 1) := by decide +kernel
theorem dX7_feedPattern_62 : decode cX7_feedPattern 62 = .ok (.aload_n 0, 1) := by decide +kernel
theorem dX7_feedPattern_63 : decode cX7_feedPattern 63 = .ok (.aload_n 0, 1) := by decide +kernel
theorem dX7_feedPattern_64 : decode cX7_feedPattern 64 = .ok (.getfield 20, 3) := by decide +kernel
theorem dX7_feedPattern_67 : decode cX7_feedPattern 67 = .ok (.bipush 8, 2) := by decide +kernel
theorem dX7_feedPattern_69 : decode cX7_feedPattern 69 = .ok (.iload_n 1, 1) := by decide +kernel
theorem dX7_feedPattern_70 : decode cX7_feedPattern 70 = .ok (.imul, 1) := by decide +kernel
theorem dX7_feedPattern_71 : decode cX7_feedPattern 71 = .ok (.iload 4, 2) := by decide +kernel
theorem dX7_feedPattern_73 : decode cX7_feedPattern 73 = .ok (.iadd, 1) := by decide +kernel
theorem dX7_feedPattern_74 : decode cX7_feedPattern 74 = .ok (.iaload, 1) := by decide +kernel
theorem dX7_feedPattern_75 : decode cX7_feedPattern 75 = .ok (.invokevirtual 81, 3) := by decide +kernel
theorem dX7_feedPattern_78 : decode cX7_feedPattern 78 = .ok (.iadd, 1) := by decide +kernel
theorem dX7_feedPattern_79 : decode cX7_feedPattern 79 = .ok (.istore_n 3, 1) := by decide +kernel
theorem dX7_feedPattern_80 : decode cX7_feedPattern 80 = .ok (.iinc 4 1, 3) := by decide +kernel
theorem dX7_feedPattern_83 : decode cX7_feedPattern 83 = .ok (.goto (-33), 3) := by decide +kernel
theorem dX7_feedPattern_86 : decode cX7_feedPattern 86 = .ok (.iload_n 3, 1) := by decide +kernel
theorem dX7_feedPattern_87 : decode cX7_feedPattern 87 = .ok (.ireturn, 1) := by decide +kernel
theorem dX7_clear_0 : decode cX7_clear 0 = .ok (.aload_n 0, 1) := by decide +kernel
theorem dX7_clear_1 : decode cX7_clear 1 = .ok (.iconst 0, 1) := by decide +kernel
theorem dX7_clear_2 : decode cX7_clear 2 = .ok (.putfield 32, 3) := by decide +kernel
theorem dX7_clear_5 : decode cX7_clear 5 = .ok (.aload_n 0, 1) := by decide +kernel
theorem dX7_clear_6 : decode cX7_clear 6 = .ok (.getfield 67, 3) := by decide +kernel
theorem dX7_clear_9 : decode cX7_clear 9 = .ok (.istore_n 1, 1) := by decide +kernel
theorem dX7_clear_10 : decode cX7_clear 10 = .ok (.aload_n 0, 1) := by decide +kernel
theorem dX7_clear_11 : decode cX7_clear 11 = .ok (.iconst 0, 1) := by decide +kernel
theorem dX7_clear_12 : decode cX7_clear 12 = .ok (.putfield 67, 3) := by decide +kernel
theorem dX7_clear_15 : decode cX7_clear 15 = .ok (.aload_n 0, 1) := by decide +kernel
theorem dX7_clear_16 : decode cX7_clear 16 = .ok (.iconst 0, 1) := by decide +kernel
theorem dX7_clear_17 : decode cX7_clear 17 = .ok (.putfield 78, 3) := by decide +kernel
theorem dX7_clear_20 : decode cX7_clear 20 = .ok (.iload_n 1, 1) := by decide +kernel
theorem dX7_clear_21 : decode cX7_clear 21 = .ok (.ireturn, 1) := by decide +kernel
theorem dX7_streamLength_0 : decode cX7_streamLength 0 = .ok (.aload_n 0, 1) := by decide +kernel
theorem dX7_streamLength_1 : decode cX7_streamLength 1 = .ok (.iconst 0, 1) := by decide +kernel
theorem dX7_streamLength_2 : decode cX7_streamLength 2 = .ok (.putfield 32, 3) := by decide +kernel
theorem dX7_streamLength_5 : decode cX7_streamLength 5 = .ok (.aload_n 0, 1) := by decide +kernel
theorem dX7_streamLength_6 : decode cX7_streamLength 6 = .ok (.getfield 67, 3) := by decide +kernel
theorem dX7_streamLength_9 : decode cX7_streamLength 9 = .ok (.ireturn, 1) := by decide +kernel
theorem dX7_isBeginning_0 : decode cX7_isBeginning 0 = .ok (.aload_n 0, 1) := by decide +kernel
theorem dX7_isBeginning_1 : decode cX7_isBeginning 1 = .ok (.getfield 13, 3) := by decide +kernel
theorem dX7_isBeginning_4 : decode cX7_isBeginning 4 = .ok (.iload_n 2, 1) := by decide +kernel
theorem dX7_isBeginning_5 : decode cX7_isBeginning 5 = .ok (.baload, 1) := by decide +kernel
theorem dX7_isBeginning_6 : decode cX7_isBeginning 6 = .ok (.ifCond .eq 22, 3) := by decide +kernel
theorem dX7_isBeginning_9 : decode cX7_isBeginning 9 = .ok (.aload_n 0, 1) := by decide +kernel
theorem dX7_isBeginning_10 : decode cX7_isBeginning 10 = .ok (.getfield 67, 3) := by decide +kernel
theorem dX7_isBeginning_13 : decode cX7_isBeginning 13 = .ok (.iload_n 1, 1) := by decide +kernel
theorem dX7_isBeginning_14 : decode cX7_isBeginning 14 = .ok (.isub, 1) := by decide +kernel
theorem dX7_isBeginning_15 : decode cX7_isBeginning 15 = .ok (.aload_n 0, 1) := by decide +kernel
theorem dX7_isBeginning_16 : decode cX7_isBeginning 16 = .ok (.getfield 17, 3) := by decide +kernel
theorem dX7_isBeginning_19 : decode cX7_isBeginning 19 = .ok (.iload_n 2, 1) := by decide +kernel
theorem dX7_isBeginning_20 : decode cX7_isBeginning 20 = .ok (.iaload, 1) := by decide +kernel
theorem dX7_isBeginning_21 : decode cX7_isBeginning 21 = .ok (.if_icmp .gt 7, 3) := by decide +kernel
theorem dX7_isBeginning_24 : decode cX7_isBeginning 24 = .ok (.iconst 1, 1) := by decide +kernel
theorem dX7_isBeginning_25 : decode cX7_isBeginning 25 = .ok (.goto 4, 3) := by decide +kernel
theorem dX7_isBeginning_28 : decode cX7_isBeginning 28 = .ok (.iconst 0, 1) := by decide +kernel
theorem dX7_isBeginning_29 : decode cX7_isBeginning 29 = .ok (.istore_n 3, 1) := by decide +kernel
theorem dX7_isBeginning_30 : decode cX7_isBeginning 30 = .ok (.iconst 0, 1) := by decide +kernel
theorem dX7_isBeginning_31 : decode cX7_isBeginning 31 = .ok (.istore 4, 2) := by decide +kernel
theorem dX7_isBeginning_33 : decode cX7_isBeginning 33 = .ok (.iload 4, 2) := by decide +kernel
theorem dX7_isBeginning_35 : decode cX7_isBeginning 35 = .ok (.aload_n 0, 1) := by decide +kernel
theorem dX7_isBeginning_36 : decode cX7_isBeginning 36 = .ok (.getfield 67, 3) := by decide +kernel
theorem dX7_isBeginning_39 : decode cX7_isBeginning 39 = .ok (.iload_n 1, 1) := by decide +kernel
theorem dX7_isBeginning_40 : decode cX7_isBeginning 40 = .ok (.isub, 1) := by decide +kernel
theorem dX7_isBeginning_41 : decode cX7_isBeginning 41 = .ok (.if_icmp .ge 43, 3) := by decide +kernel
theorem dX7_isBeginning_44 : decode cX7_isBeginning 44 = .ok (.iload_n 3, 1) := by decide +kernel
theorem dX7_isBeginning_45 : decode cX7_isBeginning 45 = .ok (.ifCond .eq 39, 3) := by decide +kernel
theorem dX7_isBeginning_48 : decode cX7_isBeginning 48 = .ok (.aload_n 0, 1) := by decide +kernel
theorem dX7_isBeginning_49 : decode cX7_isBeginning 49 = .ok (.getfield 29, 3) := by decide +kernel
theorem dX7_isBeginning_52 : decode cX7_isBeginning 52 = .ok (.iload_n 1, 1) := by decide +kernel
theorem dX7_isBeginning_53 : decode cX7_isBeginning 53 = .ok (.iload 4, 2) := by decide +kernel
theorem dX7_isBeginning_55 : decode cX7_isBeginning 55 = .ok (.iadd, 1) := by decide +kernel
theorem dX7_isBeginning_56 : decode cX7_isBeginning 56 = .ok (.iaload, 1) := by decide +kernel
theorem dX7_isBeginning_57 : decode cX7_isBeginning 57 = .ok (.aload_n 0, 1) := by decide +kernel
theorem dX7_isBeginning_58 : decode cX7_isBeginning 58 = .ok (.getfield 20, 3) := by decide +kernel
theorem dX7_isBeginning_61 : decode cX7_isBeginning 61 = .ok (.bipush 8, 2) := by decide +kernel
theorem dX7_isBeginning_63 : decode cX7_isBeginning 63 = .ok (.iload_n 2, 1) := by decide +kernel
theorem dX7_isBeginning_64 : decode cX7_isBeginning 64 = .ok (.imul, 1) := by decide +kernel
theorem dX7_isBeginning_65 : decode cX7_isBeginning 65 = .ok (.iload 4, 2) := by decide +kernel
theorem dX7_isBeginning_67 : decode cX7_isBeginning 67 = .ok (.iadd, 1) := by decide +kernel
theorem dX7_isBeginning_68 : decode cX7_isBeginning 68 = .ok (.iaload, 1) := by decide +kernel
theorem dX7_isBeginning_69 : decode cX7_isBeginning 69 = .ok (.if_icmp .ne 7, 3) := by decide +kernel
theorem dX7_isBeginning_72 : decode cX7_isBeginning 72 = .ok (.iconst 1, 1) := by decide +kernel
theorem dX7_isBeginning_73 : decode cX7_isBeginning 73 = .ok (.goto 4, 3) := by decide +kernel
theorem dX7_isBeginning_76 : decode cX7_isBeginning 76 = .ok (.iconst 0, 1) := by decide +kernel
theorem dX7_isBeginning_77 : decode cX7_isBeginning 77 = .ok (.istore_n 3, 1) := by decide +kernel
theorem dX7_isBeginning_78 : decode cX7_isBeginning 78 = .ok (.iinc 4 1, 3) := by decide +kernel
theorem dX7_isBeginning_81 : decode cX7_isBeginning 81 = .ok (.goto (-48), 3) := by decide +kernel
theorem dX7_isBeginning_84 : decode cX7_isBeginning 84 = .ok (.iload_n 3, 1) := by decide +kernel
theorem dX7_isBeginning_85 : decode cX7_isBeginning 85 = .ok (.ireturn, 1) := by decide +kernel
theorem dX7_depth_0 : decode cX7_depth 0 = .ok (.aload_n 0, 1) := by decide +kernel
theorem dX7_depth_1 : decode cX7_depth 1 = .ok (.iconst 0, 1) := by decide +kernel
theorem dX7_depth_2 : decode cX7_depth 2 = .ok (.putfield 32, 3) := by decide +kernel
theorem dX7_depth_5 : decode cX7_depth 5 = .ok (.iconst 0, 1) := by decide +kernel
theorem dX7_depth_6 : decode cX7_depth 6 = .ok (.istore_n 1, 1) := by decide +kernel
theorem dX7_depth_7 : decode cX7_depth 7 = .ok (.iconst 1, 1) := by decide +kernel
theorem dX7_depth_8 : decode cX7_depth 8 = .ok (.istore_n 2, 1) := by decide +kernel
theorem dX7_depth_9 : decode cX7_depth 9 = .ok (.iload_n 2, 1) := by decide +kernel
theorem dX7_depth_10 : decode cX7_depth 10 = .ok (.bipush 8, 2) := by decide +kernel
theorem dX7_depth_12 : decode cX7_depth 12 = .ok (.if_icmp .gt 53, 3) := by decide +kernel
theorem dX7_depth_15 : decode cX7_depth 15 = .ok (.iload_n 2, 1) := by decide +kernel
theorem dX7_depth_16 : decode cX7_depth 16 = .ok (.aload_n 0, 1) := by decide +kernel
theorem dX7_depth_17 : decode cX7_depth 17 = .ok (.getfield 67, 3) := by decide +kernel
theorem dX7_depth_20 : decode cX7_depth 20 = .ok (.if_icmp .gt 45, 3) := by decide +kernel
theorem dX7_depth_23 : decode cX7_depth 23 = .ok (.iconst 0, 1) := by decide +kernel
theorem dX7_depth_24 : decode cX7_depth 24 = .ok (.istore_n 3, 1) := by decide +kernel
theorem dX7_depth_25 : decode cX7_depth 25 = .ok (.iload_n 3, 1) := by decide +kernel
theorem dX7_depth_26 : decode cX7_depth 26 = .ok (.aload_n 0, 1) := by decide +kernel
theorem dX7_depth_27 : decode cX7_depth 27 = .ok (.getfield 36, 3) := by decide +kernel
theorem dX7_depth_30 : decode cX7_depth 30 = .ok (.if_icmp .ge 29, 3) := by decide +kernel
theorem dX7_depth_33 : decode cX7_depth 33 = .ok (.aload_n 0, 1) := by decide +kernel
theorem dX7_depth_34 : decode cX7_depth 34 = .ok (.aload_n 0, 1) := by decide +kernel
theorem dX7_depth_35 : decode cX7_depth 35 = .ok (.getfield 67, 3) := by decide +kernel
theorem dX7_depth_38 : decode cX7_depth 38 = .ok (.iload_n 2, 1) := by decide +kernel
theorem dX7_depth_39 : decode cX7_depth 39 = .ok (.isub, 1) := by decide +kernel
theorem dX7_depth_40 : decode cX7_depth 40 = .ok (.iload_n 3, 1) := by decide +kernel
theorem dX7_depth_41 : decode cX7_depth 41 = .ok (.invokevirtual 84, 3) := by decide +kernel
theorem dX7_depth_44 : decode cX7_depth 44 = .ok (.ifCond .eq 7, 3) := by decide +kernel
theorem dX7_depth_47 : decode cX7_depth 47 = .ok (.iload_n 2, 1) := by decide +kernel
theorem dX7_depth_48 : decode cX7_depth 48 = .ok (.goto 4, 3) := by decide +kernel
theorem dX7_depth_51 : decode cX7_depth 51 = .ok (.iload_n 1, 1) := by decide +kernel
theorem dX7_depth_52 : decode cX7_depth 52 = .ok (.istore_n 1, 1) := by decide +kernel
theorem dX7_depth_53 : decode cX7_depth 53 = .ok (.iinc 3 1, 3) := by decide +kernel
theorem dX7_depth_56 : decode cX7_depth 56 = .ok (.goto (-31), 3) := by decide +kernel
theorem dX7_depth_59 : decode cX7_depth 59 = .ok (.iinc 2 1, 3) := by decide +kernel
theorem dX7_depth_62 : decode cX7_depth 62 = .ok (.goto (-53), 3) := by decide +kernel
theorem dX7_depth_65 : decode cX7_depth 65 = .ok (.iload_n 1, 1) := by decide +kernel
theorem dX7_depth_66 : decode cX7_depth 66 = .ok (.ireturn, 1) := by decide +kernel
theorem dX7_ending_0 : decode cX7_ending 0 = .ok (.aload_n 0, 1) := by decide +kernel
theorem dX7_ending_1 : decode cX7_ending 1 = .ok (.iconst 0, 1) := by decide +kernel
theorem dX7_ending_2 : decode cX7_ending 2 = .ok (.putfield 32, 3) := by decide +kernel
theorem dX7_ending_5 : decode cX7_ending 5 = .ok (.aload_n 0, 1) := by decide +kernel
theorem dX7_ending_6 : decode cX7_ending 6 = .ok (.getfield 67, 3) := by decide +kernel
theorem dX7_ending_9 : decode cX7_ending 9 = .ok (.ifCond .ne 7, 3) := by decide +kernel
theorem dX7_ending_12 : decode cX7_ending 12 = .ok (.iconst 0, 1) := by decide +kernel
theorem dX7_ending_13 : decode cX7_ending 13 = .ok (.goto 11, 3) := by decide +kernel
theorem dX7_ending_16 : decode cX7_ending 16 = .ok (.aload_n 0, 1) := by decide +kernel
theorem dX7_ending_17 : decode cX7_ending 17 = .ok (.aload_n 0, 1) := by decide +kernel
theorem dX7_ending_18 : decode cX7_ending 18 = .ok (.getfield 67, 3) := by decide +kernel
theorem dX7_ending_21 : decode cX7_ending 21 = .ok (.invokevirtual 74, 3) := by decide +kernel
theorem dX7_ending_24 : decode cX7_ending 24 = .ok (.ireturn, 1) := by decide +kernel
theorem dX7_endingPattern_0 : decode cX7_endingPattern 0 = .ok (.iload_n 1, 1) := by decide +kernel
theorem dX7_endingPattern_1 : decode cX7_endingPattern 1 = .ok (.istore_n 2, 1) := by decide +kernel
theorem dX7_endingPattern_2 : decode cX7_endingPattern 2 = .ok (.iconst (-1), 1) := by decide +kernel
theorem dX7_endingPattern_3 : decode cX7_endingPattern 3 = .ok (.istore_n 3, 1) := by decide +kernel
theorem dX7_endingPattern_4 : decode cX7_endingPattern 4 = .ok (.bipush 8, 2) := by decide +kernel
theorem dX7_endingPattern_6 : decode cX7_endingPattern 6 = .ok (.istore 4, 2) := by decide +kernel
theorem dX7_endingPattern_8 : decode cX7_endingPattern 8 = .ok (.iload 4, 2) := by decide +kernel
theorem dX7_endingPattern_10 : decode cX7_endingPattern 10 = .ok (.ifCond .le 77, 3) := by decide +kernel
theorem dX7_endingPattern_13 : decode cX7_endingPattern 13 = .ok (.iload_n 2, 1) := by decide +kernel
theorem dX7_endingPattern_14 : decode cX7_endingPattern 14 = .ok (.ifCond .lt 73, 3) := by decide +kernel
theorem dX7_endingPattern_17 : decode cX7_endingPattern 17 = .ok (.iconst 0, 1) := by decide +kernel
theorem dX7_endingPattern_18 : decode cX7_endingPattern 18 = .ok (.istore 5, 2) := by decide +kernel
theorem dX7_endingPattern_20 : decode cX7_endingPattern 20 = .ok (.iload 5, 2) := by decide +kernel
theorem dX7_endingPattern_22 : decode cX7_endingPattern 22 = .ok (.aload_n 0, 1) := by decide +kernel
theorem dX7_endingPattern_23 : decode cX7_endingPattern 23 = .ok (.getfield 36, 3) := by decide +kernel
theorem dX7_endingPattern_26 : decode cX7_endingPattern 26 = .ok (.if_icmp .ge 55, 3) := by decide +kernel
theorem dX7_endingPattern_29 : decode cX7_endingPattern 29 = .ok (.iload_n 2, 1) := by decide +kernel
theorem dX7_endingPattern_30 : decode cX7_endingPattern 30 = .ok (.ifCond .lt 51, 3) := by decide +kernel
theorem dX7_endingPattern_33 : decode cX7_endingPattern 33 = .ok (.aload_n 0, 1) := by decide +kernel
theorem dX7_endingPattern_34 : decode cX7_endingPattern 34 = .ok (.getfield 17, 3) := by decide +kernel
theorem dX7_endingPattern_37 : decode cX7_endingPattern 37 = .ok (.iload 5, 2) := by decide +kernel
theorem dX7_endingPattern_39 : decode cX7_endingPattern 39 = .ok (.iaload, 1) := by decide +kernel
theorem dX7_endingPattern_40 : decode cX7_endingPattern 40 = .ok (.iload 4, 2) := by decide +kernel
theorem dX7_endingPattern_42 : decode cX7_endingPattern 42 = .ok (.if_icmp .ne 33, 3) := by decide +kernel
theorem dX7_endingPattern_45 : decode cX7_endingPattern 45 = .ok (.aload_n 0, 1) := by decide +kernel
theorem dX7_endingPattern_46 : decode cX7_endingPattern 46 = .ok (.iload 5, 2) := by decide +kernel
theorem dX7_endingPattern_48 : decode cX7_endingPattern 48 = .ok (.aload_n 0, 1) := by decide +kernel
theorem dX7_endingPattern_49 : decode cX7_endingPattern 49 = .ok (.getfield 67, 3) := by decide +kernel
theorem dX7_endingPattern_52 : decode cX7_endingPattern 52 = .ok (.iload 4, 2) := by decide +kernel
theorem dX7_endingPattern_54 : decode cX7_endingPattern 54 = .ok (.isub, 1) := by decide +kernel
theorem dX7_endingPattern_55 : decode cX7_endingPattern 55 = .ok (.invokevirtual 70, 3) := by decide +kernel
theorem dX7_endingPattern_58 : decode cX7_endingPattern 58 = .ok (.ifCond .eq 17, 3) := by decide +kernel
theorem dX7_endingPattern_61 : decode cX7_endingPattern 61 = .ok (.iload_n 2, 1) := by decide +kernel
theorem dX7_endingPattern_62 : decode cX7_endingPattern 62 = .ok (.ifCond .ne 8, 3) := by decide +kernel
theorem dX7_endingPattern_65 : decode cX7_endingPattern 65 = .ok (.iload 5, 2) := by decide +kernel
theorem dX7_endingPattern_67 : decode cX7_endingPattern 67 = .ok (.goto 4, 3) := by decide +kernel
theorem dX7_endingPattern_70 : decode cX7_endingPattern 70 = .ok (.iload_n 3, 1) := by decide +kernel
theorem dX7_endingPattern_71 : decode cX7_endingPattern 71 = .ok (.istore_n 3, 1) := by decide +kernel
theorem dX7_endingPattern_72 : decode cX7_endingPattern 72 = .ok (.iinc 2 (-1), 3) := by decide +kernel
theorem dX7_endingPattern_75 : decode cX7_endingPattern 75 = .ok (.iinc 5 1, 3) := by decide +kernel
theorem dX7_endingPattern_78 : decode cX7_endingPattern 78 = .ok (.goto (-58), 3) := by decide +kernel
theorem dX7_endingPattern_81 : decode cX7_endingPattern 81 = .ok (.iinc 4 (-1), 3) := by decide +kernel
theorem dX7_endingPattern_84 : decode cX7_endingPattern 84 = .ok (.goto (-76), 3) := by decide +kernel
theorem dX7_endingPattern_87 : decode cX7_endingPattern 87 = .ok (.aload_n 0, 1) := by decide +kernel
theorem dX7_endingPattern_88 : decode cX7_endingPattern 88 = .ok (.iload_n 3, 1) := by decide +kernel
theorem dX7_endingPattern_89 : decode cX7_endingPattern 89 = .ok (.iconst (-1), 1) := by decide +kernel
theorem dX7_endingPattern_90 : decode cX7_endingPattern 90 = .ok (.if_icmp .ne 7, 3) := by decide +kernel
theorem dX7_endingPattern_93 : decode cX7_endingPattern 93 = .ok (.iconst 1, 1) := by decide +kernel
theorem dX7_endingPattern_94 : decode cX7_endingPattern 94 = .ok (.goto 4, 3) := by decide +kernel
theorem dX7_endingPattern_97 : decode cX7_endingPattern 97 = .ok (.iconst 0, 1) := by decide +kernel
theorem dX7_endingPattern_98 : decode cX7_endingPattern 98 = .ok (.invokevirtual 46, 3) := by decide +kernel
theorem dX7_endingPattern_101 : decode cX7_endingPattern 101 = .ok (.ifCond .eq 7, 3) := by decide +kernel
theorem dX7_endingPattern_104 : decode cX7_endingPattern 104 = .ok (.iload_n 3, 1) := by decide +kernel
theorem dX7_endingPattern_105 : decode cX7_endingPattern 105 = .ok (.goto 4, 3) := by decide +kernel
theorem dX7_endingPattern_108 : decode cX7_endingPattern 108 = .ok (.iconst 0, 1) := by decide +kernel
theorem dX7_endingPattern_109 : decode cX7_endingPattern 109 = .ok (.ireturn, 1) := by decide +kernel
theorem dX7_countOf_0 : decode cX7_countOf 0 = .ok (.iconst 0, 1) := by decide +kernel
theorem dX7_countOf_1 : decode cX7_countOf 1 = .ok (.istore_n 2, 1) := by decide +kernel
theorem dX7_countOf_2 : decode cX7_countOf 2 = .ok (.iconst 0, 1) := by decide +kernel
theorem dX7_countOf_3 : decode cX7_countOf 3 = .ok (.istore_n 3, 1) := by decide +kernel
theorem dX7_countOf_4 : decode cX7_countOf 4 = .ok (.iload_n 3, 1) := by decide +kernel
theorem dX7_countOf_5 : decode cX7_countOf 5 = .ok (.aload_n 0, 1) := by decide +kernel
theorem dX7_countOf_6 : decode cX7_countOf 6 = .ok (.getfield 67, 3) := by decide +kernel
theorem dX7_countOf_9 : decode cX7_countOf 9 = .ok (.if_icmp .ge 26, 3) := by decide +kernel
theorem dX7_countOf_12 : decode cX7_countOf 12 = .ok (.iload_n 2, 1) := by decide +kernel
theorem dX7_countOf_13 : decode cX7_countOf 13 = .ok (.aload_n 0, 1) := by decide +kernel
theorem dX7_countOf_14 : decode cX7_countOf 14 = .ok (.iload_n 1, 1) := by decide +kernel
theorem dX7_countOf_15 : decode cX7_countOf 15 = .ok (.iload_n 3, 1) := by decide +kernel
theorem dX7_countOf_16 : decode cX7_countOf 16 = .ok (.invokevirtual 70, 3) := by decide +kernel
theorem dX7_countOf_19 : decode cX7_countOf 19 = .ok (.ifCond .eq 7, 3) := by decide +kernel
theorem dX7_countOf_22 : decode cX7_countOf 22 = .ok (.iconst 1, 1) := by decide +kernel
theorem dX7_countOf_23 : decode cX7_countOf 23 = .ok (.goto 4, 3) := by decide +kernel
theorem dX7_countOf_26 : decode cX7_countOf 26 = .ok (.iconst 0, 1) := by decide +kernel
theorem dX7_countOf_27 : decode cX7_countOf 27 = .ok (.iadd, 1) := by decide +kernel
theorem dX7_countOf_28 : decode cX7_countOf 28 = .ok (.istore_n 2, 1) := by decide +kernel
theorem dX7_countOf_29 : decode cX7_countOf 29 = .ok (.iinc 3 1, 3) := by decide +kernel
theorem dX7_countOf_32 : decode cX7_countOf 32 = .ok (.goto (-28), 3) := by decide +kernel
theorem dX7_countOf_35 : decode cX7_countOf 35 = .ok (.iload_n 2, 1) := by decide +kernel
theorem dX7_countOf_36 : decode cX7_countOf 36 = .ok (.ireturn, 1) := by decide +kernel
theorem dX7_occurrences_0 : decode cX7_occurrences 0 = .ok (.aload_n 0, 1) := by decide +kernel
theorem dX7_occurrences_1 : decode cX7_occurrences 1 = .ok (.iconst 0, 1) := by decide +kernel
theorem dX7_occurrences_2 : decode cX7_occurrences 2 = .ok (.putfield 32, 3) := by decide +kernel
theorem dX7_occurrences_5 : decode cX7_occurrences 5 = .ok (.iconst 0, 1) := by decide +kernel
theorem dX7_occurrences_6 : decode cX7_occurrences 6 = .ok (.istore_n 1, 1) := by decide +kernel
theorem dX7_occurrences_7 : decode cX7_occurrences 7 = .ok (.iconst 0, 1) := by decide +kernel
theorem dX7_occurrences_8 : decode cX7_occurrences 8 = .ok (.istore_n 2, 1) := by decide +kernel
theorem dX7_occurrences_9 : decode cX7_occurrences 9 = .ok (.iload_n 2, 1) := by decide +kernel
theorem dX7_occurrences_10 : decode cX7_occurrences 10 = .ok (.aload_n 0, 1) := by decide +kernel
theorem dX7_occurrences_11 : decode cX7_occurrences 11 = .ok (.getfield 36, 3) := by decide +kernel
theorem dX7_occurrences_14 : decode cX7_occurrences 14 = .ok (.if_icmp .ge 17, 3) := by decide +kernel
theorem dX7_occurrences_17 : decode cX7_occurrences 17 = .ok (.iload_n 1, 1) := by decide +kernel
theorem dX7_occurrences_18 : decode cX7_occurrences 18 = .ok (.aload_n 0, 1) := by decide +kernel
theorem dX7_occurrences_19 : decode cX7_occurrences 19 = .ok (.iload_n 2, 1) := by decide +kernel
theorem dX7_occurrences_20 : decode cX7_occurrences 20 = .ok (.invokevirtual 87, 3) := by decide +kernel
theorem dX7_occurrences_23 : decode cX7_occurrences 23 = .ok (.iadd, 1) := by decide +kernel
theorem dX7_occurrences_24 : decode cX7_occurrences 24 = .ok (.istore_n 1, 1) := by decide +kernel
theorem dX7_occurrences_25 : decode cX7_occurrences 25 = .ok (.iinc 2 1, 3) := by decide +kernel
theorem dX7_occurrences_28 : decode cX7_occurrences 28 = .ok (.goto (-19), 3) := by decide +kernel
theorem dX7_occurrences_31 : decode cX7_occurrences 31 = .ok (.iload_n 1, 1) := by decide +kernel
theorem dX7_occurrences_32 : decode cX7_occurrences 32 = .ok (.ireturn, 1) := by decide +kernel
theorem dX7_occurrencesOf_0 : decode cX7_occurrencesOf 0 = .ok (.aload_n 0, 1) := by decide +kernel
theorem dX7_occurrencesOf_1 : decode cX7_occurrencesOf 1 = .ok (.iload_n 1, 1) := by decide +kernel
theorem dX7_occurrencesOf_2 : decode cX7_occurrencesOf 2 = .ok (.invokevirtual 60, 3) := by decide +kernel
theorem dX7_occurrencesOf_5 : decode cX7_occurrencesOf 5 = .ok (.ifCond .eq 11, 3) := by decide +kernel
theorem dX7_occurrencesOf_8 : decode cX7_occurrencesOf 8 = .ok (.aload_n 0, 1) := by decide +kernel
theorem dX7_occurrencesOf_9 : decode cX7_occurrencesOf 9 = .ok (.iload_n 1, 1) := by decide +kernel
theorem dX7_occurrencesOf_10 : decode cX7_occurrencesOf 10 = .ok (.invokevirtual 87, 3) := by decide +kernel
theorem dX7_occurrencesOf_13 : decode cX7_occurrencesOf 13 = .ok (.goto 4, 3) := by decide +kernel
theorem dX7_occurrencesOf_16 : decode cX7_occurrencesOf 16 = .ok (.iconst 0, 1) := by decide +kernel
theorem dX7_occurrencesOf_17 : decode cX7_occurrencesOf 17 = .ok (.ireturn, 1) := by decide +kernel
theorem dX7_occurrence_0 : decode cX7_occurrence 0 = .ok (.aload_n 0, 1) := by decide +kernel
theorem dX7_occurrence_1 : decode cX7_occurrence 1 = .ok (.iload_n 1, 1) := by decide +kernel
theorem dX7_occurrence_2 : decode cX7_occurrence 2 = .ok (.invokevirtual 57, 3) := by decide +kernel
theorem dX7_occurrence_5 : decode cX7_occurrence 5 = .ok (.istore_n 3, 1) := by decide +kernel
theorem dX7_occurrence_6 : decode cX7_occurrence 6 = .ok (.aload_n 0, 1) := by decide +kernel
theorem dX7_occurrence_7 : decode cX7_occurrence 7 = .ok (.iload_n 3, 1) := by decide +kernel
theorem dX7_occurrence_8 : decode cX7_occurrence 8 = .ok (.ifCond .ne 7, 3) := by decide +kernel
theorem dX7_occurrence_11 : decode cX7_occurrence 11 = .ok (.iconst 1, 1) := by decide +kernel
theorem dX7_occurrence_12 : decode cX7_occurrence 12 = .ok (.goto 21, 3) := by decide +kernel
theorem dX7_occurrence_15 : decode cX7_occurrence 15 = .ok (.iload_n 2, 1) := by decide +kernel
theorem dX7_occurrence_16 : decode cX7_occurrence 16 = .ok (.ifCond .lt 12, 3) := by decide +kernel
theorem dX7_occurrence_19 : decode cX7_occurrence 19 = .ok (.iload_n 2, 1) := by decide +kernel
theorem dX7_occurrence_20 : decode cX7_occurrence 20 = .ok (.aload_n 0, 1) := by decide +kernel
theorem dX7_occurrence_21 : decode cX7_occurrence 21 = .ok (.iload_n 1, 1) := by decide +kernel
theorem dX7_occurrence_22 : decode cX7_occurrence 22 = .ok (.invokevirtual 87, 3) := by decide +kernel
theorem dX7_occurrence_25 : decode cX7_occurrence 25 = .ok (.if_icmp .lt 7, 3) := by decide +kernel
theorem dX7_occurrence_28 : decode cX7_occurrence 28 = .ok (.iconst 2, 1) := by decide +kernel
theorem dX7_occurrence_29 : decode cX7_occurrence 29 = .ok (.goto 4, 3) := by decide +kernel
theorem dX7_occurrence_32 : decode cX7_occurrence 32 = .ok (.iconst 0, 1) := by decide +kernel
theorem dX7_occurrence_33 : decode cX7_occurrence 33 = .ok (.invokevirtual 46, 3) := by decide +kernel
theorem dX7_occurrence_36 : decode cX7_occurrence 36 = .ok (.ifCond .ne 5, 3) := by decide +kernel
theorem dX7_occurrence_39 : decode cX7_occurrence 39 = .ok (.iconst 0, 1) := by decide +kernel
theorem dX7_occurrence_40 : decode cX7_occurrence 40 = .ok (.ireturn, 1) := by decide +kernel
theorem dX7_occurrence_41 : decode cX7_occurrence 41 = .ok (.iload_n 2, 1) := by decide +kernel
theorem dX7_occurrence_42 : decode cX7_occurrence 42 = .ok (.istore 4, 2) := by decide +kernel
theorem dX7_occurrence_44 : decode cX7_occurrence 44 = .ok (.iconst 0, 1) := by decide +kernel
theorem dX7_occurrence_45 : decode cX7_occurrence 45 = .ok (.istore 5, 2) := by decide +kernel
theorem dX7_occurrence_47 : decode cX7_occurrence 47 = .ok (.iload 4, 2) := by decide +kernel
theorem dX7_occurrence_49 : decode cX7_occurrence 49 = .ok (.ifCond .gt 13, 3) := by decide +kernel
theorem dX7_occurrence_52 : decode cX7_occurrence 52 = .ok (.aload_n 0, 1) := by decide +kernel
theorem dX7_occurrence_53 : decode cX7_occurrence 53 = .ok (.iload_n 1, 1) := by decide +kernel
theorem dX7_occurrence_54 : decode cX7_occurrence 54 = .ok (.iload 5, 2) := by decide +kernel
theorem dX7_occurrence_56 : decode cX7_occurrence 56 = .ok (.invokevirtual 70, 3) := by decide +kernel
theorem dX7_occurrence_59 : decode cX7_occurrence 59 = .ok (.ifCond .ne 29, 3) := by decide +kernel
theorem dX7_occurrence_62 : decode cX7_occurrence 62 = .ok (.iload 4, 2) := by decide +kernel
theorem dX7_occurrence_64 : decode cX7_occurrence 64 = .ok (.aload_n 0, 1) := by decide +kernel
theorem dX7_occurrence_65 : decode cX7_occurrence 65 = .ok (.iload_n 1, 1) := by decide +kernel
theorem dX7_occurrence_66 : decode cX7_occurrence 66 = .ok (.iload 5, 2) := by decide +kernel
theorem dX7_occurrence_68 : decode cX7_occurrence 68 = .ok (.invokevirtual 70, 3) := by decide +kernel
theorem dX7_occurrence_71 : decode cX7_occurrence 71 = .ok (.ifCond .eq 7, 3) := by decide +kernel
theorem dX7_occurrence_74 : decode cX7_occurrence 74 = .ok (.iconst 1, 1) := by decide +kernel
theorem dX7_occurrence_75 : decode cX7_occurrence 75 = .ok (.goto 4, 3) := by decide +kernel
theorem dX7_occurrence_78 : decode cX7_occurrence 78 = .ok (.iconst 0, 1) := by decide +kernel
theorem dX7_occurrence_79 : decode cX7_occurrence 79 = .ok (.isub, 1) := by decide +kernel
theorem dX7_occurrence_80 : decode cX7_occurrence 80 = .ok (.istore 4, 2) := by decide +kernel
theorem dX7_occurrence_82 : decode cX7_occurrence 82 = .ok (.iinc 5 1, 3) := by decide +kernel
theorem dX7_occurrence_85 : decode cX7_occurrence 85 = .ok (.goto (-38), 3) := by decide +kernel
theorem dX7_occurrence_88 : decode cX7_occurrence 88 = .ok (.iload 5, 2) := by decide +kernel
theorem dX7_occurrence_90 : decode cX7_occurrence 90 = .ok (.ireturn, 1) := by decide +kernel
theorem dX7_told_0 : decode cX7_told 0 = .ok (.aload_n 0, 1) := by decide +kernel
theorem dX7_told_1 : decode cX7_told 1 = .ok (.iconst 0, 1) := by decide +kernel
theorem dX7_told_2 : decode cX7_told 2 = .ok (.putfield 32, 3) := by decide +kernel
theorem dX7_told_5 : decode cX7_told 5 = .ok (.aload_n 0, 1) := by decide +kernel
theorem dX7_told_6 : decode cX7_told 6 = .ok (.getfield 78, 3) := by decide +kernel
theorem dX7_told_9 : decode cX7_told 9 = .ok (.ireturn, 1) := by decide +kernel
theorem dX7_covered_0 : decode cX7_covered 0 = .ok (.aload_n 0, 1) := by decide +kernel
theorem dX7_covered_1 : decode cX7_covered 1 = .ok (.iconst 0, 1) := by decide +kernel
theorem dX7_covered_2 : decode cX7_covered 2 = .ok (.putfield 32, 3) := by decide +kernel
theorem dX7_covered_5 : decode cX7_covered 5 = .ok (.iconst 0, 1) := by decide +kernel
theorem dX7_covered_6 : decode cX7_covered 6 = .ok (.istore_n 1, 1) := by decide +kernel
theorem dX7_covered_7 : decode cX7_covered 7 = .ok (.iconst 0, 1) := by decide +kernel
theorem dX7_covered_8 : decode cX7_covered 8 = .ok (.istore_n 2, 1) := by decide +kernel
theorem dX7_covered_9 : decode cX7_covered 9 = .ok (.iconst 0, 1) := by decide +kernel
theorem dX7_covered_10 : decode cX7_covered 10 = .ok (.istore_n 3, 1) := by decide +kernel
theorem dX7_covered_11 : decode cX7_covered 11 = .ok (.iload_n 3, 1) := by decide +kernel
theorem dX7_covered_12 : decode cX7_covered 12 = .ok (.aload_n 0, 1) := by decide +kernel
theorem dX7_covered_13 : decode cX7_covered 13 = .ok (.getfield 67, 3) := by decide +kernel
theorem dX7_covered_16 : decode cX7_covered 16 = .ok (.if_icmp .ge 89, 3) := by decide +kernel
theorem dX7_covered_19 : decode cX7_covered 19 = .ok (.iconst 0, 1) := by decide +kernel
theorem dX7_covered_20 : decode cX7_covered 20 = .ok (.istore 4, 2) := by decide +kernel
theorem dX7_covered_22 : decode cX7_covered 22 = .ok (.iload 4, 2) := by decide +kernel
theorem dX7_covered_24 : decode cX7_covered 24 = .ok (.aload_n 0, 1) := by decide +kernel
theorem dX7_covered_25 : decode cX7_covered 25 = .ok (.getfield 36, 3) := by decide +kernel
theorem dX7_covered_28 : decode cX7_covered 28 = .ok (.if_icmp .ge 58, 3) := by decide +kernel
theorem dX7_covered_31 : decode cX7_covered 31 = .ok (.aload_n 0, 1) := by decide +kernel
theorem dX7_covered_32 : decode cX7_covered 32 = .ok (.iload 4, 2) := by decide +kernel
theorem dX7_covered_34 : decode cX7_covered 34 = .ok (.iload_n 3, 1) := by decide +kernel
theorem dX7_covered_35 : decode cX7_covered 35 = .ok (.invokevirtual 70, 3) := by decide +kernel
theorem dX7_covered_38 : decode cX7_covered 38 = .ok (.ifCond .eq 20, 3) := by decide +kernel
theorem dX7_covered_41 : decode cX7_covered 41 = .ok (.iload_n 3, 1) := by decide +kernel
theorem dX7_covered_42 : decode cX7_covered 42 = .ok (.aload_n 0, 1) := by decide +kernel
theorem dX7_covered_43 : decode cX7_covered 43 = .ok (.getfield 17, 3) := by decide +kernel
theorem dX7_covered_46 : decode cX7_covered 46 = .ok (.iload 4, 2) := by decide +kernel
theorem dX7_covered_48 : decode cX7_covered 48 = .ok (.iaload, 1) := by decide +kernel
theorem dX7_covered_49 : decode cX7_covered 49 = .ok (.iadd, 1) := by decide +kernel
theorem dX7_covered_50 : decode cX7_covered 50 = .ok (.iload_n 2, 1) := by decide +kernel
theorem dX7_covered_51 : decode cX7_covered 51 = .ok (.if_icmp .le 7, 3) := by decide +kernel
theorem dX7_covered_54 : decode cX7_covered 54 = .ok (.iconst 1, 1) := by decide +kernel
theorem dX7_covered_55 : decode cX7_covered 55 = .ok (.goto 4, 3) := by decide +kernel
theorem dX7_covered_58 : decode cX7_covered 58 = .ok (.iconst 0, 1) := by decide +kernel
theorem dX7_covered_59 : decode cX7_covered 59 = .ok (.istore 5, 2) := by decide +kernel
theorem dX7_covered_61 : decode cX7_covered 61 = .ok (.iload 5, 2) := by decide +kernel
theorem dX7_covered_63 : decode cX7_covered 63 = .ok (.ifCond .eq 15, 3) := by decide +kernel
theorem dX7_covered_66 : decode cX7_covered 66 = .ok (.iload_n 3, 1) := by decide +kernel
theorem dX7_covered_67 : decode cX7_covered 67 = .ok (.aload_n 0, 1) := by decide +kernel
theorem dX7_covered_68 : decode cX7_covered 68 = .ok (.getfield 17, 3) := by decide +kernel
theorem dX7_covered_71 : decode cX7_covered 71 = .ok (.iload 4, 2) := by decide +kernel
theorem dX7_covered_73 : decode cX7_covered 73 = .ok (.iaload, 1) := by decide +kernel
theorem dX7_covered_74 : decode cX7_covered 74 = .ok (.iadd, 1) := by decide +kernel
theorem dX7_covered_75 : decode cX7_covered 75 = .ok (.goto 4, 3) := by decide +kernel
theorem dX7_covered_78 : decode cX7_covered 78 = .ok (.iload_n 2, 1) := by decide +kernel
theorem dX7_covered_79 : decode cX7_covered 79 = .ok (.istore_n 2, 1) := by decide +kernel
theorem dX7_covered_80 : decode cX7_covered 80 = .ok (.iinc 4 1, 3) := by decide +kernel
theorem dX7_covered_83 : decode cX7_covered 83 = .ok (.goto (-61), 3) := by decide +kernel
theorem dX7_covered_86 : decode cX7_covered 86 = .ok (.iload_n 1, 1) := by decide +kernel
theorem dX7_covered_87 : decode cX7_covered 87 = .ok (.iload_n 3, 1) := by decide +kernel
theorem dX7_covered_88 : decode cX7_covered 88 = .ok (.iload_n 2, 1) := by decide +kernel
theorem dX7_covered_89 : decode cX7_covered 89 = .ok (.if_icmp .ge 7, 3) := by decide +kernel
theorem dX7_covered_92 : decode cX7_covered 92 = .ok (.iconst 1, 1) := by decide +kernel
theorem dX7_covered_93 : decode cX7_covered 93 = .ok (.goto 4, 3) := by decide +kernel
theorem dX7_covered_96 : decode cX7_covered 96 = .ok (.iconst 0, 1) := by decide +kernel
theorem dX7_covered_97 : decode cX7_covered 97 = .ok (.iadd, 1) := by decide +kernel
theorem dX7_covered_98 : decode cX7_covered 98 = .ok (.istore_n 1, 1) := by decide +kernel
theorem dX7_covered_99 : decode cX7_covered 99 = .ok (.iinc 3 1, 3) := by decide +kernel
theorem dX7_covered_102 : decode cX7_covered 102 = .ok (.goto (-91), 3) := by decide +kernel
theorem dX7_covered_105 : decode cX7_covered 105 = .ok (.iload_n 1, 1) := by decide +kernel
theorem dX7_covered_106 : decode cX7_covered 106 = .ok (.ireturn, 1) := by decide +kernel
theorem dX7_findsByEnd_0 : decode cX7_findsByEnd 0 = .ok (.iload_n 1, 1) := by decide +kernel
theorem dX7_findsByEnd_1 : decode cX7_findsByEnd 1 = .ok (.iconst 1, 1) := by decide +kernel
theorem dX7_findsByEnd_2 : decode cX7_findsByEnd 2 = .ok (.iadd, 1) := by decide +kernel
theorem dX7_findsByEnd_3 : decode cX7_findsByEnd 3 = .ok (.istore_n 2, 1) := by decide +kernel
theorem dX7_findsByEnd_4 : decode cX7_findsByEnd 4 = .ok (.iload_n 2, 1) := by decide +kernel
theorem dX7_findsByEnd_5 : decode cX7_findsByEnd 5 = .ok (.aload_n 0, 1) := by decide +kernel
theorem dX7_findsByEnd_6 : decode cX7_findsByEnd 6 = .ok (.getfield 67, 3) := by decide +kernel
theorem dX7_findsByEnd_9 : decode cX7_findsByEnd 9 = .ok (.if_icmp .gt 88, 3) := by decide +kernel
theorem dX7_findsByEnd_12 : decode cX7_findsByEnd 12 = .ok (.iconst 0, 1) := by decide +kernel
theorem dX7_findsByEnd_13 : decode cX7_findsByEnd 13 = .ok (.istore_n 3, 1) := by decide +kernel
theorem dX7_findsByEnd_14 : decode cX7_findsByEnd 14 = .ok (.iconst 0, 1) := by decide +kernel
theorem dX7_findsByEnd_15 : decode cX7_findsByEnd 15 = .ok (.istore 4, 2) := by decide +kernel
theorem dX7_findsByEnd_17 : decode cX7_findsByEnd 17 = .ok (.iload 4, 2) := by decide +kernel
theorem dX7_findsByEnd_19 : decode cX7_findsByEnd 19 = .ok (.aload_n 0, 1) := by decide +kernel
theorem dX7_findsByEnd_20 : decode cX7_findsByEnd 20 = .ok (.getfield 36, 3) := by decide +kernel
theorem dX7_findsByEnd_23 : decode cX7_findsByEnd 23 = .ok (.if_icmp .ge 62, 3) := by decide +kernel
theorem dX7_findsByEnd_26 : decode cX7_findsByEnd 26 = .ok (.aload_n 0, 1) := by decide +kernel
theorem dX7_findsByEnd_27 : decode cX7_findsByEnd 27 = .ok (.getfield 17, 3) := by decide +kernel
theorem dX7_findsByEnd_30 : decode cX7_findsByEnd 30 = .ok (.iload 4, 2) := by decide +kernel
theorem dX7_findsByEnd_32 : decode cX7_findsByEnd 32 = .ok (.iaload, 1) := by decide +kernel
theorem dX7_findsByEnd_33 : decode cX7_findsByEnd 33 = .ok (.istore 5, 2) := by decide +kernel
theorem dX7_findsByEnd_35 : decode cX7_findsByEnd 35 = .ok (.iload_n 2, 1) := by decide +kernel
theorem dX7_findsByEnd_36 : decode cX7_findsByEnd 36 = .ok (.iload 5, 2) := by decide +kernel
theorem dX7_findsByEnd_38 : decode cX7_findsByEnd 38 = .ok (.isub, 1) := by decide +kernel
theorem dX7_findsByEnd_39 : decode cX7_findsByEnd 39 = .ok (.iload_n 1, 1) := by decide +kernel
theorem dX7_findsByEnd_40 : decode cX7_findsByEnd 40 = .ok (.if_icmp .lt 39, 3) := by decide +kernel
theorem dX7_findsByEnd_43 : decode cX7_findsByEnd 43 = .ok (.iload 5, 2) := by decide +kernel
theorem dX7_findsByEnd_45 : decode cX7_findsByEnd 45 = .ok (.iload_n 3, 1) := by decide +kernel
theorem dX7_findsByEnd_46 : decode cX7_findsByEnd 46 = .ok (.if_icmp .le 33, 3) := by decide +kernel
theorem dX7_findsByEnd_49 : decode cX7_findsByEnd 49 = .ok (.aload_n 0, 1) := by decide +kernel
theorem dX7_findsByEnd_50 : decode cX7_findsByEnd 50 = .ok (.iload 4, 2) := by decide +kernel
theorem dX7_findsByEnd_52 : decode cX7_findsByEnd 52 = .ok (.iload_n 2, 1) := by decide +kernel
theorem dX7_findsByEnd_53 : decode cX7_findsByEnd 53 = .ok (.iload 5, 2) := by decide +kernel
theorem dX7_findsByEnd_55 : decode cX7_findsByEnd 55 = .ok (.isub, 1) := by decide +kernel
theorem dX7_findsByEnd_56 : decode cX7_findsByEnd 56 = .ok (.invokevirtual 70, 3) := by decide +kernel
theorem dX7_findsByEnd_59 : decode cX7_findsByEnd 59 = .ok (.ifCond .eq 20, 3) := by decide +kernel
theorem dX7_findsByEnd_62 : decode cX7_findsByEnd 62 = .ok (.iload 5, 2) := by decide +kernel
theorem dX7_findsByEnd_64 : decode cX7_findsByEnd 64 = .ok (.istore_n 3, 1) := by decide +kernel
theorem dX7_findsByEnd_65 : decode cX7_findsByEnd 65 = .ok (.aload_n 0, 1) := by decide +kernel
theorem dX7_findsByEnd_66 : decode cX7_findsByEnd 66 = .ok (.iload 4, 2) := by decide +kernel
theorem dX7_findsByEnd_68 : decode cX7_findsByEnd 68 = .ok (.putfield 90, 3) := by decide +kernel
theorem dX7_findsByEnd_71 : decode cX7_findsByEnd 71 = .ok (.aload_n 0, 1) := by decide +kernel
theorem dX7_findsByEnd_72 : decode cX7_findsByEnd 72 = .ok (.iload_n 2, 1) := by decide +kernel
theorem dX7_findsByEnd_73 : decode cX7_findsByEnd 73 = .ok (.iload 5, 2) := by decide +kernel
theorem dX7_findsByEnd_75 : decode cX7_findsByEnd 75 = .ok (.isub, 1) := by decide +kernel
theorem dX7_findsByEnd_76 : decode cX7_findsByEnd 76 = .ok (.putfield 93, 3) := by decide +kernel
theorem dX7_findsByEnd_79 : decode cX7_findsByEnd 79 = .ok (.iinc 4 1, 3) := by decide +kernel
theorem dX7_findsByEnd_82 : decode cX7_findsByEnd 82 = .ok (.goto (-65), 3) := by decide +kernel
theorem dX7_findsByEnd_85 : decode cX7_findsByEnd 85 = .ok (.iload_n 3, 1) := by decide +kernel
theorem dX7_findsByEnd_86 : decode cX7_findsByEnd 86 = .ok (.ifCond .le 5, 3) := by decide +kernel
theorem dX7_findsByEnd_89 : decode cX7_findsByEnd 89 = .ok (.iconst 1, 1) := by decide +kernel
theorem dX7_findsByEnd_90 : decode cX7_findsByEnd 90 = .ok (.ireturn, 1) := by decide +kernel
theorem dX7_findsByEnd_91 : decode cX7_findsByEnd 91 = .ok (.iinc 2 1, 3) := by decide +kernel
theorem dX7_findsByEnd_94 : decode cX7_findsByEnd 94 = .ok (.goto (-90), 3) := by decide +kernel
theorem dX7_findsByEnd_97 : decode cX7_findsByEnd 97 = .ok (.iconst 0, 1) := by decide +kernel
theorem dX7_findsByEnd_98 : decode cX7_findsByEnd 98 = .ok (.ireturn, 1) := by decide +kernel
theorem dX7_finds_0 : decode cX7_finds 0 = .ok (.iload_n 1, 1) := by decide +kernel
theorem dX7_finds_1 : decode cX7_finds 1 = .ok (.iconst 2, 1) := by decide +kernel
theorem dX7_finds_2 : decode cX7_finds 2 = .ok (.if_icmp .ne 9, 3) := by decide +kernel
theorem dX7_finds_5 : decode cX7_finds 5 = .ok (.aload_n 0, 1) := by decide +kernel
theorem dX7_finds_6 : decode cX7_finds 6 = .ok (.iload_n 2, 1) := by decide +kernel
theorem dX7_finds_7 : decode cX7_finds 7 = .ok (.invokevirtual 96, 3) := by decide +kernel
theorem dX7_finds_10 : decode cX7_finds 10 = .ok (.ireturn, 1) := by decide +kernel
theorem dX7_finds_11 : decode cX7_finds 11 = .ok (.iload_n 2, 1) := by decide +kernel
theorem dX7_finds_12 : decode cX7_finds 12 = .ok (.istore_n 3, 1) := by decide +kernel
theorem dX7_finds_13 : decode cX7_finds 13 = .ok (.iload_n 3, 1) := by decide +kernel
theorem dX7_finds_14 : decode cX7_finds 14 = .ok (.aload_n 0, 1) := by decide +kernel
theorem dX7_finds_15 : decode cX7_finds 15 = .ok (.getfield 67, 3) := by decide +kernel
theorem dX7_finds_18 : decode cX7_finds 18 = .ok (.if_icmp .ge 115, 3) := by decide +kernel
theorem dX7_finds_21 : decode cX7_finds 21 = .ok (.aload_n 0, 1) := by decide +kernel
theorem dX7_finds_22 : decode cX7_finds 22 = .ok (.iconst (-1), 1) := by decide +kernel
theorem dX7_finds_23 : decode cX7_finds 23 = .ok (.putfield 90, 3) := by decide +kernel
theorem dX7_finds_26 : decode cX7_finds 26 = .ok (.aload_n 0, 1) := by decide +kernel
theorem dX7_finds_27 : decode cX7_finds 27 = .ok (.getfield 36, 3) := by decide +kernel
theorem dX7_finds_30 : decode cX7_finds 30 = .ok (.iconst 1, 1) := by decide +kernel
theorem dX7_finds_31 : decode cX7_finds 31 = .ok (.isub, 1) := by decide +kernel
theorem dX7_finds_32 : decode cX7_finds 32 = .ok (.istore 4, 2) := by decide +kernel
theorem dX7_finds_34 : decode cX7_finds 34 = .ok (.iload 4, 2) := by decide +kernel
theorem dX7_finds_36 : decode cX7_finds 36 = .ok (.ifCond .lt 76, 3) := by decide +kernel
theorem dX7_finds_39 : decode cX7_finds 39 = .ok (.aload_n 0, 1) := by decide +kernel
theorem dX7_finds_40 : decode cX7_finds 40 = .ok (.getfield 90, 3) := by decide +kernel
theorem dX7_finds_43 : decode cX7_finds 43 = .ok (.iconst (-1), 1) := by decide +kernel
theorem dX7_finds_44 : decode cX7_finds 44 = .ok (.if_icmp .eq 27, 3) := by decide +kernel
theorem dX7_finds_47 : decode cX7_finds 47 = .ok (.iload_n 1, 1) := by decide +kernel
theorem dX7_finds_48 : decode cX7_finds 48 = .ok (.iconst 1, 1) := by decide +kernel
theorem dX7_finds_49 : decode cX7_finds 49 = .ok (.if_icmp .eq 22, 3) := by decide +kernel
theorem dX7_finds_52 : decode cX7_finds 52 = .ok (.aload_n 0, 1) := by decide +kernel
theorem dX7_finds_53 : decode cX7_finds 53 = .ok (.getfield 17, 3) := by decide +kernel
theorem dX7_finds_56 : decode cX7_finds 56 = .ok (.iload 4, 2) := by decide +kernel
theorem dX7_finds_58 : decode cX7_finds 58 = .ok (.iaload, 1) := by decide +kernel
theorem dX7_finds_59 : decode cX7_finds 59 = .ok (.aload_n 0, 1) := by decide +kernel
theorem dX7_finds_60 : decode cX7_finds 60 = .ok (.getfield 17, 3) := by decide +kernel
theorem dX7_finds_63 : decode cX7_finds 63 = .ok (.aload_n 0, 1) := by decide +kernel
theorem dX7_finds_64 : decode cX7_finds 64 = .ok (.getfield 90, 3) := by decide +kernel
theorem dX7_finds_67 : decode cX7_finds 67 = .ok (.iaload, 1) := by decide +kernel
theorem dX7_finds_68 : decode cX7_finds 68 = .ok (.if_icmp .le 7, 3) := by decide +kernel
theorem dX7_finds_71 : decode cX7_finds 71 = .ok (.iconst 1, 1) := by decide +kernel
theorem dX7_finds_72 : decode cX7_finds 72 = .ok (.goto 4, 3) := by decide +kernel
theorem dX7_finds_75 : decode cX7_finds 75 = .ok (.iconst 0, 1) := by decide +kernel
theorem dX7_finds_76 : decode cX7_finds 76 = .ok (.istore 5, 2) := by decide +kernel
theorem dX7_finds_78 : decode cX7_finds 78 = .ok (.aload_n 0, 1) := by decide +kernel
theorem dX7_finds_79 : decode cX7_finds 79 = .ok (.aload_n 0, 1) := by decide +kernel
theorem dX7_finds_80 : decode cX7_finds 80 = .ok (.iload 4, 2) := by decide +kernel
theorem dX7_finds_82 : decode cX7_finds 82 = .ok (.iload_n 3, 1) := by decide +kernel
theorem dX7_finds_83 : decode cX7_finds 83 = .ok (.invokevirtual 70, 3) := by decide +kernel
theorem dX7_finds_86 : decode cX7_finds 86 = .ok (.ifCond .eq 13, 3) := by decide +kernel
theorem dX7_finds_89 : decode cX7_finds 89 = .ok (.iload 5, 2) := by decide +kernel
theorem dX7_finds_91 : decode cX7_finds 91 = .ok (.ifCond .eq 8, 3) := by decide +kernel
theorem dX7_finds_94 : decode cX7_finds 94 = .ok (.iload 4, 2) := by decide +kernel
theorem dX7_finds_96 : decode cX7_finds 96 = .ok (.goto 7, 3) := by decide +kernel
theorem dX7_finds_99 : decode cX7_finds 99 = .ok (.aload_n 0, 1) := by decide +kernel
theorem dX7_finds_100 : decode cX7_finds 100 = .ok (.getfield 90, 3) := by decide +kernel
theorem dX7_finds_103 : decode cX7_finds 103 = .ok (.putfield 90, 3) := by decide +kernel
theorem dX7_finds_106 : decode cX7_finds 106 = .ok (.iinc 4 (-1), 3) := by decide +kernel
theorem dX7_finds_109 : decode cX7_finds 109 = .ok (.goto (-75), 3) := by decide +kernel
theorem dX7_finds_112 : decode cX7_finds 112 = .ok (.aload_n 0, 1) := by decide +kernel
theorem dX7_finds_113 : decode cX7_finds 113 = .ok (.iload_n 3, 1) := by decide +kernel
theorem dX7_finds_114 : decode cX7_finds 114 = .ok (.putfield 93, 3) := by decide +kernel
theorem dX7_finds_117 : decode cX7_finds 117 = .ok (.aload_n 0, 1) := by decide +kernel
theorem dX7_finds_118 : decode cX7_finds 118 = .ok (.getfield 90, 3) := by decide +kernel
theorem dX7_finds_121 : decode cX7_finds 121 = .ok (.iconst (-1), 1) := by decide +kernel
theorem dX7_finds_122 : decode cX7_finds 122 = .ok (.if_icmp .eq 5, 3) := by decide +kernel
theorem dX7_finds_125 : decode cX7_finds 125 = .ok (.iconst 1, 1) := by decide +kernel
theorem dX7_finds_126 : decode cX7_finds 126 = .ok (.ireturn, 1) := by decide +kernel
theorem dX7_finds_127 : decode cX7_finds 127 = .ok (.iinc 3 1, 3) := by decide +kernel
theorem dX7_finds_130 : decode cX7_finds 130 = .ok (.goto (-117), 3) := by decide +kernel
theorem dX7_finds_133 : decode cX7_finds 133 = .ok (.iconst 0, 1) := by decide +kernel
theorem dX7_finds_134 : decode cX7_finds 134 = .ok (.ireturn, 1) := by decide +kernel
theorem dX7_itsEnd_0 : decode cX7_itsEnd 0 = .ok (.aload_n 0, 1) := by decide +kernel
theorem dX7_itsEnd_1 : decode cX7_itsEnd 1 = .ok (.getfield 93, 3) := by decide +kernel
theorem dX7_itsEnd_4 : decode cX7_itsEnd 4 = .ok (.aload_n 0, 1) := by decide +kernel
theorem dX7_itsEnd_5 : decode cX7_itsEnd 5 = .ok (.getfield 17, 3) := by decide +kernel
theorem dX7_itsEnd_8 : decode cX7_itsEnd 8 = .ok (.aload_n 0, 1) := by decide +kernel
theorem dX7_itsEnd_9 : decode cX7_itsEnd 9 = .ok (.getfield 90, 3) := by decide +kernel
theorem dX7_itsEnd_12 : decode cX7_itsEnd 12 = .ok (.iaload, 1) := by decide +kernel
theorem dX7_itsEnd_13 : decode cX7_itsEnd 13 = .ok (.iadd, 1) := by decide +kernel
theorem dX7_itsEnd_14 : decode cX7_itsEnd 14 = .ok (.ireturn, 1) := by decide +kernel
theorem dX7_choices_0 : decode cX7_choices 0 = .ok (.iconst 0, 1) := by decide +kernel
theorem dX7_choices_1 : decode cX7_choices 1 = .ok (.istore_n 2, 1) := by decide +kernel
theorem dX7_choices_2 : decode cX7_choices 2 = .ok (.iconst 0, 1) := by decide +kernel
theorem dX7_choices_3 : decode cX7_choices 3 = .ok (.istore_n 3, 1) := by decide +kernel
theorem dX7_choices_4 : decode cX7_choices 4 = .ok (.aload_n 0, 1) := by decide +kernel
theorem dX7_choices_5 : decode cX7_choices 5 = .ok (.iload_n 1, 1) := by decide +kernel
theorem dX7_choices_6 : decode cX7_choices 6 = .ok (.iload_n 3, 1) := by decide +kernel
theorem dX7_choices_7 : decode cX7_choices 7 = .ok (.invokevirtual 99, 3) := by decide +kernel
theorem dX7_choices_10 : decode cX7_choices 10 = .ok (.ifCond .eq 14, 3) := by decide +kernel
theorem dX7_choices_13 : decode cX7_choices 13 = .ok (.aload_n 0, 1) := by decide +kernel
theorem dX7_choices_14 : decode cX7_choices 14 = .ok (.invokevirtual 102, 3) := by decide +kernel
theorem dX7_choices_17 : decode cX7_choices 17 = .ok (.istore_n 3, 1) := by decide +kernel
theorem dX7_choices_18 : decode cX7_choices 18 = .ok (.iinc 2 1, 3) := by decide +kernel
theorem dX7_choices_21 : decode cX7_choices 21 = .ok (.goto (-17), 3) := by decide +kernel
theorem dX7_choices_24 : decode cX7_choices 24 = .ok (.iload_n 2, 1) := by decide +kernel
theorem dX7_choices_25 : decode cX7_choices 25 = .ok (.ireturn, 1) := by decide +kernel
theorem dX7_mostApart_0 : decode cX7_mostApart 0 = .ok (.aload_n 0, 1) := by decide +kernel
theorem dX7_mostApart_1 : decode cX7_mostApart 1 = .ok (.iconst 0, 1) := by decide +kernel
theorem dX7_mostApart_2 : decode cX7_mostApart 2 = .ok (.putfield 32, 3) := by decide +kernel
theorem dX7_mostApart_5 : decode cX7_mostApart 5 = .ok (.aload_n 0, 1) := by decide +kernel
theorem dX7_mostApart_6 : decode cX7_mostApart 6 = .ok (.iconst 2, 1) := by decide +kernel
theorem dX7_mostApart_7 : decode cX7_mostApart 7 = .ok (.invokevirtual 105, 3) := by decide +kernel
theorem dX7_mostApart_10 : decode cX7_mostApart 10 = .ok (.ireturn, 1) := by decide +kernel
theorem dX7_isRule_0 : decode cX7_isRule 0 = .ok (.iload_n 1, 1) := by decide +kernel
theorem dX7_isRule_1 : decode cX7_isRule 1 = .ok (.ifCond .lt 12, 3) := by decide +kernel
theorem dX7_isRule_4 : decode cX7_isRule 4 = .ok (.iload_n 1, 1) := by decide +kernel
theorem dX7_isRule_5 : decode cX7_isRule 5 = .ok (.iconst 2, 1) := by decide +kernel
theorem dX7_isRule_6 : decode cX7_isRule 6 = .ok (.if_icmp .gt 7, 3) := by decide +kernel
theorem dX7_isRule_9 : decode cX7_isRule 9 = .ok (.iconst 1, 1) := by decide +kernel
theorem dX7_isRule_10 : decode cX7_isRule 10 = .ok (.goto 4, 3) := by decide +kernel
theorem dX7_isRule_13 : decode cX7_isRule 13 = .ok (.iconst 0, 1) := by decide +kernel
theorem dX7_isRule_14 : decode cX7_isRule 14 = .ok (.ireturn, 1) := by decide +kernel
theorem dX7_chosen_0 : decode cX7_chosen 0 = .ok (.aload_n 0, 1) := by decide +kernel
theorem dX7_chosen_1 : decode cX7_chosen 1 = .ok (.aload_n 0, 1) := by decide +kernel
theorem dX7_chosen_2 : decode cX7_chosen 2 = .ok (.iload_n 1, 1) := by decide +kernel
theorem dX7_chosen_3 : decode cX7_chosen 3 = .ok (.invokevirtual 108, 3) := by decide +kernel
theorem dX7_chosen_6 : decode cX7_chosen 6 = .ok (.ifCond .eq 7, 3) := by decide +kernel
theorem dX7_chosen_9 : decode cX7_chosen 9 = .ok (.iconst 0, 1) := by decide +kernel
theorem dX7_chosen_10 : decode cX7_chosen 10 = .ok (.goto 4, 3) := by decide +kernel
theorem dX7_chosen_13 : decode cX7_chosen 13 = .ok (.iconst 1, 1) := by decide +kernel
theorem dX7_chosen_14 : decode cX7_chosen 14 = .ok (.invokevirtual 46, 3) := by decide +kernel
theorem dX7_chosen_17 : decode cX7_chosen 17 = .ok (.ifCond .eq 11, 3) := by decide +kernel
theorem dX7_chosen_20 : decode cX7_chosen 20 = .ok (.aload_n 0, 1) := by decide +kernel
theorem dX7_chosen_21 : decode cX7_chosen 21 = .ok (.iload_n 1, 1) := by decide +kernel
theorem dX7_chosen_22 : decode cX7_chosen 22 = .ok (.invokevirtual 105, 3) := by decide +kernel
theorem dX7_chosen_25 : decode cX7_chosen 25 = .ok (.goto 4, 3) := by decide +kernel
theorem dX7_chosen_28 : decode cX7_chosen 28 = .ok (.iconst 0, 1) := by decide +kernel
theorem dX7_chosen_29 : decode cX7_chosen 29 = .ok (.ireturn, 1) := by decide +kernel
theorem dX7_isChosen_0 : decode cX7_isChosen 0 = .ok (.aload_n 0, 1) := by decide +kernel
theorem dX7_isChosen_1 : decode cX7_isChosen 1 = .ok (.iload_n 1, 1) := by decide +kernel
theorem dX7_isChosen_2 : decode cX7_isChosen 2 = .ok (.invokevirtual 108, 3) := by decide +kernel
theorem dX7_isChosen_5 : decode cX7_isChosen 5 = .ok (.istore_n 3, 1) := by decide +kernel
theorem dX7_isChosen_6 : decode cX7_isChosen 6 = .ok (.aload_n 0, 1) := by decide +kernel
theorem dX7_isChosen_7 : decode cX7_isChosen 7 = .ok (.iload_n 3, 1) := by decide +kernel
theorem dX7_isChosen_8 : decode cX7_isChosen 8 = .ok (.ifCond .ne 7, 3) := by decide +kernel
theorem dX7_isChosen_11 : decode cX7_isChosen 11 = .ok (.iconst 1, 1) := by decide +kernel
theorem dX7_isChosen_12 : decode cX7_isChosen 12 = .ok (.goto 21, 3) := by decide +kernel
theorem dX7_isChosen_15 : decode cX7_isChosen 15 = .ok (.iload_n 2, 1) := by decide +kernel
theorem dX7_isChosen_16 : decode cX7_isChosen 16 = .ok (.ifCond .lt 12, 3) := by decide +kernel
theorem dX7_isChosen_19 : decode cX7_isChosen 19 = .ok (.iload_n 2, 1) := by decide +kernel
theorem dX7_isChosen_20 : decode cX7_isChosen 20 = .ok (.aload_n 0, 1) := by decide +kernel
theorem dX7_isChosen_21 : decode cX7_isChosen 21 = .ok (.iload_n 1, 1) := by decide +kernel
theorem dX7_isChosen_22 : decode cX7_isChosen 22 = .ok (.invokevirtual 105, 3) := by decide +kernel
theorem dX7_isChosen_25 : decode cX7_isChosen 25 = .ok (.if_icmp .lt 7, 3) := by decide +kernel
theorem dX7_isChosen_28 : decode cX7_isChosen 28 = .ok (.iconst 2, 1) := by decide +kernel
theorem dX7_isChosen_29 : decode cX7_isChosen 29 = .ok (.goto 4, 3) := by decide +kernel
theorem dX7_isChosen_32 : decode cX7_isChosen 32 = .ok (.iconst 0, 1) := by decide +kernel
theorem dX7_isChosen_33 : decode cX7_isChosen 33 = .ok (.invokevirtual 46, 3) := by decide +kernel
theorem dX7_isChosen_36 : decode cX7_isChosen 36 = .ok (.ifCond .ne 5, 3) := by decide +kernel
theorem dX7_isChosen_39 : decode cX7_isChosen 39 = .ok (.iconst 0, 1) := by decide +kernel
theorem dX7_isChosen_40 : decode cX7_isChosen 40 = .ok (.ireturn, 1) := by decide +kernel
theorem dX7_isChosen_41 : decode cX7_isChosen 41 = .ok (.iconst 0, 1) := by decide +kernel
theorem dX7_isChosen_42 : decode cX7_isChosen 42 = .ok (.istore 4, 2) := by decide +kernel
theorem dX7_isChosen_44 : decode cX7_isChosen 44 = .ok (.iconst 0, 1) := by decide +kernel
theorem dX7_isChosen_45 : decode cX7_isChosen 45 = .ok (.istore 5, 2) := by decide +kernel
theorem dX7_isChosen_47 : decode cX7_isChosen 47 = .ok (.iconst 0, 1) := by decide +kernel
theorem dX7_isChosen_48 : decode cX7_isChosen 48 = .ok (.istore 6, 2) := by decide +kernel
theorem dX7_isChosen_50 : decode cX7_isChosen 50 = .ok (.iload 6, 2) := by decide +kernel
theorem dX7_isChosen_52 : decode cX7_isChosen 52 = .ok (.iload_n 2, 1) := by decide +kernel
theorem dX7_isChosen_53 : decode cX7_isChosen 53 = .ok (.if_icmp .gt 24, 3) := by decide +kernel
theorem dX7_isChosen_56 : decode cX7_isChosen 56 = .ok (.aload_n 0, 1) := by decide +kernel
theorem dX7_isChosen_57 : decode cX7_isChosen 57 = .ok (.iload_n 1, 1) := by decide +kernel
theorem dX7_isChosen_58 : decode cX7_isChosen 58 = .ok (.iload 4, 2) := by decide +kernel
theorem dX7_isChosen_60 : decode cX7_isChosen 60 = .ok (.invokevirtual 99, 3) := by decide +kernel
theorem dX7_isChosen_63 : decode cX7_isChosen 63 = .ok (.istore 5, 2) := by decide +kernel
theorem dX7_isChosen_65 : decode cX7_isChosen 65 = .ok (.aload_n 0, 1) := by decide +kernel
theorem dX7_isChosen_66 : decode cX7_isChosen 66 = .ok (.invokevirtual 102, 3) := by decide +kernel
theorem dX7_isChosen_69 : decode cX7_isChosen 69 = .ok (.istore 4, 2) := by decide +kernel
theorem dX7_isChosen_71 : decode cX7_isChosen 71 = .ok (.iinc 6 1, 3) := by decide +kernel
theorem dX7_isChosen_74 : decode cX7_isChosen 74 = .ok (.goto (-24), 3) := by decide +kernel
theorem dX7_isChosen_77 : decode cX7_isChosen 77 = .ok (.iload 5, 2) := by decide +kernel
theorem dX7_isChosen_79 : decode cX7_isChosen 79 = .ok (.ireturn, 1) := by decide +kernel
theorem dX7_chosenPattern_0 : decode cX7_chosenPattern 0 = .ok (.aload_n 0, 1) := by decide +kernel
theorem dX7_chosenPattern_1 : decode cX7_chosenPattern 1 = .ok (.iload_n 1, 1) := by decide +kernel
theorem dX7_chosenPattern_2 : decode cX7_chosenPattern 2 = .ok (.iload_n 2, 1) := by decide +kernel
theorem dX7_chosenPattern_3 : decode cX7_chosenPattern 3 = .ok (.invokevirtual 111, 3) := by decide +kernel
theorem dX7_chosenPattern_6 : decode cX7_chosenPattern 6 = .ok (.ifCond .eq 10, 3) := by decide +kernel
theorem dX7_chosenPattern_9 : decode cX7_chosenPattern 9 = .ok (.aload_n 0, 1) := by decide +kernel
theorem dX7_chosenPattern_10 : decode cX7_chosenPattern 10 = .ok (.getfield 90, 3) := by decide +kernel
theorem dX7_chosenPattern_13 : decode cX7_chosenPattern 13 = .ok (.goto 4, 3) := by decide +kernel
theorem dX7_chosenPattern_16 : decode cX7_chosenPattern 16 = .ok (.iconst 0, 1) := by decide +kernel
theorem dX7_chosenPattern_17 : decode cX7_chosenPattern 17 = .ok (.ireturn, 1) := by decide +kernel
theorem dX7_chosenPlace_0 : decode cX7_chosenPlace 0 = .ok (.aload_n 0, 1) := by decide +kernel
theorem dX7_chosenPlace_1 : decode cX7_chosenPlace 1 = .ok (.iload_n 1, 1) := by decide +kernel
theorem dX7_chosenPlace_2 : decode cX7_chosenPlace 2 = .ok (.iload_n 2, 1) := by decide +kernel
theorem dX7_chosenPlace_3 : decode cX7_chosenPlace 3 = .ok (.invokevirtual 111, 3) := by decide +kernel
theorem dX7_chosenPlace_6 : decode cX7_chosenPlace 6 = .ok (.ifCond .eq 10, 3) := by decide +kernel
theorem dX7_chosenPlace_9 : decode cX7_chosenPlace 9 = .ok (.aload_n 0, 1) := by decide +kernel
theorem dX7_chosenPlace_10 : decode cX7_chosenPlace 10 = .ok (.getfield 93, 3) := by decide +kernel
theorem dX7_chosenPlace_13 : decode cX7_chosenPlace 13 = .ok (.goto 4, 3) := by decide +kernel
theorem dX7_chosenPlace_16 : decode cX7_chosenPlace 16 = .ok (.iconst 0, 1) := by decide +kernel
theorem dX7_chosenPlace_17 : decode cX7_chosenPlace 17 = .ok (.ireturn, 1) := by decide +kernel
theorem dX7_newLetter_0 : decode cX7_newLetter 0 = .ok (.iload_n 2, 1) := by decide +kernel
theorem dX7_newLetter_1 : decode cX7_newLetter 1 = .ok (.istore_n 3, 1) := by decide +kernel
theorem dX7_newLetter_2 : decode cX7_newLetter 2 = .ok (.iconst 0, 1) := by decide +kernel
theorem dX7_newLetter_3 : decode cX7_newLetter 3 = .ok (.istore 4, 2) := by decide +kernel
theorem dX7_newLetter_5 : decode cX7_newLetter 5 = .ok (.iload 4, 2) := by decide +kernel
theorem dX7_newLetter_7 : decode cX7_newLetter 7 = .ok (.aload_n 0, 1) := by decide +kernel
theorem dX7_newLetter_8 : decode cX7_newLetter 8 = .ok (.getfield 67, 3) := by decide +kernel
theorem dX7_newLetter_11 : decode cX7_newLetter 11 = .ok (.if_icmp .ge 115, 3) := by decide +kernel
theorem dX7_newLetter_14 : decode cX7_newLetter 14 = .ok (.aload_n 0, 1) := by decide +kernel
theorem dX7_newLetter_15 : decode cX7_newLetter 15 = .ok (.iload_n 1, 1) := by decide +kernel
theorem dX7_newLetter_16 : decode cX7_newLetter 16 = .ok (.iload 4, 2) := by decide +kernel
theorem dX7_newLetter_18 : decode cX7_newLetter 18 = .ok (.invokevirtual 99, 3) := by decide +kernel
theorem dX7_newLetter_21 : decode cX7_newLetter 21 = .ok (.istore 5, 2) := by decide +kernel
theorem dX7_newLetter_23 : decode cX7_newLetter 23 = .ok (.iload 5, 2) := by decide +kernel
theorem dX7_newLetter_25 : decode cX7_newLetter 25 = .ok (.ifCond .eq 10, 3) := by decide +kernel
theorem dX7_newLetter_28 : decode cX7_newLetter 28 = .ok (.aload_n 0, 1) := by decide +kernel
theorem dX7_newLetter_29 : decode cX7_newLetter 29 = .ok (.getfield 93, 3) := by decide +kernel
theorem dX7_newLetter_32 : decode cX7_newLetter 32 = .ok (.goto 7, 3) := by decide +kernel
theorem dX7_newLetter_35 : decode cX7_newLetter 35 = .ok (.aload_n 0, 1) := by decide +kernel
theorem dX7_newLetter_36 : decode cX7_newLetter 36 = .ok (.getfield 67, 3) := by decide +kernel
theorem dX7_newLetter_39 : decode cX7_newLetter 39 = .ok (.istore 6, 2) := by decide +kernel
theorem dX7_newLetter_41 : decode cX7_newLetter 41 = .ok (.iload_n 3, 1) := by decide +kernel
theorem dX7_newLetter_42 : decode cX7_newLetter 42 = .ok (.iload 6, 2) := by decide +kernel
theorem dX7_newLetter_44 : decode cX7_newLetter 44 = .ok (.iload 4, 2) := by decide +kernel
theorem dX7_newLetter_46 : decode cX7_newLetter 46 = .ok (.isub, 1) := by decide +kernel
theorem dX7_newLetter_47 : decode cX7_newLetter 47 = .ok (.if_icmp .ge 13, 3) := by decide +kernel
theorem dX7_newLetter_50 : decode cX7_newLetter 50 = .ok (.aload_n 0, 1) := by decide +kernel
theorem dX7_newLetter_51 : decode cX7_newLetter 51 = .ok (.getfield 29, 3) := by decide +kernel
theorem dX7_newLetter_54 : decode cX7_newLetter 54 = .ok (.iload 4, 2) := by decide +kernel
theorem dX7_newLetter_56 : decode cX7_newLetter 56 = .ok (.iload_n 3, 1) := by decide +kernel
theorem dX7_newLetter_57 : decode cX7_newLetter 57 = .ok (.iadd, 1) := by decide +kernel
theorem dX7_newLetter_58 : decode cX7_newLetter 58 = .ok (.iaload, 1) := by decide +kernel
theorem dX7_newLetter_59 : decode cX7_newLetter 59 = .ok (.ireturn, 1) := by decide +kernel
theorem dX7_newLetter_60 : decode cX7_newLetter 60 = .ok (.iload_n 3, 1) := by decide +kernel
theorem dX7_newLetter_61 : decode cX7_newLetter 61 = .ok (.iload 6, 2) := by decide +kernel
theorem dX7_newLetter_63 : decode cX7_newLetter 63 = .ok (.iload 4, 2) := by decide +kernel
theorem dX7_newLetter_65 : decode cX7_newLetter 65 = .ok (.isub, 1) := by decide +kernel
theorem dX7_newLetter_66 : decode cX7_newLetter 66 = .ok (.isub, 1) := by decide +kernel
theorem dX7_newLetter_67 : decode cX7_newLetter 67 = .ok (.istore_n 3, 1) := by decide +kernel
theorem dX7_newLetter_68 : decode cX7_newLetter 68 = .ok (.iload 6, 2) := by decide +kernel
theorem dX7_newLetter_70 : decode cX7_newLetter 70 = .ok (.istore 4, 2) := by decide +kernel
theorem dX7_newLetter_72 : decode cX7_newLetter 72 = .ok (.iload 5, 2) := by decide +kernel
theorem dX7_newLetter_74 : decode cX7_newLetter 74 = .ok (.ifCond .eq 49, 3) := by decide +kernel
theorem dX7_newLetter_77 : decode cX7_newLetter 77 = .ok (.iload_n 3, 1) := by decide +kernel
theorem dX7_newLetter_78 : decode cX7_newLetter 78 = .ok (.aload_n 0, 1) := by decide +kernel
theorem dX7_newLetter_79 : decode cX7_newLetter 79 = .ok (.getfield 23, 3) := by decide +kernel
theorem dX7_newLetter_82 : decode cX7_newLetter 82 = .ok (.aload_n 0, 1) := by decide +kernel
theorem dX7_newLetter_83 : decode cX7_newLetter 83 = .ok (.getfield 90, 3) := by decide +kernel
theorem dX7_newLetter_86 : decode cX7_newLetter 86 = .ok (.iaload, 1) := by decide +kernel
theorem dX7_newLetter_87 : decode cX7_newLetter 87 = .ok (.if_icmp .ge 18, 3) := by decide +kernel
theorem dX7_newLetter_90 : decode cX7_newLetter 90 = .ok (.aload_n 0, 1) := by decide +kernel
theorem dX7_newLetter_91 : decode cX7_newLetter 91 = .ok (.getfield 26, 3) := by decide +kernel
theorem dX7_newLetter_94 : decode cX7_newLetter 94 = .ok (.bipush 8, 2) := by decide +kernel
theorem dX7_newLetter_96 : decode cX7_newLetter 96 = .ok (.aload_n 0, 1) := by decide +kernel
theorem dX7_newLetter_97 : decode cX7_newLetter 97 = .ok (.getfield 90, 3) := by decide +kernel
theorem dX7_newLetter_100 : decode cX7_newLetter 100 = .ok (.imul, 1) := by decide +kernel
theorem dX7_newLetter_101 : decode cX7_newLetter 101 = .ok (.iload_n 3, 1) := by decide +kernel
theorem dX7_newLetter_102 : decode cX7_newLetter 102 = .ok (.iadd, 1) := by decide +kernel
theorem dX7_newLetter_103 : decode cX7_newLetter 103 = .ok (.iaload, 1) := by decide +kernel
theorem dX7_newLetter_104 : decode cX7_newLetter 104 = .ok (.ireturn, 1) := by decide +kernel
theorem dX7_newLetter_105 : decode cX7_newLetter 105 = .ok (.iload_n 3, 1) := by decide +kernel
theorem dX7_newLetter_106 : decode cX7_newLetter 106 = .ok (.aload_n 0, 1) := by decide +kernel
theorem dX7_newLetter_107 : decode cX7_newLetter 107 = .ok (.getfield 23, 3) := by decide +kernel
theorem dX7_newLetter_110 : decode cX7_newLetter 110 = .ok (.aload_n 0, 1) := by decide +kernel
theorem dX7_newLetter_111 : decode cX7_newLetter 111 = .ok (.getfield 90, 3) := by decide +kernel
theorem dX7_newLetter_114 : decode cX7_newLetter 114 = .ok (.iaload, 1) := by decide +kernel
theorem dX7_newLetter_115 : decode cX7_newLetter 115 = .ok (.isub, 1) := by decide +kernel
theorem dX7_newLetter_116 : decode cX7_newLetter 116 = .ok (.istore_n 3, 1) := by decide +kernel
theorem dX7_newLetter_117 : decode cX7_newLetter 117 = .ok (.aload_n 0, 1) := by decide +kernel
theorem dX7_newLetter_118 : decode cX7_newLetter 118 = .ok (.invokevirtual 102, 3) := by decide +kernel
theorem dX7_newLetter_121 : decode cX7_newLetter 121 = .ok (.istore 4, 2) := by decide +kernel
theorem dX7_newLetter_123 : decode cX7_newLetter 123 = .ok (.goto (-118), 3) := by decide +kernel
theorem dX7_newLetter_126 : decode cX7_newLetter 126 = .ok (.iconst (-1), 1) := by decide +kernel
theorem dX7_newLetter_127 : decode cX7_newLetter 127 = .ok (.ireturn, 1) := by decide +kernel
theorem dX7_newLength_0 : decode cX7_newLength 0 = .ok (.aload_n 0, 1) := by decide +kernel
theorem dX7_newLength_1 : decode cX7_newLength 1 = .ok (.getfield 67, 3) := by decide +kernel
theorem dX7_newLength_4 : decode cX7_newLength 4 = .ok (.istore_n 2, 1) := by decide +kernel
theorem dX7_newLength_5 : decode cX7_newLength 5 = .ok (.iconst 0, 1) := by decide +kernel
theorem dX7_newLength_6 : decode cX7_newLength 6 = .ok (.istore_n 3, 1) := by decide +kernel
theorem dX7_newLength_7 : decode cX7_newLength 7 = .ok (.aload_n 0, 1) := by decide +kernel
theorem dX7_newLength_8 : decode cX7_newLength 8 = .ok (.iload_n 1, 1) := by decide +kernel
theorem dX7_newLength_9 : decode cX7_newLength 9 = .ok (.iload_n 3, 1) := by decide +kernel
theorem dX7_newLength_10 : decode cX7_newLength 10 = .ok (.invokevirtual 99, 3) := by decide +kernel
theorem dX7_newLength_13 : decode cX7_newLength 13 = .ok (.ifCond .eq 33, 3) := by decide +kernel
theorem dX7_newLength_16 : decode cX7_newLength 16 = .ok (.iload_n 2, 1) := by decide +kernel
theorem dX7_newLength_17 : decode cX7_newLength 17 = .ok (.aload_n 0, 1) := by decide +kernel
theorem dX7_newLength_18 : decode cX7_newLength 18 = .ok (.getfield 23, 3) := by decide +kernel
theorem dX7_newLength_21 : decode cX7_newLength 21 = .ok (.aload_n 0, 1) := by decide +kernel
theorem dX7_newLength_22 : decode cX7_newLength 22 = .ok (.getfield 90, 3) := by decide +kernel
theorem dX7_newLength_25 : decode cX7_newLength 25 = .ok (.iaload, 1) := by decide +kernel
theorem dX7_newLength_26 : decode cX7_newLength 26 = .ok (.aload_n 0, 1) := by decide +kernel
theorem dX7_newLength_27 : decode cX7_newLength 27 = .ok (.getfield 17, 3) := by decide +kernel
theorem dX7_newLength_30 : decode cX7_newLength 30 = .ok (.aload_n 0, 1) := by decide +kernel
theorem dX7_newLength_31 : decode cX7_newLength 31 = .ok (.getfield 90, 3) := by decide +kernel
theorem dX7_newLength_34 : decode cX7_newLength 34 = .ok (.iaload, 1) := by decide +kernel
theorem dX7_newLength_35 : decode cX7_newLength 35 = .ok (.isub, 1) := by decide +kernel
theorem dX7_newLength_36 : decode cX7_newLength 36 = .ok (.iadd, 1) := by decide +kernel
theorem dX7_newLength_37 : decode cX7_newLength 37 = .ok (.istore_n 2, 1) := by decide +kernel
theorem dX7_newLength_38 : decode cX7_newLength 38 = .ok (.aload_n 0, 1) := by decide +kernel
theorem dX7_newLength_39 : decode cX7_newLength 39 = .ok (.invokevirtual 102, 3) := by decide +kernel
theorem dX7_newLength_42 : decode cX7_newLength 42 = .ok (.istore_n 3, 1) := by decide +kernel
theorem dX7_newLength_43 : decode cX7_newLength 43 = .ok (.goto (-36), 3) := by decide +kernel
theorem dX7_newLength_46 : decode cX7_newLength 46 = .ok (.iload_n 2, 1) := by decide +kernel
theorem dX7_newLength_47 : decode cX7_newLength 47 = .ok (.ireturn, 1) := by decide +kernel
theorem dX7_replacedLength_0 : decode cX7_replacedLength 0 = .ok (.aload_n 0, 1) := by decide +kernel
theorem dX7_replacedLength_1 : decode cX7_replacedLength 1 = .ok (.aload_n 0, 1) := by decide +kernel
theorem dX7_replacedLength_2 : decode cX7_replacedLength 2 = .ok (.iload_n 1, 1) := by decide +kernel
theorem dX7_replacedLength_3 : decode cX7_replacedLength 3 = .ok (.invokevirtual 108, 3) := by decide +kernel
theorem dX7_replacedLength_6 : decode cX7_replacedLength 6 = .ok (.ifCond .eq 7, 3) := by decide +kernel
theorem dX7_replacedLength_9 : decode cX7_replacedLength 9 = .ok (.iconst 0, 1) := by decide +kernel
theorem dX7_replacedLength_10 : decode cX7_replacedLength 10 = .ok (.goto 4, 3) := by decide +kernel
theorem dX7_replacedLength_13 : decode cX7_replacedLength 13 = .ok (.iconst 1, 1) := by decide +kernel
theorem dX7_replacedLength_14 : decode cX7_replacedLength 14 = .ok (.invokevirtual 46, 3) := by decide +kernel
theorem dX7_replacedLength_17 : decode cX7_replacedLength 17 = .ok (.ifCond .eq 11, 3) := by decide +kernel
theorem dX7_replacedLength_20 : decode cX7_replacedLength 20 = .ok (.aload_n 0, 1) := by decide +kernel
theorem dX7_replacedLength_21 : decode cX7_replacedLength 21 = .ok (.iload_n 1, 1) := by decide +kernel
theorem dX7_replacedLength_22 : decode cX7_replacedLength 22 = .ok (.invokevirtual 114, 3) := by decide +kernel
theorem dX7_replacedLength_25 : decode cX7_replacedLength 25 = .ok (.goto 4, 3) := by decide +kernel
theorem dX7_replacedLength_28 : decode cX7_replacedLength 28 = .ok (.iconst 0, 1) := by decide +kernel
theorem dX7_replacedLength_29 : decode cX7_replacedLength 29 = .ok (.ireturn, 1) := by decide +kernel
theorem dX7_replaced_0 : decode cX7_replaced 0 = .ok (.aload_n 0, 1) := by decide +kernel
theorem dX7_replaced_1 : decode cX7_replaced 1 = .ok (.iload_n 1, 1) := by decide +kernel
theorem dX7_replaced_2 : decode cX7_replaced 2 = .ok (.invokevirtual 108, 3) := by decide +kernel
theorem dX7_replaced_5 : decode cX7_replaced 5 = .ok (.istore_n 3, 1) := by decide +kernel
theorem dX7_replaced_6 : decode cX7_replaced 6 = .ok (.aload_n 0, 1) := by decide +kernel
theorem dX7_replaced_7 : decode cX7_replaced 7 = .ok (.iload_n 3, 1) := by decide +kernel
theorem dX7_replaced_8 : decode cX7_replaced 8 = .ok (.ifCond .ne 7, 3) := by decide +kernel
theorem dX7_replaced_11 : decode cX7_replaced 11 = .ok (.iconst 1, 1) := by decide +kernel
theorem dX7_replaced_12 : decode cX7_replaced 12 = .ok (.goto 21, 3) := by decide +kernel
theorem dX7_replaced_15 : decode cX7_replaced 15 = .ok (.iload_n 2, 1) := by decide +kernel
theorem dX7_replaced_16 : decode cX7_replaced 16 = .ok (.ifCond .lt 12, 3) := by decide +kernel
theorem dX7_replaced_19 : decode cX7_replaced 19 = .ok (.iload_n 2, 1) := by decide +kernel
theorem dX7_replaced_20 : decode cX7_replaced 20 = .ok (.aload_n 0, 1) := by decide +kernel
theorem dX7_replaced_21 : decode cX7_replaced 21 = .ok (.iload_n 1, 1) := by decide +kernel
theorem dX7_replaced_22 : decode cX7_replaced 22 = .ok (.invokevirtual 114, 3) := by decide +kernel
theorem dX7_replaced_25 : decode cX7_replaced 25 = .ok (.if_icmp .lt 7, 3) := by decide +kernel
theorem dX7_replaced_28 : decode cX7_replaced 28 = .ok (.iconst 2, 1) := by decide +kernel
theorem dX7_replaced_29 : decode cX7_replaced 29 = .ok (.goto 4, 3) := by decide +kernel
theorem dX7_replaced_32 : decode cX7_replaced 32 = .ok (.iconst 0, 1) := by decide +kernel
theorem dX7_replaced_33 : decode cX7_replaced 33 = .ok (.invokevirtual 46, 3) := by decide +kernel
theorem dX7_replaced_36 : decode cX7_replaced 36 = .ok (.ifCond .ne 6, 3) := by decide +kernel
theorem dX7_replaced_39 : decode cX7_replaced 39 = .ok (.bipush 97, 2) := by decide +kernel
theorem dX7_replaced_41 : decode cX7_replaced 41 = .ok (.ireturn, 1) := by decide +kernel
theorem dX7_replaced_42 : decode cX7_replaced 42 = .ok (.aload_n 0, 1) := by decide +kernel
theorem dX7_replaced_43 : decode cX7_replaced 43 = .ok (.iload_n 1, 1) := by decide +kernel
theorem dX7_replaced_44 : decode cX7_replaced 44 = .ok (.iload_n 2, 1) := by decide +kernel
theorem dX7_replaced_45 : decode cX7_replaced 45 = .ok (.invokevirtual 117, 3) := by decide +kernel
theorem dX7_replaced_48 : decode cX7_replaced 48 = .ok (.i2c, 1) := by decide +kernel
theorem dX7_replaced_49 : decode cX7_replaced 49 = .ok (.ireturn, 1) := by decide +kernel
theorem dX7_isOpen_0 : decode cX7_isOpen 0 = .ok (.iconst 0, 1) := by decide +kernel
theorem dX7_isOpen_1 : decode cX7_isOpen 1 = .ok (.istore_n 2, 1) := by decide +kernel
theorem dX7_isOpen_2 : decode cX7_isOpen 2 = .ok (.iconst 0, 1) := by decide +kernel
theorem dX7_isOpen_3 : decode cX7_isOpen 3 = .ok (.istore_n 3, 1) := by decide +kernel
theorem dX7_isOpen_4 : decode cX7_isOpen 4 = .ok (.iload_n 3, 1) := by decide +kernel
theorem dX7_isOpen_5 : decode cX7_isOpen 5 = .ok (.aload_n 0, 1) := by decide +kernel
theorem dX7_isOpen_6 : decode cX7_isOpen 6 = .ok (.getfield 36, 3) := by decide +kernel
theorem dX7_isOpen_9 : decode cX7_isOpen 9 = .ok (.if_icmp .ge 43, 3) := by decide +kernel
theorem dX7_isOpen_12 : decode cX7_isOpen 12 = .ok (.iload_n 2, 1) := by decide +kernel
theorem dX7_isOpen_13 : decode cX7_isOpen 13 = .ok (.ifCond .ne 27, 3) := by decide +kernel
theorem dX7_isOpen_16 : decode cX7_isOpen 16 = .ok (.aload_n 0, 1) := by decide +kernel
theorem dX7_isOpen_17 : decode cX7_isOpen 17 = .ok (.getfield 67, 3) := by decide +kernel
theorem dX7_isOpen_20 : decode cX7_isOpen 20 = .ok (.iload_n 1, 1) := by decide +kernel
theorem dX7_isOpen_21 : decode cX7_isOpen 21 = .ok (.isub, 1) := by decide +kernel
theorem dX7_isOpen_22 : decode cX7_isOpen 22 = .ok (.aload_n 0, 1) := by decide +kernel
theorem dX7_isOpen_23 : decode cX7_isOpen 23 = .ok (.getfield 17, 3) := by decide +kernel
theorem dX7_isOpen_26 : decode cX7_isOpen 26 = .ok (.iload_n 3, 1) := by decide +kernel
theorem dX7_isOpen_27 : decode cX7_isOpen 27 = .ok (.iaload, 1) := by decide +kernel
theorem dX7_isOpen_28 : decode cX7_isOpen 28 = .ok (.if_icmp .ge 16, 3) := by decide +kernel
theorem dX7_isOpen_31 : decode cX7_isOpen 31 = .ok (.aload_n 0, 1) := by decide +kernel
theorem dX7_isOpen_32 : decode cX7_isOpen 32 = .ok (.iload_n 1, 1) := by decide +kernel
theorem dX7_isOpen_33 : decode cX7_isOpen 33 = .ok (.iload_n 3, 1) := by decide +kernel
theorem dX7_isOpen_34 : decode cX7_isOpen 34 = .ok (.invokevirtual 84, 3) := by decide +kernel
theorem dX7_isOpen_37 : decode cX7_isOpen 37 = .ok (.ifCond .eq 7, 3) := by decide +kernel
theorem dX7_isOpen_40 : decode cX7_isOpen 40 = .ok (.iconst 1, 1) := by decide +kernel
theorem dX7_isOpen_41 : decode cX7_isOpen 41 = .ok (.goto 4, 3) := by decide +kernel
theorem dX7_isOpen_44 : decode cX7_isOpen 44 = .ok (.iconst 0, 1) := by decide +kernel
theorem dX7_isOpen_45 : decode cX7_isOpen 45 = .ok (.istore_n 2, 1) := by decide +kernel
theorem dX7_isOpen_46 : decode cX7_isOpen 46 = .ok (.iinc 3 1, 3) := by decide +kernel
theorem dX7_isOpen_49 : decode cX7_isOpen 49 = .ok (.goto (-45), 3) := by decide +kernel
theorem dX7_isOpen_52 : decode cX7_isOpen 52 = .ok (.iload_n 2, 1) := by decide +kernel
theorem dX7_isOpen_53 : decode cX7_isOpen 53 = .ok (.ireturn, 1) := by decide +kernel
theorem dX7_certain_0 : decode cX7_certain 0 = .ok (.aload_n 0, 1) := by decide +kernel
theorem dX7_certain_1 : decode cX7_certain 1 = .ok (.iconst 0, 1) := by decide +kernel
theorem dX7_certain_2 : decode cX7_certain 2 = .ok (.putfield 32, 3) := by decide +kernel
theorem dX7_certain_5 : decode cX7_certain 5 = .ok (.iconst 0, 1) := by decide +kernel
theorem dX7_certain_6 : decode cX7_certain 6 = .ok (.istore_n 1, 1) := by decide +kernel
theorem dX7_certain_7 : decode cX7_certain 7 = .ok (.iconst 0, 1) := by decide +kernel
theorem dX7_certain_8 : decode cX7_certain 8 = .ok (.istore_n 2, 1) := by decide +kernel
theorem dX7_certain_9 : decode cX7_certain 9 = .ok (.iload_n 2, 1) := by decide +kernel
theorem dX7_certain_10 : decode cX7_certain 10 = .ok (.aload_n 0, 1) := by decide +kernel
theorem dX7_certain_11 : decode cX7_certain 11 = .ok (.getfield 67, 3) := by decide +kernel
theorem dX7_certain_14 : decode cX7_certain 14 = .ok (.if_icmp .ge 72, 3) := by decide +kernel
theorem dX7_certain_17 : decode cX7_certain 17 = .ok (.aload_n 0, 1) := by decide +kernel
theorem dX7_certain_18 : decode cX7_certain 18 = .ok (.iload_n 2, 1) := by decide +kernel
theorem dX7_certain_19 : decode cX7_certain 19 = .ok (.invokevirtual 121, 3) := by decide +kernel
theorem dX7_certain_22 : decode cX7_certain 22 = .ok (.ifCond .ne 64, 3) := by decide +kernel
theorem dX7_certain_25 : decode cX7_certain 25 = .ok (.aload_n 0, 1) := by decide +kernel
theorem dX7_certain_26 : decode cX7_certain 26 = .ok (.iconst 0, 1) := by decide +kernel
theorem dX7_certain_27 : decode cX7_certain 27 = .ok (.iload_n 2, 1) := by decide +kernel
theorem dX7_certain_28 : decode cX7_certain 28 = .ok (.invokevirtual 99, 3) := by decide +kernel
theorem dX7_certain_31 : decode cX7_certain 31 = .ok (.ifCond .eq 15, 3) := by decide +kernel
theorem dX7_certain_34 : decode cX7_certain 34 = .ok (.aload_n 0, 1) := by decide +kernel
theorem dX7_certain_35 : decode cX7_certain 35 = .ok (.getfield 93, 3) := by decide +kernel
theorem dX7_certain_38 : decode cX7_certain 38 = .ok (.iload_n 2, 1) := by decide +kernel
theorem dX7_certain_39 : decode cX7_certain 39 = .ok (.if_icmp .ne 7, 3) := by decide +kernel
theorem dX7_certain_42 : decode cX7_certain 42 = .ok (.iconst 1, 1) := by decide +kernel
theorem dX7_certain_43 : decode cX7_certain 43 = .ok (.goto 4, 3) := by decide +kernel
theorem dX7_certain_46 : decode cX7_certain 46 = .ok (.iconst 0, 1) := by decide +kernel
theorem dX7_certain_47 : decode cX7_certain 47 = .ok (.istore_n 3, 1) := by decide +kernel
theorem dX7_certain_48 : decode cX7_certain 48 = .ok (.iload_n 1, 1) := by decide +kernel
theorem dX7_certain_49 : decode cX7_certain 49 = .ok (.iload_n 3, 1) := by decide +kernel
theorem dX7_certain_50 : decode cX7_certain 50 = .ok (.ifCond .eq 15, 3) := by decide +kernel
theorem dX7_certain_53 : decode cX7_certain 53 = .ok (.aload_n 0, 1) := by decide +kernel
theorem dX7_certain_54 : decode cX7_certain 54 = .ok (.getfield 23, 3) := by decide +kernel
theorem dX7_certain_57 : decode cX7_certain 57 = .ok (.aload_n 0, 1) := by decide +kernel
theorem dX7_certain_58 : decode cX7_certain 58 = .ok (.getfield 90, 3) := by decide +kernel
theorem dX7_certain_61 : decode cX7_certain 61 = .ok (.iaload, 1) := by decide +kernel
theorem dX7_certain_62 : decode cX7_certain 62 = .ok (.goto 4, 3) := by decide +kernel
theorem dX7_certain_65 : decode cX7_certain 65 = .ok (.iconst 1, 1) := by decide +kernel
theorem dX7_certain_66 : decode cX7_certain 66 = .ok (.iadd, 1) := by decide +kernel
theorem dX7_certain_67 : decode cX7_certain 67 = .ok (.istore_n 1, 1) := by decide +kernel
theorem dX7_certain_68 : decode cX7_certain 68 = .ok (.iload_n 3, 1) := by decide +kernel
theorem dX7_certain_69 : decode cX7_certain 69 = .ok (.ifCond .eq 10, 3) := by decide +kernel
theorem dX7_certain_72 : decode cX7_certain 72 = .ok (.aload_n 0, 1) := by decide +kernel
theorem dX7_certain_73 : decode cX7_certain 73 = .ok (.invokevirtual 102, 3) := by decide +kernel
theorem dX7_certain_76 : decode cX7_certain 76 = .ok (.goto 6, 3) := by decide +kernel
theorem dX7_certain_79 : decode cX7_certain 79 = .ok (.iload_n 2, 1) := by decide +kernel
theorem dX7_certain_80 : decode cX7_certain 80 = .ok (.iconst 1, 1) := by decide +kernel
theorem dX7_certain_81 : decode cX7_certain 81 = .ok (.iadd, 1) := by decide +kernel
theorem dX7_certain_82 : decode cX7_certain 82 = .ok (.istore_n 2, 1) := by decide +kernel
theorem dX7_certain_83 : decode cX7_certain 83 = .ok (.goto (-74), 3) := by decide +kernel
theorem dX7_certain_86 : decode cX7_certain 86 = .ok (.iload_n 1, 1) := by decide +kernel
theorem dX7_certain_87 : decode cX7_certain 87 = .ok (.ireturn, 1) := by decide +kernel
