theorem dX0_init_0 : decode cX0_init 0 = .ok (.aload_n 0, 1) := by decide +kernel
theorem dX0_init_1 : decode cX0_init 1 = .ok (.invokespecial 3, 3) := by decide +kernel
theorem dX0_init_4 : decode cX0_init 4 = .ok (.aload_n 0, 1) := by decide +kernel
theorem dX0_init_5 : decode cX0_init 5 = .ok (.bipush 40, 2) := by decide +kernel
theorem dX0_init_7 : decode cX0_init 7 = .ok (.anewarray 9, 3) := by decide +kernel
theorem dX0_init_10 : decode cX0_init 10 = .ok (.putfield 11, 3) := by decide +kernel
theorem dX0_init_13 : decode cX0_init 13 = .ok (.aload_n 0, 1) := by decide +kernel
theorem dX0_init_14 : decode cX0_init 14 = .ok (.iconst 0, 1) := by decide +kernel
theorem dX0_init_15 : decode cX0_init 15 = .ok (.putfield 17, 3) := by decide +kernel
theorem dX0_init_18 : decode cX0_init 18 = .ok (.aload_n 0, 1) := by decide +kernel
theorem dX0_init_19 : decode cX0_init 19 = .ok (.iconst 0, 1) := by decide +kernel
theorem dX0_init_20 : decode cX0_init 20 = .ok (.putfield 21, 3) := by decide +kernel
theorem dX0_init_23 : decode cX0_init 23 = .ok (.return_, 1) := by decide +kernel
theorem dX0_isFull_0 : decode cX0_isFull 0 = .ok (.aload_n 0, 1) := by decide +kernel
theorem dX0_isFull_1 : decode cX0_isFull 1 = .ok (.getfield 21, 3) := by decide +kernel
theorem dX0_isFull_4 : decode cX0_isFull 4 = .ok (.bipush 20, 2) := by decide +kernel
theorem dX0_isFull_6 : decode cX0_isFull 6 = .ok (.if_icmp .ge 12, 3) := by decide +kernel
theorem dX0_isFull_9 : decode cX0_isFull 9 = .ok (.aload_n 0, 1) := by decide +kernel
theorem dX0_isFull_10 : decode cX0_isFull 10 = .ok (.getfield 17, 3) := by decide +kernel
theorem dX0_isFull_13 : decode cX0_isFull 13 = .ok (.bipush 40, 2) := by decide +kernel
theorem dX0_isFull_15 : decode cX0_isFull 15 = .ok (.if_icmp .lt 7, 3) := by decide +kernel
theorem dX0_isFull_18 : decode cX0_isFull 18 = .ok (.iconst 1, 1) := by decide +kernel
theorem dX0_isFull_19 : decode cX0_isFull 19 = .ok (.goto 4, 3) := by decide +kernel
theorem dX0_isFull_22 : decode cX0_isFull 22 = .ok (.iconst 0, 1) := by decide +kernel
theorem dX0_isFull_23 : decode cX0_isFull 23 = .ok (.ireturn, 1) := by decide +kernel
theorem dX0_has_0 : decode cX0_has 0 = .ok (.aload_n 0, 1) := by decide +kernel
theorem dX0_has_1 : decode cX0_has 1 = .ok (.getfield 11, 3) := by decide +kernel
theorem dX0_has_4 : decode cX0_has 4 = .ok (.astore_n 2, 1) := by decide +kernel
theorem dX0_has_5 : decode cX0_has 5 = .ok (.aload_n 2, 1) := by decide +kernel
theorem dX0_has_6 : decode cX0_has 6 = .ok (.arraylength, 1) := by decide +kernel
theorem dX0_has_7 : decode cX0_has 7 = .ok (.istore_n 3, 1) := by decide +kernel
theorem dX0_has_8 : decode cX0_has 8 = .ok (.iconst 0, 1) := by decide +kernel
theorem dX0_has_9 : decode cX0_has 9 = .ok (.istore 4, 2) := by decide +kernel
theorem dX0_has_11 : decode cX0_has 11 = .ok (.iload 4, 2) := by decide +kernel
theorem dX0_has_13 : decode cX0_has 13 = .ok (.iload_n 3, 1) := by decide +kernel
theorem dX0_has_14 : decode cX0_has 14 = .ok (.if_icmp .ge 38, 3) := by decide +kernel
theorem dX0_has_17 : decode cX0_has 17 = .ok (.aload_n 2, 1) := by decide +kernel
theorem dX0_has_18 : decode cX0_has 18 = .ok (.iload 4, 2) := by decide +kernel
theorem dX0_has_20 : decode cX0_has 20 = .ok (.aaload, 1) := by decide +kernel
theorem dX0_has_21 : decode cX0_has 21 = .ok (.astore 5, 2) := by decide +kernel
theorem dX0_has_23 : decode cX0_has 23 = .ok (.aload 5, 2) := by decide +kernel
theorem dX0_has_25 : decode cX0_has 25 = .ok (.ifnull 21, 3) := by decide +kernel
theorem dX0_has_28 : decode cX0_has 28 = .ok (.aload 5, 2) := by decide +kernel
theorem dX0_has_30 : decode cX0_has 30 = .ok (.getfield 24, 3) := by decide +kernel
theorem dX0_has_33 : decode cX0_has 33 = .ok (.getfield 28, 3) := by decide +kernel
theorem dX0_has_36 : decode cX0_has 36 = .ok (.aload_n 1, 1) := by decide +kernel
theorem dX0_has_37 : decode cX0_has 37 = .ok (.getfield 28, 3) := by decide +kernel
theorem dX0_has_40 : decode cX0_has 40 = .ok (.lcmp, 1) := by decide +kernel
theorem dX0_has_41 : decode cX0_has 41 = .ok (.ifCond .ne 5, 3) := by decide +kernel
theorem dX0_has_44 : decode cX0_has 44 = .ok (.iconst 1, 1) := by decide +kernel
theorem dX0_has_45 : decode cX0_has 45 = .ok (.ireturn, 1) := by decide +kernel
theorem dX0_has_46 : decode cX0_has 46 = .ok (.iinc 4 1, 3) := by decide +kernel
theorem dX0_has_49 : decode cX0_has 49 = .ok (.goto (-38), 3) := by decide +kernel
theorem dX0_has_52 : decode cX0_has 52 = .ok (.iconst 0, 1) := by decide +kernel
theorem dX0_has_53 : decode cX0_has 53 = .ok (.ireturn, 1) := by decide +kernel
theorem dX0_find_0 : decode cX0_find 0 = .ok (.iload_n 1, 1) := by decide +kernel
theorem dX0_find_1 : decode cX0_find 1 = .ok (.ifCond .lt 21, 3) := by decide +kernel
theorem dX0_find_4 : decode cX0_find 4 = .ok (.iload_n 1, 1) := by decide +kernel
theorem dX0_find_5 : decode cX0_find 5 = .ok (.aload_n 0, 1) := by decide +kernel
theorem dX0_find_6 : decode cX0_find 6 = .ok (.getfield 11, 3) := by decide +kernel
theorem dX0_find_9 : decode cX0_find 9 = .ok (.arraylength, 1) := by decide +kernel
theorem dX0_find_10 : decode cX0_find 10 = .ok (.if_icmp .ge 12, 3) := by decide +kernel
theorem dX0_find_13 : decode cX0_find 13 = .ok (.aload_n 0, 1) := by decide +kernel
theorem dX0_find_14 : decode cX0_find 14 = .ok (.getfield 11, 3) := by decide +kernel
theorem dX0_find_17 : decode cX0_find 17 = .ok (.iload_n 1, 1) := by decide +kernel
theorem dX0_find_18 : decode cX0_find 18 = .ok (.aaload, 1) := by decide +kernel
theorem dX0_find_19 : decode cX0_find 19 = .ok (.goto 4, 3) := by decide +kernel
theorem dX0_find_22 : decode cX0_find 22 = .ok (.aconst_null, 1) := by decide +kernel
theorem dX0_find_23 : decode cX0_find 23 = .ok (.areturn, 1) := by decide +kernel
theorem dX0_add_0 : decode cX0_add 0 = .ok (.aload_n 0, 1) := by decide +kernel
theorem dX0_add_1 : decode cX0_add 1 = .ok (.getfield 17, 3) := by decide +kernel
theorem dX0_add_4 : decode cX0_add 4 = .ok (.istore_n 2, 1) := by decide +kernel
theorem dX0_add_5 : decode cX0_add 5 = .ok (.iload_n 2, 1) := by decide +kernel
theorem dX0_add_6 : decode cX0_add 6 = .ok (.aload_n 0, 1) := by decide +kernel
theorem dX0_add_7 : decode cX0_add 7 = .ok (.getfield 11, 3) := by decide +kernel
theorem dX0_add_10 : decode cX0_add 10 = .ok (.arraylength, 1) := by decide +kernel
theorem dX0_add_11 : decode cX0_add 11 = .ok (.if_icmp .ge 38, 3) := by decide +kernel
theorem dX0_add_14 : decode cX0_add 14 = .ok (.aload_n 0, 1) := by decide +kernel
theorem dX0_add_15 : decode cX0_add 15 = .ok (.getfield 11, 3) := by decide +kernel
theorem dX0_add_18 : decode cX0_add 18 = .ok (.iload_n 2, 1) := by decide +kernel
theorem dX0_add_19 : decode cX0_add 19 = .ok (.new 9, 3) := by decide +kernel
theorem dX0_add_22 : decode cX0_add 22 = .ok (.dup, 1) := by decide +kernel
theorem dX0_add_23 : decode cX0_add 23 = .ok (.iload_n 2, 1) := by decide +kernel
theorem dX0_add_24 : decode cX0_add 24 = .ok (.aload_n 1, 1) := by decide +kernel
theorem dX0_add_25 : decode cX0_add 25 = .ok (.invokespecial 34, 3) := by decide +kernel
theorem dX0_add_28 : decode cX0_add 28 = .ok (.aastore, 1) := by decide +kernel
theorem dX0_add_29 : decode cX0_add 29 = .ok (.aload_n 0, 1) := by decide +kernel
theorem dX0_add_30 : decode cX0_add 30 = .ok (.dup, 1) := by decide +kernel
theorem dX0_add_31 : decode cX0_add 31 = .ok (.getfield 17, 3) := by decide +kernel
theorem dX0_add_34 : decode cX0_add 34 = .ok (.iconst 1, 1) := by decide +kernel
theorem dX0_add_35 : decode cX0_add 35 = .ok (.iadd, 1) := by decide +kernel
theorem dX0_add_36 : decode cX0_add 36 = .ok (.putfield 17, 3) := by decide +kernel
theorem dX0_add_39 : decode cX0_add 39 = .ok (.aload_n 0, 1) := by decide +kernel
theorem dX0_add_40 : decode cX0_add 40 = .ok (.dup, 1) := by decide +kernel
theorem dX0_add_41 : decode cX0_add 41 = .ok (.getfield 21, 3) := by decide +kernel
theorem dX0_add_44 : decode cX0_add 44 = .ok (.iconst 1, 1) := by decide +kernel
theorem dX0_add_45 : decode cX0_add 45 = .ok (.iadd, 1) := by decide +kernel
theorem dX0_add_46 : decode cX0_add 46 = .ok (.putfield 21, 3) := by decide +kernel
theorem dX0_add_49 : decode cX0_add 49 = .ok (.iload_n 2, 1) := by decide +kernel
theorem dX0_add_50 : decode cX0_add 50 = .ok (.ireturn, 1) := by decide +kernel
theorem dX0_remove_0 : decode cX0_remove 0 = .ok (.aload_n 0, 1) := by decide +kernel
theorem dX0_remove_1 : decode cX0_remove 1 = .ok (.aload_n 1, 1) := by decide +kernel
theorem dX0_remove_2 : decode cX0_remove 2 = .ok (.getfield 37, 3) := by decide +kernel
theorem dX0_remove_5 : decode cX0_remove 5 = .ok (.invokevirtual 40, 3) := by decide +kernel
theorem dX0_remove_8 : decode cX0_remove 8 = .ok (.ifnull 23, 3) := by decide +kernel
theorem dX0_remove_11 : decode cX0_remove 11 = .ok (.aload_n 0, 1) := by decide +kernel
theorem dX0_remove_12 : decode cX0_remove 12 = .ok (.getfield 11, 3) := by decide +kernel
theorem dX0_remove_15 : decode cX0_remove 15 = .ok (.aload_n 1, 1) := by decide +kernel
theorem dX0_remove_16 : decode cX0_remove 16 = .ok (.getfield 37, 3) := by decide +kernel
theorem dX0_remove_19 : decode cX0_remove 19 = .ok (.aconst_null, 1) := by decide +kernel
theorem dX0_remove_20 : decode cX0_remove 20 = .ok (.aastore, 1) := by decide +kernel
theorem dX0_remove_21 : decode cX0_remove 21 = .ok (.aload_n 0, 1) := by decide +kernel
theorem dX0_remove_22 : decode cX0_remove 22 = .ok (.dup, 1) := by decide +kernel
theorem dX0_remove_23 : decode cX0_remove 23 = .ok (.getfield 21, 3) := by decide +kernel
theorem dX0_remove_26 : decode cX0_remove 26 = .ok (.iconst 1, 1) := by decide +kernel
theorem dX0_remove_27 : decode cX0_remove 27 = .ok (.isub, 1) := by decide +kernel
theorem dX0_remove_28 : decode cX0_remove 28 = .ok (.putfield 21, 3) := by decide +kernel
theorem dX0_remove_31 : decode cX0_remove 31 = .ok (.return_, 1) := by decide +kernel
theorem dX0_hasBeginning_0 : decode cX0_hasBeginning 0 = .ok (.aload_n 0, 1) := by decide +kernel
theorem dX0_hasBeginning_1 : decode cX0_hasBeginning 1 = .ok (.getfield 11, 3) := by decide +kernel
theorem dX0_hasBeginning_4 : decode cX0_hasBeginning 4 = .ok (.astore 5, 2) := by decide +kernel
theorem dX0_hasBeginning_6 : decode cX0_hasBeginning 6 = .ok (.aload 5, 2) := by decide +kernel
theorem dX0_hasBeginning_8 : decode cX0_hasBeginning 8 = .ok (.arraylength, 1) := by decide +kernel
theorem dX0_hasBeginning_9 : decode cX0_hasBeginning 9 = .ok (.istore 6, 2) := by decide +kernel
theorem dX0_hasBeginning_11 : decode cX0_hasBeginning 11 = .ok (.iconst 0, 1) := by decide +kernel
theorem dX0_hasBeginning_12 : decode cX0_hasBeginning 12 = .ok (.istore 7, 2) := by decide +kernel
theorem dX0_hasBeginning_14 : decode cX0_hasBeginning 14 = .ok (.iload 7, 2) := by decide +kernel
theorem dX0_hasBeginning_16 : decode cX0_hasBeginning 16 = .ok (.iload 6, 2) := by decide +kernel
theorem dX0_hasBeginning_18 : decode cX0_hasBeginning 18 = .ok (.if_icmp .ge 49, 3) := by decide +kernel
theorem dX0_hasBeginning_21 : decode cX0_hasBeginning 21 = .ok (.aload 5, 2) := by decide +kernel
theorem dX0_hasBeginning_23 : decode cX0_hasBeginning 23 = .ok (.iload 7, 2) := by decide +kernel
theorem dX0_hasBeginning_25 : decode cX0_hasBeginning 25 = .ok (.aaload, 1) := by decide +kernel
theorem dX0_hasBeginning_26 : decode cX0_hasBeginning 26 = .ok (.astore 8, 2) := by decide +kernel
theorem dX0_hasBeginning_28 : decode cX0_hasBeginning 28 = .ok (.aload 8, 2) := by decide +kernel
theorem dX0_hasBeginning_30 : decode cX0_hasBeginning 30 = .ok (.ifnull 31, 3) := by decide +kernel
theorem dX0_hasBeginning_33 : decode cX0_hasBeginning 33 = .ok (.aload 8, 2) := by decide +kernel
theorem dX0_hasBeginning_35 : decode cX0_hasBeginning 35 = .ok (.getfield 24, 3) := by decide +kernel
theorem dX0_hasBeginning_38 : decode cX0_hasBeginning 38 = .ok (.getfield 44, 3) := by decide +kernel
theorem dX0_hasBeginning_41 : decode cX0_hasBeginning 41 = .ok (.iload 4, 2) := by decide +kernel
theorem dX0_hasBeginning_43 : decode cX0_hasBeginning 43 = .ok (.if_icmp .lt 18, 3) := by decide +kernel
theorem dX0_hasBeginning_46 : decode cX0_hasBeginning 46 = .ok (.aload 8, 2) := by decide +kernel
theorem dX0_hasBeginning_48 : decode cX0_hasBeginning 48 = .ok (.getfield 24, 3) := by decide +kernel
theorem dX0_hasBeginning_51 : decode cX0_hasBeginning 51 = .ok (.lload_n 1, 1) := by decide +kernel
theorem dX0_hasBeginning_52 : decode cX0_hasBeginning 52 = .ok (.iload_n 3, 1) := by decide +kernel
theorem dX0_hasBeginning_53 : decode cX0_hasBeginning 53 = .ok (.invokevirtual 47, 3) := by decide +kernel
theorem dX0_hasBeginning_56 : decode cX0_hasBeginning 56 = .ok (.ifCond .eq 5, 3) := by decide +kernel
theorem dX0_hasBeginning_59 : decode cX0_hasBeginning 59 = .ok (.iconst 1, 1) := by decide +kernel
theorem dX0_hasBeginning_60 : decode cX0_hasBeginning 60 = .ok (.ireturn, 1) := by decide +kernel
theorem dX0_hasBeginning_61 : decode cX0_hasBeginning 61 = .ok (.iinc 7 1, 3) := by decide +kernel
theorem dX0_hasBeginning_64 : decode cX0_hasBeginning 64 = .ok (.goto (-50), 3) := by decide +kernel
theorem dX0_hasBeginning_67 : decode cX0_hasBeginning 67 = .ok (.iconst 0, 1) := by decide +kernel
theorem dX0_hasBeginning_68 : decode cX0_hasBeginning 68 = .ok (.ireturn, 1) := by decide +kernel
theorem dX0_longestEnd_0 : decode cX0_longestEnd 0 = .ok (.iload_n 3, 1) := by decide +kernel
theorem dX0_longestEnd_1 : decode cX0_longestEnd 1 = .ok (.istore 4, 2) := by decide +kernel
theorem dX0_longestEnd_3 : decode cX0_longestEnd 3 = .ok (.iload 4, 2) := by decide +kernel
theorem dX0_longestEnd_5 : decode cX0_longestEnd 5 = .ok (.ifCond .le 29, 3) := by decide +kernel
theorem dX0_longestEnd_8 : decode cX0_longestEnd 8 = .ok (.aload_n 0, 1) := by decide +kernel
theorem dX0_longestEnd_9 : decode cX0_longestEnd 9 = .ok (.lload_n 1, 1) := by decide +kernel
theorem dX0_longestEnd_10 : decode cX0_longestEnd 10 = .ok (.iload 4, 2) := by decide +kernel
theorem dX0_longestEnd_12 : decode cX0_longestEnd 12 = .ok (.invokestatic 51, 3) := by decide +kernel
theorem dX0_longestEnd_15 : decode cX0_longestEnd 15 = .ok (.iload 4, 2) := by decide +kernel
theorem dX0_longestEnd_17 : decode cX0_longestEnd 17 = .ok (.iload 4, 2) := by decide +kernel
theorem dX0_longestEnd_19 : decode cX0_longestEnd 19 = .ok (.invokevirtual 55, 3) := by decide +kernel
theorem dX0_longestEnd_22 : decode cX0_longestEnd 22 = .ok (.ifCond .eq 6, 3) := by decide +kernel
theorem dX0_longestEnd_25 : decode cX0_longestEnd 25 = .ok (.iload 4, 2) := by decide +kernel
theorem dX0_longestEnd_27 : decode cX0_longestEnd 27 = .ok (.ireturn, 1) := by decide +kernel
theorem dX0_longestEnd_28 : decode cX0_longestEnd 28 = .ok (.iinc 4 (-1), 3) := by decide +kernel
theorem dX0_longestEnd_31 : decode cX0_longestEnd 31 = .ok (.goto (-28), 3) := by decide +kernel
theorem dX0_longestEnd_34 : decode cX0_longestEnd 34 = .ok (.iconst 0, 1) := by decide +kernel
theorem dX0_longestEnd_35 : decode cX0_longestEnd 35 = .ok (.ireturn, 1) := by decide +kernel
theorem dX0_countBeginnings_0 : decode cX0_countBeginnings 0 = .ok (.iconst 0, 1) := by decide +kernel
theorem dX0_countBeginnings_1 : decode cX0_countBeginnings 1 = .ok (.istore_n 1, 1) := by decide +kernel
theorem dX0_countBeginnings_2 : decode cX0_countBeginnings 2 = .ok (.aload_n 0, 1) := by decide +kernel
theorem dX0_countBeginnings_3 : decode cX0_countBeginnings 3 = .ok (.getfield 11, 3) := by decide +kernel
theorem dX0_countBeginnings_6 : decode cX0_countBeginnings 6 = .ok (.astore_n 2, 1) := by decide +kernel
theorem dX0_countBeginnings_7 : decode cX0_countBeginnings 7 = .ok (.aload_n 2, 1) := by decide +kernel
theorem dX0_countBeginnings_8 : decode cX0_countBeginnings 8 = .ok (.arraylength, 1) := by decide +kernel
theorem dX0_countBeginnings_9 : decode cX0_countBeginnings 9 = .ok (.istore_n 3, 1) := by decide +kernel
theorem dX0_countBeginnings_10 : decode cX0_countBeginnings 10 = .ok (.iconst 0, 1) := by decide +kernel
theorem dX0_countBeginnings_11 : decode cX0_countBeginnings 11 = .ok (.istore 4, 2) := by decide +kernel
theorem dX0_countBeginnings_13 : decode cX0_countBeginnings 13 = .ok (.iload 4, 2) := by decide +kernel
theorem dX0_countBeginnings_15 : decode cX0_countBeginnings 15 = .ok (.iload_n 3, 1) := by decide +kernel
theorem dX0_countBeginnings_16 : decode cX0_countBeginnings 16 = .ok (.if_icmp .ge 38, 3) := by decide +kernel
theorem dX0_countBeginnings_19 : decode cX0_countBeginnings 19 = .ok (.aload_n 2, 1) := by decide +kernel
theorem dX0_countBeginnings_20 : decode cX0_countBeginnings 20 = .ok (.iload 4, 2) := by decide +kernel
theorem dX0_countBeginnings_22 : decode cX0_countBeginnings 22 = .ok (.aaload, 1) := by decide +kernel
theorem dX0_countBeginnings_23 : decode cX0_countBeginnings 23 = .ok (.astore 5, 2) := by decide +kernel
theorem dX0_countBeginnings_25 : decode cX0_countBeginnings 25 = .ok (.aload 5, 2) := by decide +kernel
theorem dX0_countBeginnings_27 : decode cX0_countBeginnings 27 = .ok (.ifnull 21, 3) := by decide +kernel
theorem dX0_countBeginnings_30 : decode cX0_countBeginnings 30 = .ok (.iload_n 1, 1) := by decide +kernel
theorem dX0_countBeginnings_31 : decode cX0_countBeginnings 31 = .ok (.aload 5, 2) := by decide +kernel
theorem dX0_countBeginnings_33 : decode cX0_countBeginnings 33 = .ok (.getfield 24, 3) := by decide +kernel
theorem dX0_countBeginnings_36 : decode cX0_countBeginnings 36 = .ok (.getfield 44, 3) := by decide +kernel
theorem dX0_countBeginnings_39 : decode cX0_countBeginnings 39 = .ok (.aload_n 0, 1) := by decide +kernel
theorem dX0_countBeginnings_40 : decode cX0_countBeginnings 40 = .ok (.aload 5, 2) := by decide +kernel
theorem dX0_countBeginnings_42 : decode cX0_countBeginnings 42 = .ok (.invokevirtual 59, 3) := by decide +kernel
theorem dX0_countBeginnings_45 : decode cX0_countBeginnings 45 = .ok (.isub, 1) := by decide +kernel
theorem dX0_countBeginnings_46 : decode cX0_countBeginnings 46 = .ok (.iadd, 1) := by decide +kernel
theorem dX0_countBeginnings_47 : decode cX0_countBeginnings 47 = .ok (.istore_n 1, 1) := by decide +kernel
theorem dX0_countBeginnings_48 : decode cX0_countBeginnings 48 = .ok (.iinc 4 1, 3) := by decide +kernel
theorem dX0_countBeginnings_51 : decode cX0_countBeginnings 51 = .ok (.goto (-38), 3) := by decide +kernel
theorem dX0_countBeginnings_54 : decode cX0_countBeginnings 54 = .ok (.iload_n 1, 1) := by decide +kernel
theorem dX0_countBeginnings_55 : decode cX0_countBeginnings 55 = .ok (.ireturn, 1) := by decide +kernel
theorem dX0_longestSharedBefore_0 : decode cX0_longestSharedBefore 0 = .ok (.iconst 0, 1) := by decide +kernel
theorem dX0_longestSharedBefore_1 : decode cX0_longestSharedBefore 1 = .ok (.istore_n 2, 1) := by decide +kernel
theorem dX0_longestSharedBefore_2 : decode cX0_longestSharedBefore 2 = .ok (.aload_n 0, 1) := by decide +kernel
theorem dX0_longestSharedBefore_3 : decode cX0_longestSharedBefore 3 = .ok (.getfield 11, 3) := by decide +kernel
theorem dX0_longestSharedBefore_6 : decode cX0_longestSharedBefore 6 = .ok (.astore_n 3, 1) := by decide +kernel
theorem dX0_longestSharedBefore_7 : decode cX0_longestSharedBefore 7 = .ok (.aload_n 3, 1) := by decide +kernel
theorem dX0_longestSharedBefore_8 : decode cX0_longestSharedBefore 8 = .ok (.arraylength, 1) := by decide +kernel
theorem dX0_longestSharedBefore_9 : decode cX0_longestSharedBefore 9 = .ok (.istore 4, 2) := by decide +kernel
theorem dX0_longestSharedBefore_11 : decode cX0_longestSharedBefore 11 = .ok (.iconst 0, 1) := by decide +kernel
theorem dX0_longestSharedBefore_12 : decode cX0_longestSharedBefore 12 = .ok (.istore 5, 2) := by decide +kernel
theorem dX0_longestSharedBefore_14 : decode cX0_longestSharedBefore 14 = .ok (.iload 5, 2) := by decide +kernel
theorem dX0_longestSharedBefore_16 : decode cX0_longestSharedBefore 16 = .ok (.iload 4, 2) := by decide +kernel
theorem dX0_longestSharedBefore_18 : decode cX0_longestSharedBefore 18 = .ok (.if_icmp .ge 49, 3) := by decide +kernel
theorem dX0_longestSharedBefore_21 : decode cX0_longestSharedBefore 21 = .ok (.aload_n 3, 1) := by decide +kernel
theorem dX0_longestSharedBefore_22 : decode cX0_longestSharedBefore 22 = .ok (.iload 5, 2) := by decide +kernel
theorem dX0_longestSharedBefore_24 : decode cX0_longestSharedBefore 24 = .ok (.aaload, 1) := by decide +kernel
theorem dX0_longestSharedBefore_25 : decode cX0_longestSharedBefore 25 = .ok (.astore 6, 2) := by decide +kernel
theorem dX0_longestSharedBefore_27 : decode cX0_longestSharedBefore 27 = .ok (.aload 6, 2) := by decide +kernel
theorem dX0_longestSharedBefore_29 : decode cX0_longestSharedBefore 29 = .ok (.ifnull 32, 3) := by decide +kernel
theorem dX0_longestSharedBefore_32 : decode cX0_longestSharedBefore 32 = .ok (.aload 6, 2) := by decide +kernel
theorem dX0_longestSharedBefore_34 : decode cX0_longestSharedBefore 34 = .ok (.getfield 37, 3) := by decide +kernel
theorem dX0_longestSharedBefore_37 : decode cX0_longestSharedBefore 37 = .ok (.aload_n 1, 1) := by decide +kernel
theorem dX0_longestSharedBefore_38 : decode cX0_longestSharedBefore 38 = .ok (.getfield 37, 3) := by decide +kernel
theorem dX0_longestSharedBefore_41 : decode cX0_longestSharedBefore 41 = .ok (.if_icmp .ge 20, 3) := by decide +kernel
theorem dX0_longestSharedBefore_44 : decode cX0_longestSharedBefore 44 = .ok (.iload_n 2, 1) := by decide +kernel
theorem dX0_longestSharedBefore_45 : decode cX0_longestSharedBefore 45 = .ok (.aload 6, 2) := by decide +kernel
theorem dX0_longestSharedBefore_47 : decode cX0_longestSharedBefore 47 = .ok (.getfield 24, 3) := by decide +kernel
theorem dX0_longestSharedBefore_50 : decode cX0_longestSharedBefore 50 = .ok (.aload_n 1, 1) := by decide +kernel
theorem dX0_longestSharedBefore_51 : decode cX0_longestSharedBefore 51 = .ok (.getfield 24, 3) := by decide +kernel
theorem dX0_longestSharedBefore_54 : decode cX0_longestSharedBefore 54 = .ok (.invokestatic 63, 3) := by decide +kernel
theorem dX0_longestSharedBefore_57 : decode cX0_longestSharedBefore 57 = .ok (.invokestatic 67, 3) := by decide +kernel
theorem dX0_longestSharedBefore_60 : decode cX0_longestSharedBefore 60 = .ok (.istore_n 2, 1) := by decide +kernel
theorem dX0_longestSharedBefore_61 : decode cX0_longestSharedBefore 61 = .ok (.iinc 5 1, 3) := by decide +kernel
theorem dX0_longestSharedBefore_64 : decode cX0_longestSharedBefore 64 = .ok (.goto (-50), 3) := by decide +kernel
theorem dX0_longestSharedBefore_67 : decode cX0_longestSharedBefore 67 = .ok (.iload_n 2, 1) := by decide +kernel
theorem dX0_longestSharedBefore_68 : decode cX0_longestSharedBefore 68 = .ok (.ireturn, 1) := by decide +kernel
theorem dX0_shared_0 : decode cX0_shared 0 = .ok (.aload_n 0, 1) := by decide +kernel
theorem dX0_shared_1 : decode cX0_shared 1 = .ok (.getfield 44, 3) := by decide +kernel
theorem dX0_shared_4 : decode cX0_shared 4 = .ok (.aload_n 1, 1) := by decide +kernel
theorem dX0_shared_5 : decode cX0_shared 5 = .ok (.getfield 44, 3) := by decide +kernel
theorem dX0_shared_8 : decode cX0_shared 8 = .ok (.invokestatic 73, 3) := by decide +kernel
theorem dX0_shared_11 : decode cX0_shared 11 = .ok (.istore_n 2, 1) := by decide +kernel
theorem dX0_shared_12 : decode cX0_shared 12 = .ok (.iload_n 2, 1) := by decide +kernel
theorem dX0_shared_13 : decode cX0_shared 13 = .ok (.ifCond .le 24, 3) := by decide +kernel
theorem dX0_shared_16 : decode cX0_shared 16 = .ok (.aload_n 0, 1) := by decide +kernel
theorem dX0_shared_17 : decode cX0_shared 17 = .ok (.aload_n 1, 1) := by decide +kernel
theorem dX0_shared_18 : decode cX0_shared 18 = .ok (.iload_n 2, 1) := by decide +kernel
theorem dX0_shared_19 : decode cX0_shared 19 = .ok (.invokevirtual 76, 3) := by decide +kernel
theorem dX0_shared_22 : decode cX0_shared 22 = .ok (.iload_n 2, 1) := by decide +kernel
theorem dX0_shared_23 : decode cX0_shared 23 = .ok (.invokevirtual 47, 3) := by decide +kernel
theorem dX0_shared_26 : decode cX0_shared 26 = .ok (.ifCond .eq 5, 3) := by decide +kernel
theorem dX0_shared_29 : decode cX0_shared 29 = .ok (.iload_n 2, 1) := by decide +kernel
theorem dX0_shared_30 : decode cX0_shared 30 = .ok (.ireturn, 1) := by decide +kernel
theorem dX0_shared_31 : decode cX0_shared 31 = .ok (.iinc 2 (-1), 3) := by decide +kernel
theorem dX0_shared_34 : decode cX0_shared 34 = .ok (.goto (-22), 3) := by decide +kernel
theorem dX0_shared_37 : decode cX0_shared 37 = .ok (.iconst 0, 1) := by decide +kernel
theorem dX0_shared_38 : decode cX0_shared 38 = .ok (.ireturn, 1) := by decide +kernel
theorem dX0_countBefore_0 : decode cX0_countBefore 0 = .ok (.iconst 0, 1) := by decide +kernel
theorem dX0_countBefore_1 : decode cX0_countBefore 1 = .ok (.istore_n 3, 1) := by decide +kernel
theorem dX0_countBefore_2 : decode cX0_countBefore 2 = .ok (.aload_n 0, 1) := by decide +kernel
theorem dX0_countBefore_3 : decode cX0_countBefore 3 = .ok (.getfield 11, 3) := by decide +kernel
theorem dX0_countBefore_6 : decode cX0_countBefore 6 = .ok (.astore 4, 2) := by decide +kernel
theorem dX0_countBefore_8 : decode cX0_countBefore 8 = .ok (.aload 4, 2) := by decide +kernel
theorem dX0_countBefore_10 : decode cX0_countBefore 10 = .ok (.arraylength, 1) := by decide +kernel
theorem dX0_countBefore_11 : decode cX0_countBefore 11 = .ok (.istore 5, 2) := by decide +kernel
theorem dX0_countBefore_13 : decode cX0_countBefore 13 = .ok (.iconst 0, 1) := by decide +kernel
theorem dX0_countBefore_14 : decode cX0_countBefore 14 = .ok (.istore 6, 2) := by decide +kernel
theorem dX0_countBefore_16 : decode cX0_countBefore 16 = .ok (.iload 6, 2) := by decide +kernel
theorem dX0_countBefore_18 : decode cX0_countBefore 18 = .ok (.iload 5, 2) := by decide +kernel
theorem dX0_countBefore_20 : decode cX0_countBefore 20 = .ok (.if_icmp .ge 37, 3) := by decide +kernel
theorem dX0_countBefore_23 : decode cX0_countBefore 23 = .ok (.aload 4, 2) := by decide +kernel
theorem dX0_countBefore_25 : decode cX0_countBefore 25 = .ok (.iload 6, 2) := by decide +kernel
theorem dX0_countBefore_27 : decode cX0_countBefore 27 = .ok (.aaload, 1) := by decide +kernel
theorem dX0_countBefore_28 : decode cX0_countBefore 28 = .ok (.astore 7, 2) := by decide +kernel
theorem dX0_countBefore_30 : decode cX0_countBefore 30 = .ok (.aload 7, 2) := by decide +kernel
theorem dX0_countBefore_32 : decode cX0_countBefore 32 = .ok (.ifnull 19, 3) := by decide +kernel
theorem dX0_countBefore_35 : decode cX0_countBefore 35 = .ok (.aload_n 1, 1) := by decide +kernel
theorem dX0_countBefore_36 : decode cX0_countBefore 36 = .ok (.iload_n 2, 1) := by decide +kernel
theorem dX0_countBefore_37 : decode cX0_countBefore 37 = .ok (.aload 7, 2) := by decide +kernel
theorem dX0_countBefore_39 : decode cX0_countBefore 39 = .ok (.getfield 24, 3) := by decide +kernel
theorem dX0_countBefore_42 : decode cX0_countBefore 42 = .ok (.invokevirtual 80, 3) := by decide +kernel
theorem dX0_countBefore_45 : decode cX0_countBefore 45 = .ok (.ifCond .eq 6, 3) := by decide +kernel
theorem dX0_countBefore_48 : decode cX0_countBefore 48 = .ok (.iinc 3 1, 3) := by decide +kernel
theorem dX0_countBefore_51 : decode cX0_countBefore 51 = .ok (.iinc 6 1, 3) := by decide +kernel
theorem dX0_countBefore_54 : decode cX0_countBefore 54 = .ok (.goto (-38), 3) := by decide +kernel
theorem dX0_countBefore_57 : decode cX0_countBefore 57 = .ok (.iload_n 3, 1) := by decide +kernel
theorem dX0_countBefore_58 : decode cX0_countBefore 58 = .ok (.ireturn, 1) := by decide +kernel
theorem dX0_endingAt_0 : decode cX0_endingAt 0 = .ok (.iconst 0, 1) := by decide +kernel
theorem dX0_endingAt_1 : decode cX0_endingAt 1 = .ok (.istore_n 3, 1) := by decide +kernel
theorem dX0_endingAt_2 : decode cX0_endingAt 2 = .ok (.bipush 8, 2) := by decide +kernel
theorem dX0_endingAt_4 : decode cX0_endingAt 4 = .ok (.istore 4, 2) := by decide +kernel
theorem dX0_endingAt_6 : decode cX0_endingAt 6 = .ok (.iload 4, 2) := by decide +kernel
theorem dX0_endingAt_8 : decode cX0_endingAt 8 = .ok (.ifCond .le 34, 3) := by decide +kernel
theorem dX0_endingAt_11 : decode cX0_endingAt 11 = .ok (.aload_n 0, 1) := by decide +kernel
theorem dX0_endingAt_12 : decode cX0_endingAt 12 = .ok (.aload_n 1, 1) := by decide +kernel
theorem dX0_endingAt_13 : decode cX0_endingAt 13 = .ok (.iload 4, 2) := by decide +kernel
theorem dX0_endingAt_15 : decode cX0_endingAt 15 = .ok (.invokevirtual 86, 3) := by decide +kernel
theorem dX0_endingAt_18 : decode cX0_endingAt 18 = .ok (.astore 5, 2) := by decide +kernel
theorem dX0_endingAt_20 : decode cX0_endingAt 20 = .ok (.aload 5, 2) := by decide +kernel
theorem dX0_endingAt_22 : decode cX0_endingAt 22 = .ok (.ifnull 14, 3) := by decide +kernel
theorem dX0_endingAt_25 : decode cX0_endingAt 25 = .ok (.iload_n 3, 1) := by decide +kernel
theorem dX0_endingAt_26 : decode cX0_endingAt 26 = .ok (.iload_n 2, 1) := by decide +kernel
theorem dX0_endingAt_27 : decode cX0_endingAt 27 = .ok (.if_icmp .ne 6, 3) := by decide +kernel
theorem dX0_endingAt_30 : decode cX0_endingAt 30 = .ok (.aload 5, 2) := by decide +kernel
theorem dX0_endingAt_32 : decode cX0_endingAt 32 = .ok (.areturn, 1) := by decide +kernel
theorem dX0_endingAt_33 : decode cX0_endingAt 33 = .ok (.iinc 3 1, 3) := by decide +kernel
theorem dX0_endingAt_36 : decode cX0_endingAt 36 = .ok (.iinc 4 (-1), 3) := by decide +kernel
theorem dX0_endingAt_39 : decode cX0_endingAt 39 = .ok (.goto (-33), 3) := by decide +kernel
theorem dX0_endingAt_42 : decode cX0_endingAt 42 = .ok (.aconst_null, 1) := by decide +kernel
theorem dX0_endingAt_43 : decode cX0_endingAt 43 = .ok (.areturn, 1) := by decide +kernel
theorem dX0_endingOfSize_0 : decode cX0_endingOfSize 0 = .ok (.aload_n 0, 1) := by decide +kernel
theorem dX0_endingOfSize_1 : decode cX0_endingOfSize 1 = .ok (.getfield 11, 3) := by decide +kernel
theorem dX0_endingOfSize_4 : decode cX0_endingOfSize 4 = .ok (.astore_n 3, 1) := by decide +kernel
theorem dX0_endingOfSize_5 : decode cX0_endingOfSize 5 = .ok (.aload_n 3, 1) := by decide +kernel
theorem dX0_endingOfSize_6 : decode cX0_endingOfSize 6 = .ok (.arraylength, 1) := by decide +kernel
theorem dX0_endingOfSize_7 : decode cX0_endingOfSize 7 = .ok (.istore 4, 2) := by decide +kernel
theorem dX0_endingOfSize_9 : decode cX0_endingOfSize 9 = .ok (.iconst 0, 1) := by decide +kernel
theorem dX0_endingOfSize_10 : decode cX0_endingOfSize 10 = .ok (.istore 5, 2) := by decide +kernel
theorem dX0_endingOfSize_12 : decode cX0_endingOfSize 12 = .ok (.iload 5, 2) := by decide +kernel
theorem dX0_endingOfSize_14 : decode cX0_endingOfSize 14 = .ok (.iload 4, 2) := by decide +kernel
theorem dX0_endingOfSize_16 : decode cX0_endingOfSize 16 = .ok (.if_icmp .ge 51, 3) := by decide +kernel
theorem dX0_endingOfSize_19 : decode cX0_endingOfSize 19 = .ok (.aload_n 3, 1) := by decide +kernel
theorem dX0_endingOfSize_20 : decode cX0_endingOfSize 20 = .ok (.iload 5, 2) := by decide +kernel
theorem dX0_endingOfSize_22 : decode cX0_endingOfSize 22 = .ok (.aaload, 1) := by decide +kernel
theorem dX0_endingOfSize_23 : decode cX0_endingOfSize 23 = .ok (.astore 6, 2) := by decide +kernel
theorem dX0_endingOfSize_25 : decode cX0_endingOfSize 25 = .ok (.aload 6, 2) := by decide +kernel
theorem dX0_endingOfSize_27 : decode cX0_endingOfSize 27 = .ok (.ifnull 34, 3) := by decide +kernel
theorem dX0_endingOfSize_30 : decode cX0_endingOfSize 30 = .ok (.aload 6, 2) := by decide +kernel
theorem dX0_endingOfSize_32 : decode cX0_endingOfSize 32 = .ok (.getfield 24, 3) := by decide +kernel
theorem dX0_endingOfSize_35 : decode cX0_endingOfSize 35 = .ok (.getfield 44, 3) := by decide +kernel
theorem dX0_endingOfSize_38 : decode cX0_endingOfSize 38 = .ok (.iload_n 2, 1) := by decide +kernel
theorem dX0_endingOfSize_39 : decode cX0_endingOfSize 39 = .ok (.if_icmp .ne 22, 3) := by decide +kernel
theorem dX0_endingOfSize_42 : decode cX0_endingOfSize 42 = .ok (.aload_n 1, 1) := by decide +kernel
theorem dX0_endingOfSize_43 : decode cX0_endingOfSize 43 = .ok (.aload_n 1, 1) := by decide +kernel
theorem dX0_endingOfSize_44 : decode cX0_endingOfSize 44 = .ok (.getfield 90, 3) := by decide +kernel
theorem dX0_endingOfSize_47 : decode cX0_endingOfSize 47 = .ok (.aload 6, 2) := by decide +kernel
theorem dX0_endingOfSize_49 : decode cX0_endingOfSize 49 = .ok (.getfield 24, 3) := by decide +kernel
theorem dX0_endingOfSize_52 : decode cX0_endingOfSize 52 = .ok (.invokevirtual 80, 3) := by decide +kernel
theorem dX0_endingOfSize_55 : decode cX0_endingOfSize 55 = .ok (.ifCond .eq 6, 3) := by decide +kernel
theorem dX0_endingOfSize_58 : decode cX0_endingOfSize 58 = .ok (.aload 6, 2) := by decide +kernel
theorem dX0_endingOfSize_60 : decode cX0_endingOfSize 60 = .ok (.areturn, 1) := by decide +kernel
theorem dX0_endingOfSize_61 : decode cX0_endingOfSize 61 = .ok (.iinc 5 1, 3) := by decide +kernel
theorem dX0_endingOfSize_64 : decode cX0_endingOfSize 64 = .ok (.goto (-52), 3) := by decide +kernel
theorem dX0_endingOfSize_67 : decode cX0_endingOfSize 67 = .ok (.aconst_null, 1) := by decide +kernel
theorem dX0_endingOfSize_68 : decode cX0_endingOfSize 68 = .ok (.areturn, 1) := by decide +kernel
theorem dX0_longestAt_0 : decode cX0_longestAt 0 = .ok (.aconst_null, 1) := by decide +kernel
theorem dX0_longestAt_1 : decode cX0_longestAt 1 = .ok (.astore_n 3, 1) := by decide +kernel
theorem dX0_longestAt_2 : decode cX0_longestAt 2 = .ok (.aload_n 0, 1) := by decide +kernel
theorem dX0_longestAt_3 : decode cX0_longestAt 3 = .ok (.getfield 11, 3) := by decide +kernel
theorem dX0_longestAt_6 : decode cX0_longestAt 6 = .ok (.astore 4, 2) := by decide +kernel
theorem dX0_longestAt_8 : decode cX0_longestAt 8 = .ok (.aload 4, 2) := by decide +kernel
theorem dX0_longestAt_10 : decode cX0_longestAt 10 = .ok (.arraylength, 1) := by decide +kernel
theorem dX0_longestAt_11 : decode cX0_longestAt 11 = .ok (.istore 5, 2) := by decide +kernel
theorem dX0_longestAt_13 : decode cX0_longestAt 13 = .ok (.iconst 0, 1) := by decide +kernel
theorem dX0_longestAt_14 : decode cX0_longestAt 14 = .ok (.istore 6, 2) := by decide +kernel
theorem dX0_longestAt_16 : decode cX0_longestAt 16 = .ok (.iload 6, 2) := by decide +kernel
theorem dX0_longestAt_18 : decode cX0_longestAt 18 = .ok (.iload 5, 2) := by decide +kernel
theorem dX0_longestAt_20 : decode cX0_longestAt 20 = .ok (.if_icmp .ge 59, 3) := by decide +kernel
theorem dX0_longestAt_23 : decode cX0_longestAt 23 = .ok (.aload 4, 2) := by decide +kernel
theorem dX0_longestAt_25 : decode cX0_longestAt 25 = .ok (.iload 6, 2) := by decide +kernel
theorem dX0_longestAt_27 : decode cX0_longestAt 27 = .ok (.aaload, 1) := by decide +kernel
theorem dX0_longestAt_28 : decode cX0_longestAt 28 = .ok (.astore 7, 2) := by decide +kernel
theorem dX0_longestAt_30 : decode cX0_longestAt 30 = .ok (.aload 7, 2) := by decide +kernel
theorem dX0_longestAt_32 : decode cX0_longestAt 32 = .ok (.ifnull 41, 3) := by decide +kernel
theorem dX0_longestAt_35 : decode cX0_longestAt 35 = .ok (.aload_n 1, 1) := by decide +kernel
theorem dX0_longestAt_36 : decode cX0_longestAt 36 = .ok (.iload_n 2, 1) := by decide +kernel
theorem dX0_longestAt_37 : decode cX0_longestAt 37 = .ok (.aload 7, 2) := by decide +kernel
theorem dX0_longestAt_39 : decode cX0_longestAt 39 = .ok (.getfield 24, 3) := by decide +kernel
theorem dX0_longestAt_42 : decode cX0_longestAt 42 = .ok (.invokevirtual 91, 3) := by decide +kernel
theorem dX0_longestAt_45 : decode cX0_longestAt 45 = .ok (.ifCond .eq 28, 3) := by decide +kernel
theorem dX0_longestAt_48 : decode cX0_longestAt 48 = .ok (.aload_n 3, 1) := by decide +kernel
theorem dX0_longestAt_49 : decode cX0_longestAt 49 = .ok (.ifnull 21, 3) := by decide +kernel
theorem dX0_longestAt_52 : decode cX0_longestAt 52 = .ok (.aload 7, 2) := by decide +kernel
theorem dX0_longestAt_54 : decode cX0_longestAt 54 = .ok (.getfield 24, 3) := by decide +kernel
theorem dX0_longestAt_57 : decode cX0_longestAt 57 = .ok (.getfield 44, 3) := by decide +kernel
theorem dX0_longestAt_60 : decode cX0_longestAt 60 = .ok (.aload_n 3, 1) := by decide +kernel
theorem dX0_longestAt_61 : decode cX0_longestAt 61 = .ok (.getfield 24, 3) := by decide +kernel
theorem dX0_longestAt_64 : decode cX0_longestAt 64 = .ok (.getfield 44, 3) := by decide +kernel
theorem dX0_longestAt_67 : decode cX0_longestAt 67 = .ok (.if_icmp .le 6, 3) := by decide +kernel
theorem dX0_longestAt_70 : decode cX0_longestAt 70 = .ok (.aload 7, 2) := by decide +kernel
theorem dX0_longestAt_72 : decode cX0_longestAt 72 = .ok (.astore_n 3, 1) := by decide +kernel
theorem dX0_longestAt_73 : decode cX0_longestAt 73 = .ok (.iinc 6 1, 3) := by decide +kernel
theorem dX0_longestAt_76 : decode cX0_longestAt 76 = .ok (.goto (-60), 3) := by decide +kernel
theorem dX0_longestAt_79 : decode cX0_longestAt 79 = .ok (.aload_n 3, 1) := by decide +kernel
theorem dX0_longestAt_80 : decode cX0_longestAt 80 = .ok (.areturn, 1) := by decide +kernel
theorem dX0_firstAt_0 : decode cX0_firstAt 0 = .ok (.aload_n 0, 1) := by decide +kernel
theorem dX0_firstAt_1 : decode cX0_firstAt 1 = .ok (.getfield 11, 3) := by decide +kernel
theorem dX0_firstAt_4 : decode cX0_firstAt 4 = .ok (.astore_n 3, 1) := by decide +kernel
theorem dX0_firstAt_5 : decode cX0_firstAt 5 = .ok (.aload_n 3, 1) := by decide +kernel
theorem dX0_firstAt_6 : decode cX0_firstAt 6 = .ok (.arraylength, 1) := by decide +kernel
theorem dX0_firstAt_7 : decode cX0_firstAt 7 = .ok (.istore 4, 2) := by decide +kernel
theorem dX0_firstAt_9 : decode cX0_firstAt 9 = .ok (.iconst 0, 1) := by decide +kernel
theorem dX0_firstAt_10 : decode cX0_firstAt 10 = .ok (.istore 5, 2) := by decide +kernel
theorem dX0_firstAt_12 : decode cX0_firstAt 12 = .ok (.iload 5, 2) := by decide +kernel
theorem dX0_firstAt_14 : decode cX0_firstAt 14 = .ok (.iload 4, 2) := by decide +kernel
theorem dX0_firstAt_16 : decode cX0_firstAt 16 = .ok (.if_icmp .ge 36, 3) := by decide +kernel
theorem dX0_firstAt_19 : decode cX0_firstAt 19 = .ok (.aload_n 3, 1) := by decide +kernel
theorem dX0_firstAt_20 : decode cX0_firstAt 20 = .ok (.iload 5, 2) := by decide +kernel
theorem dX0_firstAt_22 : decode cX0_firstAt 22 = .ok (.aaload, 1) := by decide +kernel
theorem dX0_firstAt_23 : decode cX0_firstAt 23 = .ok (.astore 6, 2) := by decide +kernel
theorem dX0_firstAt_25 : decode cX0_firstAt 25 = .ok (.aload 6, 2) := by decide +kernel
theorem dX0_firstAt_27 : decode cX0_firstAt 27 = .ok (.ifnull 19, 3) := by decide +kernel
theorem dX0_firstAt_30 : decode cX0_firstAt 30 = .ok (.aload_n 1, 1) := by decide +kernel
theorem dX0_firstAt_31 : decode cX0_firstAt 31 = .ok (.iload_n 2, 1) := by decide +kernel
theorem dX0_firstAt_32 : decode cX0_firstAt 32 = .ok (.aload 6, 2) := by decide +kernel
theorem dX0_firstAt_34 : decode cX0_firstAt 34 = .ok (.getfield 24, 3) := by decide +kernel
theorem dX0_firstAt_37 : decode cX0_firstAt 37 = .ok (.invokevirtual 91, 3) := by decide +kernel
theorem dX0_firstAt_40 : decode cX0_firstAt 40 = .ok (.ifCond .eq 6, 3) := by decide +kernel
theorem dX0_firstAt_43 : decode cX0_firstAt 43 = .ok (.aload 6, 2) := by decide +kernel
theorem dX0_firstAt_45 : decode cX0_firstAt 45 = .ok (.areturn, 1) := by decide +kernel
theorem dX0_firstAt_46 : decode cX0_firstAt 46 = .ok (.iinc 5 1, 3) := by decide +kernel
theorem dX0_firstAt_49 : decode cX0_firstAt 49 = .ok (.goto (-37), 3) := by decide +kernel
theorem dX0_firstAt_52 : decode cX0_firstAt 52 = .ok (.aconst_null, 1) := by decide +kernel
theorem dX0_firstAt_53 : decode cX0_firstAt 53 = .ok (.areturn, 1) := by decide +kernel
theorem dX0_longestWithin_0 : decode cX0_longestWithin 0 = .ok (.aconst_null, 1) := by decide +kernel
theorem dX0_longestWithin_1 : decode cX0_longestWithin 1 = .ok (.astore 4, 2) := by decide +kernel
theorem dX0_longestWithin_3 : decode cX0_longestWithin 3 = .ok (.aload_n 0, 1) := by decide +kernel
theorem dX0_longestWithin_4 : decode cX0_longestWithin 4 = .ok (.getfield 11, 3) := by decide +kernel
theorem dX0_longestWithin_7 : decode cX0_longestWithin 7 = .ok (.astore 5, 2) := by decide +kernel
theorem dX0_longestWithin_9 : decode cX0_longestWithin 9 = .ok (.aload 5, 2) := by decide +kernel
theorem dX0_longestWithin_11 : decode cX0_longestWithin 11 = .ok (.arraylength, 1) := by decide +kernel
theorem dX0_longestWithin_12 : decode cX0_longestWithin 12 = .ok (.istore 6, 2) := by decide +kernel
theorem dX0_longestWithin_14 : decode cX0_longestWithin 14 = .ok (.iconst 0, 1) := by decide +kernel
theorem dX0_longestWithin_15 : decode cX0_longestWithin 15 = .ok (.istore 7, 2) := by decide +kernel
theorem dX0_longestWithin_17 : decode cX0_longestWithin 17 = .ok (.iload 7, 2) := by decide +kernel
theorem dX0_longestWithin_19 : decode cX0_longestWithin 19 = .ok (.iload 6, 2) := by decide +kernel
theorem dX0_longestWithin_21 : decode cX0_longestWithin 21 = .ok (.if_icmp .ge 76, 3) := by decide +kernel
theorem dX0_longestWithin_24 : decode cX0_longestWithin 24 = .ok (.aload 5, 2) := by decide +kernel
theorem dX0_longestWithin_26 : decode cX0_longestWithin 26 = .ok (.iload 7, 2) := by decide +kernel
theorem dX0_longestWithin_28 : decode cX0_longestWithin 28 = .ok (.aaload, 1) := by decide +kernel
theorem dX0_longestWithin_29 : decode cX0_longestWithin 29 = .ok (.astore 8, 2) := by decide +kernel
theorem dX0_longestWithin_31 : decode cX0_longestWithin 31 = .ok (.aload 8, 2) := by decide +kernel
theorem dX0_longestWithin_33 : decode cX0_longestWithin 33 = .ok (.ifnull 58, 3) := by decide +kernel
theorem dX0_longestWithin_36 : decode cX0_longestWithin 36 = .ok (.aload 8, 2) := by decide +kernel
theorem dX0_longestWithin_38 : decode cX0_longestWithin 38 = .ok (.getfield 24, 3) := by decide +kernel
theorem dX0_longestWithin_41 : decode cX0_longestWithin 41 = .ok (.getfield 44, 3) := by decide +kernel
theorem dX0_longestWithin_44 : decode cX0_longestWithin 44 = .ok (.iload_n 3, 1) := by decide +kernel
theorem dX0_longestWithin_45 : decode cX0_longestWithin 45 = .ok (.iload_n 2, 1) := by decide +kernel
theorem dX0_longestWithin_46 : decode cX0_longestWithin 46 = .ok (.isub, 1) := by decide +kernel
theorem dX0_longestWithin_47 : decode cX0_longestWithin 47 = .ok (.if_icmp .gt 44, 3) := by decide +kernel
theorem dX0_longestWithin_50 : decode cX0_longestWithin 50 = .ok (.aload_n 1, 1) := by decide +kernel
theorem dX0_longestWithin_51 : decode cX0_longestWithin 51 = .ok (.iload_n 3, 1) := by decide +kernel
theorem dX0_longestWithin_52 : decode cX0_longestWithin 52 = .ok (.aload 8, 2) := by decide +kernel
theorem dX0_longestWithin_54 : decode cX0_longestWithin 54 = .ok (.getfield 24, 3) := by decide +kernel
theorem dX0_longestWithin_57 : decode cX0_longestWithin 57 = .ok (.invokevirtual 80, 3) := by decide +kernel
theorem dX0_longestWithin_60 : decode cX0_longestWithin 60 = .ok (.ifCond .eq 31, 3) := by decide +kernel
theorem dX0_longestWithin_63 : decode cX0_longestWithin 63 = .ok (.aload 4, 2) := by decide +kernel
theorem dX0_longestWithin_65 : decode cX0_longestWithin 65 = .ok (.ifnull 22, 3) := by decide +kernel
theorem dX0_longestWithin_68 : decode cX0_longestWithin 68 = .ok (.aload 8, 2) := by decide +kernel
theorem dX0_longestWithin_70 : decode cX0_longestWithin 70 = .ok (.getfield 24, 3) := by decide +kernel
theorem dX0_longestWithin_73 : decode cX0_longestWithin 73 = .ok (.getfield 44, 3) := by decide +kernel
theorem dX0_longestWithin_76 : decode cX0_longestWithin 76 = .ok (.aload 4, 2) := by decide +kernel
theorem dX0_longestWithin_78 : decode cX0_longestWithin 78 = .ok (.getfield 24, 3) := by decide +kernel
theorem dX0_longestWithin_81 : decode cX0_longestWithin 81 = .ok (.getfield 44, 3) := by decide +kernel
theorem dX0_longestWithin_84 : decode cX0_longestWithin 84 = .ok (.if_icmp .le 7, 3) := by decide +kernel
theorem dX0_longestWithin_87 : decode cX0_longestWithin 87 = .ok (.aload 8, 2) := by decide +kernel
theorem dX0_longestWithin_89 : decode cX0_longestWithin 89 = .ok (.astore 4, 2) := by decide +kernel
theorem dX0_longestWithin_91 : decode cX0_longestWithin 91 = .ok (.iinc 7 1, 3) := by decide +kernel
theorem dX0_longestWithin_94 : decode cX0_longestWithin 94 = .ok (.goto (-77), 3) := by decide +kernel
theorem dX0_longestWithin_97 : decode cX0_longestWithin 97 = .ok (.aload 4, 2) := by decide +kernel
theorem dX0_longestWithin_99 : decode cX0_longestWithin 99 = .ok (.areturn, 1) := by decide +kernel
theorem dX1_init_0 : decode cX1_init 0 = .ok (.aload_n 0, 1) := by decide +kernel
theorem dX1_init_1 : decode cX1_init 1 = .ok (.invokespecial 3, 3) := by decide +kernel
theorem dX1_init_4 : decode cX1_init 4 = .ok (.aload_n 0, 1) := by decide +kernel
theorem dX1_init_5 : decode cX1_init 5 = .ok (.sipush 200, 3) := by decide +kernel
theorem dX1_init_8 : decode cX1_init 8 = .ok (.anewarray 9, 3) := by decide +kernel
theorem dX1_init_11 : decode cX1_init 11 = .ok (.putfield 11, 3) := by decide +kernel
theorem dX1_init_14 : decode cX1_init 14 = .ok (.aload_n 0, 1) := by decide +kernel
theorem dX1_init_15 : decode cX1_init 15 = .ok (.sipush 200, 3) := by decide +kernel
theorem dX1_init_18 : decode cX1_init 18 = .ok (.newarray .int, 2) := by decide +kernel
theorem dX1_init_20 : decode cX1_init 20 = .ok (.putfield 17, 3) := by decide +kernel
theorem dX1_init_23 : decode cX1_init 23 = .ok (.aload_n 0, 1) := by decide +kernel
theorem dX1_init_24 : decode cX1_init 24 = .ok (.iconst 0, 1) := by decide +kernel
theorem dX1_init_25 : decode cX1_init 25 = .ok (.putfield 21, 3) := by decide +kernel
theorem dX1_init_28 : decode cX1_init 28 = .ok (.return_, 1) := by decide +kernel
theorem dX1_choose_0 : decode cX1_choose 0 = .ok (.aload_n 0, 1) := by decide +kernel
theorem dX1_choose_1 : decode cX1_choose 1 = .ok (.iconst 0, 1) := by decide +kernel
theorem dX1_choose_2 : decode cX1_choose 2 = .ok (.putfield 21, 3) := by decide +kernel
theorem dX1_choose_5 : decode cX1_choose 5 = .ok (.iload_n 1, 1) := by decide +kernel
theorem dX1_choose_6 : decode cX1_choose 6 = .ok (.iconst 2, 1) := by decide +kernel
theorem dX1_choose_7 : decode cX1_choose 7 = .ok (.if_icmp .ne 12, 3) := by decide +kernel
theorem dX1_choose_10 : decode cX1_choose 10 = .ok (.aload_n 0, 1) := by decide +kernel
theorem dX1_choose_11 : decode cX1_choose 11 = .ok (.aload_n 2, 1) := by decide +kernel
theorem dX1_choose_12 : decode cX1_choose 12 = .ok (.aload_n 3, 1) := by decide +kernel
theorem dX1_choose_13 : decode cX1_choose 13 = .ok (.invokevirtual 25, 3) := by decide +kernel
theorem dX1_choose_16 : decode cX1_choose 16 = .ok (.goto 18, 3) := by decide +kernel
theorem dX1_choose_19 : decode cX1_choose 19 = .ok (.aload_n 0, 1) := by decide +kernel
theorem dX1_choose_20 : decode cX1_choose 20 = .ok (.iload_n 1, 1) := by decide +kernel
theorem dX1_choose_21 : decode cX1_choose 21 = .ok (.ifCond .ne 7, 3) := by decide +kernel
theorem dX1_choose_24 : decode cX1_choose 24 = .ok (.iconst 1, 1) := by decide +kernel
theorem dX1_choose_25 : decode cX1_choose 25 = .ok (.goto 4, 3) := by decide +kernel
theorem dX1_choose_28 : decode cX1_choose 28 = .ok (.iconst 0, 1) := by decide +kernel
theorem dX1_choose_29 : decode cX1_choose 29 = .ok (.aload_n 2, 1) := by decide +kernel
theorem dX1_choose_30 : decode cX1_choose 30 = .ok (.aload_n 3, 1) := by decide +kernel
theorem dX1_choose_31 : decode cX1_choose 31 = .ok (.invokevirtual 29, 3) := by decide +kernel
theorem dX1_choose_34 : decode cX1_choose 34 = .ok (.return_, 1) := by decide +kernel
theorem dX1_chooseByPlace_0 : decode cX1_chooseByPlace 0 = .ok (.iconst 0, 1) := by decide +kernel
theorem dX1_chooseByPlace_1 : decode cX1_chooseByPlace 1 = .ok (.istore 4, 2) := by decide +kernel
theorem dX1_chooseByPlace_3 : decode cX1_chooseByPlace 3 = .ok (.iconst 0, 1) := by decide +kernel
theorem dX1_chooseByPlace_4 : decode cX1_chooseByPlace 4 = .ok (.istore 5, 2) := by decide +kernel
theorem dX1_chooseByPlace_6 : decode cX1_chooseByPlace 6 = .ok (.iload 5, 2) := by decide +kernel
theorem dX1_chooseByPlace_8 : decode cX1_chooseByPlace 8 = .ok (.aload_n 3, 1) := by decide +kernel
theorem dX1_chooseByPlace_9 : decode cX1_chooseByPlace 9 = .ok (.getfield 33, 3) := by decide +kernel
theorem dX1_chooseByPlace_12 : decode cX1_chooseByPlace 12 = .ok (.if_icmp .ge 65, 3) := by decide +kernel
theorem dX1_chooseByPlace_15 : decode cX1_chooseByPlace 15 = .ok (.iload 5, 2) := by decide +kernel
theorem dX1_chooseByPlace_17 : decode cX1_chooseByPlace 17 = .ok (.iload 4, 2) := by decide +kernel
theorem dX1_chooseByPlace_19 : decode cX1_chooseByPlace 19 = .ok (.if_icmp .lt 52, 3) := by decide +kernel
theorem dX1_chooseByPlace_22 : decode cX1_chooseByPlace 22 = .ok (.iload_n 1, 1) := by decide +kernel
theorem dX1_chooseByPlace_23 : decode cX1_chooseByPlace 23 = .ok (.ifCond .eq 13, 3) := by decide +kernel
theorem dX1_chooseByPlace_26 : decode cX1_chooseByPlace 26 = .ok (.aload_n 2, 1) := by decide +kernel
theorem dX1_chooseByPlace_27 : decode cX1_chooseByPlace 27 = .ok (.aload_n 3, 1) := by decide +kernel
theorem dX1_chooseByPlace_28 : decode cX1_chooseByPlace 28 = .ok (.iload 5, 2) := by decide +kernel
theorem dX1_chooseByPlace_30 : decode cX1_chooseByPlace 30 = .ok (.invokevirtual 38, 3) := by decide +kernel
theorem dX1_chooseByPlace_33 : decode cX1_chooseByPlace 33 = .ok (.goto 10, 3) := by decide +kernel
theorem dX1_chooseByPlace_36 : decode cX1_chooseByPlace 36 = .ok (.aload_n 2, 1) := by decide +kernel
theorem dX1_chooseByPlace_37 : decode cX1_chooseByPlace 37 = .ok (.aload_n 3, 1) := by decide +kernel
theorem dX1_chooseByPlace_38 : decode cX1_chooseByPlace 38 = .ok (.iload 5, 2) := by decide +kernel
theorem dX1_chooseByPlace_40 : decode cX1_chooseByPlace 40 = .ok (.invokevirtual 44, 3) := by decide +kernel
theorem dX1_chooseByPlace_43 : decode cX1_chooseByPlace 43 = .ok (.astore 6, 2) := by decide +kernel
theorem dX1_chooseByPlace_45 : decode cX1_chooseByPlace 45 = .ok (.aload 6, 2) := by decide +kernel
theorem dX1_chooseByPlace_47 : decode cX1_chooseByPlace 47 = .ok (.ifnull 24, 3) := by decide +kernel
theorem dX1_chooseByPlace_50 : decode cX1_chooseByPlace 50 = .ok (.aload_n 0, 1) := by decide +kernel
theorem dX1_chooseByPlace_51 : decode cX1_chooseByPlace 51 = .ok (.aload 6, 2) := by decide +kernel
theorem dX1_chooseByPlace_53 : decode cX1_chooseByPlace 53 = .ok (.iload 5, 2) := by decide +kernel
theorem dX1_chooseByPlace_55 : decode cX1_chooseByPlace 55 = .ok (.invokevirtual 47, 3) := by decide +kernel
theorem dX1_chooseByPlace_58 : decode cX1_chooseByPlace 58 = .ok (.iload 5, 2) := by decide +kernel
theorem dX1_chooseByPlace_60 : decode cX1_chooseByPlace 60 = .ok (.aload 6, 2) := by decide +kernel
theorem dX1_chooseByPlace_62 : decode cX1_chooseByPlace 62 = .ok (.getfield 51, 3) := by decide +kernel
theorem dX1_chooseByPlace_65 : decode cX1_chooseByPlace 65 = .ok (.getfield 55, 3) := by decide +kernel
theorem dX1_chooseByPlace_68 : decode cX1_chooseByPlace 68 = .ok (.iadd, 1) := by decide +kernel
theorem dX1_chooseByPlace_69 : decode cX1_chooseByPlace 69 = .ok (.istore 4, 2) := by decide +kernel
theorem dX1_chooseByPlace_71 : decode cX1_chooseByPlace 71 = .ok (.iinc 5 1, 3) := by decide +kernel
theorem dX1_chooseByPlace_74 : decode cX1_chooseByPlace 74 = .ok (.goto (-68), 3) := by decide +kernel
theorem dX1_chooseByPlace_77 : decode cX1_chooseByPlace 77 = .ok (.return_, 1) := by decide +kernel
theorem dX1_chooseByEnd_0 : decode cX1_chooseByEnd 0 = .ok (.iconst 0, 1) := by decide +kernel
theorem dX1_chooseByEnd_1 : decode cX1_chooseByEnd 1 = .ok (.istore_n 3, 1) := by decide +kernel
theorem dX1_chooseByEnd_2 : decode cX1_chooseByEnd 2 = .ok (.iconst 1, 1) := by decide +kernel
theorem dX1_chooseByEnd_3 : decode cX1_chooseByEnd 3 = .ok (.istore 4, 2) := by decide +kernel
theorem dX1_chooseByEnd_5 : decode cX1_chooseByEnd 5 = .ok (.iload 4, 2) := by decide +kernel
theorem dX1_chooseByEnd_7 : decode cX1_chooseByEnd 7 = .ok (.aload_n 2, 1) := by decide +kernel
theorem dX1_chooseByEnd_8 : decode cX1_chooseByEnd 8 = .ok (.getfield 33, 3) := by decide +kernel
theorem dX1_chooseByEnd_11 : decode cX1_chooseByEnd 11 = .ok (.if_icmp .gt 44, 3) := by decide +kernel
theorem dX1_chooseByEnd_14 : decode cX1_chooseByEnd 14 = .ok (.aload_n 1, 1) := by decide +kernel
theorem dX1_chooseByEnd_15 : decode cX1_chooseByEnd 15 = .ok (.aload_n 2, 1) := by decide +kernel
theorem dX1_chooseByEnd_16 : decode cX1_chooseByEnd 16 = .ok (.iload_n 3, 1) := by decide +kernel
theorem dX1_chooseByEnd_17 : decode cX1_chooseByEnd 17 = .ok (.iload 4, 2) := by decide +kernel
theorem dX1_chooseByEnd_19 : decode cX1_chooseByEnd 19 = .ok (.invokevirtual 58, 3) := by decide +kernel
theorem dX1_chooseByEnd_22 : decode cX1_chooseByEnd 22 = .ok (.astore 5, 2) := by decide +kernel
theorem dX1_chooseByEnd_24 : decode cX1_chooseByEnd 24 = .ok (.aload 5, 2) := by decide +kernel
theorem dX1_chooseByEnd_26 : decode cX1_chooseByEnd 26 = .ok (.ifnull 23, 3) := by decide +kernel
theorem dX1_chooseByEnd_29 : decode cX1_chooseByEnd 29 = .ok (.aload_n 0, 1) := by decide +kernel
theorem dX1_chooseByEnd_30 : decode cX1_chooseByEnd 30 = .ok (.aload 5, 2) := by decide +kernel
theorem dX1_chooseByEnd_32 : decode cX1_chooseByEnd 32 = .ok (.iload 4, 2) := by decide +kernel
theorem dX1_chooseByEnd_34 : decode cX1_chooseByEnd 34 = .ok (.aload 5, 2) := by decide +kernel
theorem dX1_chooseByEnd_36 : decode cX1_chooseByEnd 36 = .ok (.getfield 51, 3) := by decide +kernel
theorem dX1_chooseByEnd_39 : decode cX1_chooseByEnd 39 = .ok (.getfield 55, 3) := by decide +kernel
theorem dX1_chooseByEnd_42 : decode cX1_chooseByEnd 42 = .ok (.isub, 1) := by decide +kernel
theorem dX1_chooseByEnd_43 : decode cX1_chooseByEnd 43 = .ok (.invokevirtual 47, 3) := by decide +kernel
theorem dX1_chooseByEnd_46 : decode cX1_chooseByEnd 46 = .ok (.iload 4, 2) := by decide +kernel
theorem dX1_chooseByEnd_48 : decode cX1_chooseByEnd 48 = .ok (.istore_n 3, 1) := by decide +kernel
theorem dX1_chooseByEnd_49 : decode cX1_chooseByEnd 49 = .ok (.iinc 4 1, 3) := by decide +kernel
theorem dX1_chooseByEnd_52 : decode cX1_chooseByEnd 52 = .ok (.goto (-47), 3) := by decide +kernel
theorem dX1_chooseByEnd_55 : decode cX1_chooseByEnd 55 = .ok (.return_, 1) := by decide +kernel
theorem dX1_keep_0 : decode cX1_keep 0 = .ok (.aload_n 0, 1) := by decide +kernel
theorem dX1_keep_1 : decode cX1_keep 1 = .ok (.getfield 21, 3) := by decide +kernel
theorem dX1_keep_4 : decode cX1_keep 4 = .ok (.sipush 200, 3) := by decide +kernel
theorem dX1_keep_7 : decode cX1_keep 7 = .ok (.if_icmp .ge 33, 3) := by decide +kernel
theorem dX1_keep_10 : decode cX1_keep 10 = .ok (.aload_n 0, 1) := by decide +kernel
theorem dX1_keep_11 : decode cX1_keep 11 = .ok (.getfield 11, 3) := by decide +kernel
theorem dX1_keep_14 : decode cX1_keep 14 = .ok (.aload_n 0, 1) := by decide +kernel
theorem dX1_keep_15 : decode cX1_keep 15 = .ok (.getfield 21, 3) := by decide +kernel
theorem dX1_keep_18 : decode cX1_keep 18 = .ok (.aload_n 1, 1) := by decide +kernel
theorem dX1_keep_19 : decode cX1_keep 19 = .ok (.aastore, 1) := by decide +kernel
theorem dX1_keep_20 : decode cX1_keep 20 = .ok (.aload_n 0, 1) := by decide +kernel
theorem dX1_keep_21 : decode cX1_keep 21 = .ok (.getfield 17, 3) := by decide +kernel
theorem dX1_keep_24 : decode cX1_keep 24 = .ok (.aload_n 0, 1) := by decide +kernel
theorem dX1_keep_25 : decode cX1_keep 25 = .ok (.getfield 21, 3) := by decide +kernel
theorem dX1_keep_28 : decode cX1_keep 28 = .ok (.iload_n 2, 1) := by decide +kernel
theorem dX1_keep_29 : decode cX1_keep 29 = .ok (.iastore, 1) := by decide +kernel
theorem dX1_keep_30 : decode cX1_keep 30 = .ok (.aload_n 0, 1) := by decide +kernel
theorem dX1_keep_31 : decode cX1_keep 31 = .ok (.dup, 1) := by decide +kernel
theorem dX1_keep_32 : decode cX1_keep 32 = .ok (.getfield 21, 3) := by decide +kernel
theorem dX1_keep_35 : decode cX1_keep 35 = .ok (.iconst 1, 1) := by decide +kernel
theorem dX1_keep_36 : decode cX1_keep 36 = .ok (.iadd, 1) := by decide +kernel
theorem dX1_keep_37 : decode cX1_keep 37 = .ok (.putfield 21, 3) := by decide +kernel
theorem dX1_keep_40 : decode cX1_keep 40 = .ok (.return_, 1) := by decide +kernel
theorem dX1_patternAt_0 : decode cX1_patternAt 0 = .ok (.iload_n 1, 1) := by decide +kernel
theorem dX1_patternAt_1 : decode cX1_patternAt 1 = .ok (.ifCond .lt 20, 3) := by decide +kernel
theorem dX1_patternAt_4 : decode cX1_patternAt 4 = .ok (.iload_n 1, 1) := by decide +kernel
theorem dX1_patternAt_5 : decode cX1_patternAt 5 = .ok (.aload_n 0, 1) := by decide +kernel
theorem dX1_patternAt_6 : decode cX1_patternAt 6 = .ok (.getfield 21, 3) := by decide +kernel
theorem dX1_patternAt_9 : decode cX1_patternAt 9 = .ok (.if_icmp .ge 12, 3) := by decide +kernel
theorem dX1_patternAt_12 : decode cX1_patternAt 12 = .ok (.aload_n 0, 1) := by decide +kernel
theorem dX1_patternAt_13 : decode cX1_patternAt 13 = .ok (.getfield 11, 3) := by decide +kernel
theorem dX1_patternAt_16 : decode cX1_patternAt 16 = .ok (.iload_n 1, 1) := by decide +kernel
theorem dX1_patternAt_17 : decode cX1_patternAt 17 = .ok (.aaload, 1) := by decide +kernel
theorem dX1_patternAt_18 : decode cX1_patternAt 18 = .ok (.goto 4, 3) := by decide +kernel
theorem dX1_patternAt_21 : decode cX1_patternAt 21 = .ok (.aconst_null, 1) := by decide +kernel
theorem dX1_patternAt_22 : decode cX1_patternAt 22 = .ok (.areturn, 1) := by decide +kernel
theorem dX1_placeAt_0 : decode cX1_placeAt 0 = .ok (.iload_n 1, 1) := by decide +kernel
theorem dX1_placeAt_1 : decode cX1_placeAt 1 = .ok (.ifCond .lt 20, 3) := by decide +kernel
theorem dX1_placeAt_4 : decode cX1_placeAt 4 = .ok (.iload_n 1, 1) := by decide +kernel
theorem dX1_placeAt_5 : decode cX1_placeAt 5 = .ok (.aload_n 0, 1) := by decide +kernel
theorem dX1_placeAt_6 : decode cX1_placeAt 6 = .ok (.getfield 21, 3) := by decide +kernel
theorem dX1_placeAt_9 : decode cX1_placeAt 9 = .ok (.if_icmp .ge 12, 3) := by decide +kernel
theorem dX1_placeAt_12 : decode cX1_placeAt 12 = .ok (.aload_n 0, 1) := by decide +kernel
theorem dX1_placeAt_13 : decode cX1_placeAt 13 = .ok (.getfield 17, 3) := by decide +kernel
theorem dX1_placeAt_16 : decode cX1_placeAt 16 = .ok (.iload_n 1, 1) := by decide +kernel
theorem dX1_placeAt_17 : decode cX1_placeAt 17 = .ok (.iaload, 1) := by decide +kernel
theorem dX1_placeAt_18 : decode cX1_placeAt 18 = .ok (.goto 4, 3) := by decide +kernel
theorem dX1_placeAt_21 : decode cX1_placeAt 21 = .ok (.iconst (-1), 1) := by decide +kernel
theorem dX1_placeAt_22 : decode cX1_placeAt 22 = .ok (.ireturn, 1) := by decide +kernel
theorem dX2_init_0 : decode cX2_init 0 = .ok (.aload_n 0, 1) := by decide +kernel
theorem dX2_init_1 : decode cX2_init 1 = .ok (.invokespecial 1, 3) := by decide +kernel
theorem dX2_init_4 : decode cX2_init 4 = .ok (.aload_n 0, 1) := by decide +kernel
theorem dX2_init_5 : decode cX2_init 5 = .ok (.iload_n 1, 1) := by decide +kernel
theorem dX2_init_6 : decode cX2_init 6 = .ok (.putfield 7, 3) := by decide +kernel
theorem dX2_init_9 : decode cX2_init 9 = .ok (.aload_n 0, 1) := by decide +kernel
theorem dX2_init_10 : decode cX2_init 10 = .ok (.aload_n 2, 1) := by decide +kernel
theorem dX2_init_11 : decode cX2_init 11 = .ok (.putfield 13, 3) := by decide +kernel
theorem dX2_init_14 : decode cX2_init 14 = .ok (.aload_n 0, 1) := by decide +kernel
theorem dX2_init_15 : decode cX2_init 15 = .ok (.new 17, 3) := by decide +kernel
theorem dX2_init_18 : decode cX2_init 18 = .ok (.dup, 1) := by decide +kernel
theorem dX2_init_19 : decode cX2_init 19 = .ok (.lconst 0, 1) := by decide +kernel
theorem dX2_init_20 : decode cX2_init 20 = .ok (.iconst 0, 1) := by decide +kernel
theorem dX2_init_21 : decode cX2_init 21 = .ok (.invokespecial 19, 3) := by decide +kernel
theorem dX2_init_24 : decode cX2_init 24 = .ok (.putfield 22, 3) := by decide +kernel
theorem dX2_init_27 : decode cX2_init 27 = .ok (.return_, 1) := by decide +kernel
theorem dX3_init_0 : decode cX3_init 0 = .ok (.aload_n 0, 1) := by decide +kernel
theorem dX3_init_1 : decode cX3_init 1 = .ok (.invokespecial 3, 3) := by decide +kernel
theorem dX3_init_4 : decode cX3_init 4 = .ok (.aload_n 0, 1) := by decide +kernel
theorem dX3_init_5 : decode cX3_init 5 = .ok (.sipush 201, 3) := by decide +kernel
theorem dX3_init_8 : decode cX3_init 8 = .ok (.newarray .long, 2) := by decide +kernel
theorem dX3_init_10 : decode cX3_init 10 = .ok (.putfield 9, 3) := by decide +kernel
theorem dX3_init_13 : decode cX3_init 13 = .ok (.aload_n 0, 1) := by decide +kernel
theorem dX3_init_14 : decode cX3_init 14 = .ok (.iconst 0, 1) := by decide +kernel
theorem dX3_init_15 : decode cX3_init 15 = .ok (.putfield 15, 3) := by decide +kernel
theorem dX3_init_18 : decode cX3_init 18 = .ok (.return_, 1) := by decide +kernel
theorem dX3_add_0 : decode cX3_add 0 = .ok (.aload_n 0, 1) := by decide +kernel
theorem dX3_add_1 : decode cX3_add 1 = .ok (.getfield 15, 3) := by decide +kernel
theorem dX3_add_4 : decode cX3_add 4 = .ok (.sipush 200, 3) := by decide +kernel
theorem dX3_add_7 : decode cX3_add 7 = .ok (.if_icmp .ge 45, 3) := by decide +kernel
theorem dX3_add_10 : decode cX3_add 10 = .ok (.aload_n 0, 1) := by decide +kernel
theorem dX3_add_11 : decode cX3_add 11 = .ok (.getfield 9, 3) := by decide +kernel
theorem dX3_add_14 : decode cX3_add 14 = .ok (.aload_n 0, 1) := by decide +kernel
theorem dX3_add_15 : decode cX3_add 15 = .ok (.getfield 15, 3) := by decide +kernel
theorem dX3_add_18 : decode cX3_add 18 = .ok (.iconst 1, 1) := by decide +kernel
theorem dX3_add_19 : decode cX3_add 19 = .ok (.iadd, 1) := by decide +kernel
theorem dX3_add_20 : decode cX3_add 20 = .ok (.aload_n 0, 1) := by decide +kernel
theorem dX3_add_21 : decode cX3_add 21 = .ok (.getfield 9, 3) := by decide +kernel
theorem dX3_add_24 : decode cX3_add 24 = .ok (.aload_n 0, 1) := by decide +kernel
theorem dX3_add_25 : decode cX3_add 25 = .ok (.getfield 15, 3) := by decide +kernel
theorem dX3_add_28 : decode cX3_add 28 = .ok (.laload, 1) := by decide +kernel
theorem dX3_add_29 : decode cX3_add 29 = .ok (.iconst 5, 1) := by decide +kernel
theorem dX3_add_30 : decode cX3_add 30 = .ok (.lshl, 1) := by decide +kernel
theorem dX3_add_31 : decode cX3_add 31 = .ok (.iload_n 1, 1) := by decide +kernel
theorem dX3_add_32 : decode cX3_add 32 = .ok (.invokestatic 19, 3) := by decide +kernel
theorem dX3_add_35 : decode cX3_add 35 = .ok (.lor, 1) := by decide +kernel
theorem dX3_add_36 : decode cX3_add 36 = .ok (.bipush 8, 2) := by decide +kernel
theorem dX3_add_38 : decode cX3_add 38 = .ok (.invokestatic 23, 3) := by decide +kernel
theorem dX3_add_41 : decode cX3_add 41 = .ok (.lastore, 1) := by decide +kernel
theorem dX3_add_42 : decode cX3_add 42 = .ok (.aload_n 0, 1) := by decide +kernel
theorem dX3_add_43 : decode cX3_add 43 = .ok (.dup, 1) := by decide +kernel
theorem dX3_add_44 : decode cX3_add 44 = .ok (.getfield 15, 3) := by decide +kernel
theorem dX3_add_47 : decode cX3_add 47 = .ok (.iconst 1, 1) := by decide +kernel
theorem dX3_add_48 : decode cX3_add 48 = .ok (.iadd, 1) := by decide +kernel
theorem dX3_add_49 : decode cX3_add 49 = .ok (.putfield 15, 3) := by decide +kernel
theorem dX3_add_52 : decode cX3_add 52 = .ok (.return_, 1) := by decide +kernel
theorem dX3_lastsBefore_0 : decode cX3_lastsBefore 0 = .ok (.iload_n 1, 1) := by decide +kernel
theorem dX3_lastsBefore_1 : decode cX3_lastsBefore 1 = .ok (.ifCond .lt 20, 3) := by decide +kernel
theorem dX3_lastsBefore_4 : decode cX3_lastsBefore 4 = .ok (.iload_n 1, 1) := by decide +kernel
theorem dX3_lastsBefore_5 : decode cX3_lastsBefore 5 = .ok (.aload_n 0, 1) := by decide +kernel
theorem dX3_lastsBefore_6 : decode cX3_lastsBefore 6 = .ok (.getfield 15, 3) := by decide +kernel
theorem dX3_lastsBefore_9 : decode cX3_lastsBefore 9 = .ok (.if_icmp .gt 12, 3) := by decide +kernel
theorem dX3_lastsBefore_12 : decode cX3_lastsBefore 12 = .ok (.aload_n 0, 1) := by decide +kernel
theorem dX3_lastsBefore_13 : decode cX3_lastsBefore 13 = .ok (.getfield 9, 3) := by decide +kernel
theorem dX3_lastsBefore_16 : decode cX3_lastsBefore 16 = .ok (.iload_n 1, 1) := by decide +kernel
theorem dX3_lastsBefore_17 : decode cX3_lastsBefore 17 = .ok (.laload, 1) := by decide +kernel
theorem dX3_lastsBefore_18 : decode cX3_lastsBefore 18 = .ok (.goto 4, 3) := by decide +kernel
theorem dX3_lastsBefore_21 : decode cX3_lastsBefore 21 = .ok (.lconst 0, 1) := by decide +kernel
theorem dX3_lastsBefore_22 : decode cX3_lastsBefore 22 = .ok (.lreturn, 1) := by decide +kernel
theorem dX3_letterAt_0 : decode cX3_letterAt 0 = .ok (.aload_n 0, 1) := by decide +kernel
theorem dX3_letterAt_1 : decode cX3_letterAt 1 = .ok (.iload_n 1, 1) := by decide +kernel
theorem dX3_letterAt_2 : decode cX3_letterAt 2 = .ok (.iconst 1, 1) := by decide +kernel
theorem dX3_letterAt_3 : decode cX3_letterAt 3 = .ok (.iadd, 1) := by decide +kernel
theorem dX3_letterAt_4 : decode cX3_letterAt 4 = .ok (.invokevirtual 27, 3) := by decide +kernel
theorem dX3_letterAt_7 : decode cX3_letterAt 7 = .ok (.invokestatic 31, 3) := by decide +kernel
theorem dX3_letterAt_10 : decode cX3_letterAt 10 = .ok (.ireturn, 1) := by decide +kernel
theorem dX3_holdsBefore_0 : decode cX3_holdsBefore 0 = .ok (.aload_n 0, 1) := by decide +kernel
theorem dX3_holdsBefore_1 : decode cX3_holdsBefore 1 = .ok (.iload_n 1, 1) := by decide +kernel
theorem dX3_holdsBefore_2 : decode cX3_holdsBefore 2 = .ok (.invokevirtual 27, 3) := by decide +kernel
theorem dX3_holdsBefore_5 : decode cX3_holdsBefore 5 = .ok (.aload_n 2, 1) := by decide +kernel
theorem dX3_holdsBefore_6 : decode cX3_holdsBefore 6 = .ok (.getfield 35, 3) := by decide +kernel
theorem dX3_holdsBefore_9 : decode cX3_holdsBefore 9 = .ok (.invokestatic 23, 3) := by decide +kernel
theorem dX3_holdsBefore_12 : decode cX3_holdsBefore 12 = .ok (.aload_n 2, 1) := by decide +kernel
theorem dX3_holdsBefore_13 : decode cX3_holdsBefore 13 = .ok (.getfield 38, 3) := by decide +kernel
theorem dX3_holdsBefore_16 : decode cX3_holdsBefore 16 = .ok (.lcmp, 1) := by decide +kernel
theorem dX3_holdsBefore_17 : decode cX3_holdsBefore 17 = .ok (.ifCond .ne 7, 3) := by decide +kernel
theorem dX3_holdsBefore_20 : decode cX3_holdsBefore 20 = .ok (.iconst 1, 1) := by decide +kernel
theorem dX3_holdsBefore_21 : decode cX3_holdsBefore 21 = .ok (.goto 4, 3) := by decide +kernel
theorem dX3_holdsBefore_24 : decode cX3_holdsBefore 24 = .ok (.iconst 0, 1) := by decide +kernel
theorem dX3_holdsBefore_25 : decode cX3_holdsBefore 25 = .ok (.ireturn, 1) := by decide +kernel
theorem dX3_holdsAt_0 : decode cX3_holdsAt 0 = .ok (.aload_n 0, 1) := by decide +kernel
theorem dX3_holdsAt_1 : decode cX3_holdsAt 1 = .ok (.iload_n 1, 1) := by decide +kernel
theorem dX3_holdsAt_2 : decode cX3_holdsAt 2 = .ok (.aload_n 2, 1) := by decide +kernel
theorem dX3_holdsAt_3 : decode cX3_holdsAt 3 = .ok (.getfield 35, 3) := by decide +kernel
theorem dX3_holdsAt_6 : decode cX3_holdsAt 6 = .ok (.iadd, 1) := by decide +kernel
theorem dX3_holdsAt_7 : decode cX3_holdsAt 7 = .ok (.invokevirtual 27, 3) := by decide +kernel
theorem dX3_holdsAt_10 : decode cX3_holdsAt 10 = .ok (.aload_n 2, 1) := by decide +kernel
theorem dX3_holdsAt_11 : decode cX3_holdsAt 11 = .ok (.getfield 35, 3) := by decide +kernel
theorem dX3_holdsAt_14 : decode cX3_holdsAt 14 = .ok (.invokestatic 23, 3) := by decide +kernel
theorem dX3_holdsAt_17 : decode cX3_holdsAt 17 = .ok (.aload_n 2, 1) := by decide +kernel
theorem dX3_holdsAt_18 : decode cX3_holdsAt 18 = .ok (.getfield 38, 3) := by decide +kernel
theorem dX3_holdsAt_21 : decode cX3_holdsAt 21 = .ok (.lcmp, 1) := by decide +kernel
theorem dX3_holdsAt_22 : decode cX3_holdsAt 22 = .ok (.ifCond .ne 7, 3) := by decide +kernel
theorem dX3_holdsAt_25 : decode cX3_holdsAt 25 = .ok (.iconst 1, 1) := by decide +kernel
theorem dX3_holdsAt_26 : decode cX3_holdsAt 26 = .ok (.goto 4, 3) := by decide +kernel
theorem dX3_holdsAt_29 : decode cX3_holdsAt 29 = .ok (.iconst 0, 1) := by decide +kernel
theorem dX3_holdsAt_30 : decode cX3_holdsAt 30 = .ok (.ireturn, 1) := by decide +kernel
theorem dX3_count_0 : decode cX3_count 0 = .ok (.iconst 0, 1) := by decide +kernel
theorem dX3_count_1 : decode cX3_count 1 = .ok (.istore_n 2, 1) := by decide +kernel
theorem dX3_count_2 : decode cX3_count 2 = .ok (.iconst 0, 1) := by decide +kernel
theorem dX3_count_3 : decode cX3_count 3 = .ok (.istore_n 3, 1) := by decide +kernel
theorem dX3_count_4 : decode cX3_count 4 = .ok (.iload_n 3, 1) := by decide +kernel
theorem dX3_count_5 : decode cX3_count 5 = .ok (.aload_n 0, 1) := by decide +kernel
theorem dX3_count_6 : decode cX3_count 6 = .ok (.getfield 15, 3) := by decide +kernel
theorem dX3_count_9 : decode cX3_count 9 = .ok (.if_icmp .ge 21, 3) := by decide +kernel
theorem dX3_count_12 : decode cX3_count 12 = .ok (.aload_n 0, 1) := by decide +kernel
theorem dX3_count_13 : decode cX3_count 13 = .ok (.iload_n 3, 1) := by decide +kernel
theorem dX3_count_14 : decode cX3_count 14 = .ok (.aload_n 1, 1) := by decide +kernel
theorem dX3_count_15 : decode cX3_count 15 = .ok (.invokevirtual 42, 3) := by decide +kernel
theorem dX3_count_18 : decode cX3_count 18 = .ok (.ifCond .eq 6, 3) := by decide +kernel
theorem dX3_count_21 : decode cX3_count 21 = .ok (.iinc 2 1, 3) := by decide +kernel
theorem dX3_count_24 : decode cX3_count 24 = .ok (.iinc 3 1, 3) := by decide +kernel
theorem dX3_count_27 : decode cX3_count 27 = .ok (.goto (-23), 3) := by decide +kernel
theorem dX3_count_30 : decode cX3_count 30 = .ok (.iload_n 2, 1) := by decide +kernel
theorem dX3_count_31 : decode cX3_count 31 = .ok (.ireturn, 1) := by decide +kernel
theorem dX3_placeOf_0 : decode cX3_placeOf 0 = .ok (.iconst 0, 1) := by decide +kernel
theorem dX3_placeOf_1 : decode cX3_placeOf 1 = .ok (.istore_n 3, 1) := by decide +kernel
theorem dX3_placeOf_2 : decode cX3_placeOf 2 = .ok (.iconst 0, 1) := by decide +kernel
theorem dX3_placeOf_3 : decode cX3_placeOf 3 = .ok (.istore 4, 2) := by decide +kernel
theorem dX3_placeOf_5 : decode cX3_placeOf 5 = .ok (.iload 4, 2) := by decide +kernel
theorem dX3_placeOf_7 : decode cX3_placeOf 7 = .ok (.aload_n 0, 1) := by decide +kernel
theorem dX3_placeOf_8 : decode cX3_placeOf 8 = .ok (.getfield 15, 3) := by decide +kernel
theorem dX3_placeOf_11 : decode cX3_placeOf 11 = .ok (.if_icmp .ge 30, 3) := by decide +kernel
theorem dX3_placeOf_14 : decode cX3_placeOf 14 = .ok (.aload_n 0, 1) := by decide +kernel
theorem dX3_placeOf_15 : decode cX3_placeOf 15 = .ok (.iload 4, 2) := by decide +kernel
theorem dX3_placeOf_17 : decode cX3_placeOf 17 = .ok (.aload_n 1, 1) := by decide +kernel
theorem dX3_placeOf_18 : decode cX3_placeOf 18 = .ok (.invokevirtual 42, 3) := by decide +kernel
theorem dX3_placeOf_21 : decode cX3_placeOf 21 = .ok (.ifCond .eq 14, 3) := by decide +kernel
theorem dX3_placeOf_24 : decode cX3_placeOf 24 = .ok (.iload_n 3, 1) := by decide +kernel
theorem dX3_placeOf_25 : decode cX3_placeOf 25 = .ok (.iload_n 2, 1) := by decide +kernel
theorem dX3_placeOf_26 : decode cX3_placeOf 26 = .ok (.if_icmp .ne 6, 3) := by decide +kernel
theorem dX3_placeOf_29 : decode cX3_placeOf 29 = .ok (.iload 4, 2) := by decide +kernel
theorem dX3_placeOf_31 : decode cX3_placeOf 31 = .ok (.ireturn, 1) := by decide +kernel
theorem dX3_placeOf_32 : decode cX3_placeOf 32 = .ok (.iinc 3 1, 3) := by decide +kernel
theorem dX3_placeOf_35 : decode cX3_placeOf 35 = .ok (.iinc 4 1, 3) := by decide +kernel
theorem dX3_placeOf_38 : decode cX3_placeOf 38 = .ok (.goto (-33), 3) := by decide +kernel
theorem dX3_placeOf_41 : decode cX3_placeOf 41 = .ok (.iconst (-1), 1) := by decide +kernel
theorem dX3_placeOf_42 : decode cX3_placeOf 42 = .ok (.ireturn, 1) := by decide +kernel
theorem dX4_init_0 : decode cX4_init 0 = .ok (.aload_n 0, 1) := by decide +kernel
theorem dX4_init_1 : decode cX4_init 1 = .ok (.invokespecial 3, 3) := by decide +kernel
theorem dX4_init_4 : decode cX4_init 4 = .ok (.aload_n 0, 1) := by decide +kernel
theorem dX4_init_5 : decode cX4_init 5 = .ok (.sipush 1600, 3) := by decide +kernel
theorem dX4_init_8 : decode cX4_init 8 = .ok (.newarray .char, 2) := by decide +kernel
theorem dX4_init_10 : decode cX4_init 10 = .ok (.putfield 9, 3) := by decide +kernel
theorem dX4_init_13 : decode cX4_init 13 = .ok (.aload_n 0, 1) := by decide +kernel
theorem dX4_init_14 : decode cX4_init 14 = .ok (.iconst 0, 1) := by decide +kernel
theorem dX4_init_15 : decode cX4_init 15 = .ok (.putfield 15, 3) := by decide +kernel
theorem dX4_init_18 : decode cX4_init 18 = .ok (.return_, 1) := by decide +kernel
theorem dX4_add_0 : decode cX4_add 0 = .ok (.aload_n 0, 1) := by decide +kernel
theorem dX4_add_1 : decode cX4_add 1 = .ok (.getfield 15, 3) := by decide +kernel
theorem dX4_add_4 : decode cX4_add 4 = .ok (.aload_n 0, 1) := by decide +kernel
theorem dX4_add_5 : decode cX4_add 5 = .ok (.getfield 9, 3) := by decide +kernel
theorem dX4_add_8 : decode cX4_add 8 = .ok (.arraylength, 1) := by decide +kernel
theorem dX4_add_9 : decode cX4_add 9 = .ok (.if_icmp .ge 23, 3) := by decide +kernel
theorem dX4_add_12 : decode cX4_add 12 = .ok (.aload_n 0, 1) := by decide +kernel
theorem dX4_add_13 : decode cX4_add 13 = .ok (.getfield 9, 3) := by decide +kernel
theorem dX4_add_16 : decode cX4_add 16 = .ok (.aload_n 0, 1) := by decide +kernel
theorem dX4_add_17 : decode cX4_add 17 = .ok (.getfield 15, 3) := by decide +kernel
theorem dX4_add_20 : decode cX4_add 20 = .ok (.iload_n 1, 1) := by decide +kernel
theorem dX4_add_21 : decode cX4_add 21 = .ok (.castore, 1) := by decide +kernel
theorem dX4_add_22 : decode cX4_add 22 = .ok (.aload_n 0, 1) := by decide +kernel
theorem dX4_add_23 : decode cX4_add 23 = .ok (.dup, 1) := by decide +kernel
theorem dX4_add_24 : decode cX4_add 24 = .ok (.getfield 15, 3) := by decide +kernel
theorem dX4_add_27 : decode cX4_add 27 = .ok (.iconst 1, 1) := by decide +kernel
theorem dX4_add_28 : decode cX4_add 28 = .ok (.iadd, 1) := by decide +kernel
theorem dX4_add_29 : decode cX4_add 29 = .ok (.putfield 15, 3) := by decide +kernel
theorem dX4_add_32 : decode cX4_add 32 = .ok (.return_, 1) := by decide +kernel
theorem dX4_addWord_0 : decode cX4_addWord 0 = .ok (.iconst 0, 1) := by decide +kernel
theorem dX4_addWord_1 : decode cX4_addWord 1 = .ok (.istore_n 2, 1) := by decide +kernel
theorem dX4_addWord_2 : decode cX4_addWord 2 = .ok (.iload_n 2, 1) := by decide +kernel
theorem dX4_addWord_3 : decode cX4_addWord 3 = .ok (.aload_n 1, 1) := by decide +kernel
theorem dX4_addWord_4 : decode cX4_addWord 4 = .ok (.getfield 19, 3) := by decide +kernel
theorem dX4_addWord_7 : decode cX4_addWord 7 = .ok (.if_icmp .ge 18, 3) := by decide +kernel
theorem dX4_addWord_10 : decode cX4_addWord 10 = .ok (.aload_n 0, 1) := by decide +kernel
theorem dX4_addWord_11 : decode cX4_addWord 11 = .ok (.aload_n 1, 1) := by decide +kernel
theorem dX4_addWord_12 : decode cX4_addWord 12 = .ok (.iload_n 2, 1) := by decide +kernel
theorem dX4_addWord_13 : decode cX4_addWord 13 = .ok (.invokevirtual 22, 3) := by decide +kernel
theorem dX4_addWord_16 : decode cX4_addWord 16 = .ok (.invokevirtual 26, 3) := by decide +kernel
theorem dX4_addWord_19 : decode cX4_addWord 19 = .ok (.iinc 2 1, 3) := by decide +kernel
theorem dX4_addWord_22 : decode cX4_addWord 22 = .ok (.goto (-20), 3) := by decide +kernel
theorem dX4_addWord_25 : decode cX4_addWord 25 = .ok (.return_, 1) := by decide +kernel
theorem dX4_addStream_0 : decode cX4_addStream 0 = .ok (.iload_n 2, 1) := by decide +kernel
theorem dX4_addStream_1 : decode cX4_addStream 1 = .ok (.istore 4, 2) := by decide +kernel
theorem dX4_addStream_3 : decode cX4_addStream 3 = .ok (.iload 4, 2) := by decide +kernel
theorem dX4_addStream_5 : decode cX4_addStream 5 = .ok (.iload_n 3, 1) := by decide +kernel
theorem dX4_addStream_6 : decode cX4_addStream 6 = .ok (.if_icmp .ge 19, 3) := by decide +kernel
theorem dX4_addStream_9 : decode cX4_addStream 9 = .ok (.aload_n 0, 1) := by decide +kernel
theorem dX4_addStream_10 : decode cX4_addStream 10 = .ok (.aload_n 1, 1) := by decide +kernel
theorem dX4_addStream_11 : decode cX4_addStream 11 = .ok (.iload 4, 2) := by decide +kernel
theorem dX4_addStream_13 : decode cX4_addStream 13 = .ok (.invokevirtual 30, 3) := by decide +kernel
theorem dX4_addStream_16 : decode cX4_addStream 16 = .ok (.invokevirtual 26, 3) := by decide +kernel
theorem dX4_addStream_19 : decode cX4_addStream 19 = .ok (.iinc 4 1, 3) := by decide +kernel
theorem dX4_addStream_22 : decode cX4_addStream 22 = .ok (.goto (-19), 3) := by decide +kernel
theorem dX4_addStream_25 : decode cX4_addStream 25 = .ok (.return_, 1) := by decide +kernel
theorem dX4_letterAt_0 : decode cX4_letterAt 0 = .ok (.iload_n 1, 1) := by decide +kernel
theorem dX4_letterAt_1 : decode cX4_letterAt 1 = .ok (.ifCond .lt 20, 3) := by decide +kernel
theorem dX4_letterAt_4 : decode cX4_letterAt 4 = .ok (.iload_n 1, 1) := by decide +kernel
theorem dX4_letterAt_5 : decode cX4_letterAt 5 = .ok (.aload_n 0, 1) := by decide +kernel
theorem dX4_letterAt_6 : decode cX4_letterAt 6 = .ok (.getfield 15, 3) := by decide +kernel
theorem dX4_letterAt_9 : decode cX4_letterAt 9 = .ok (.if_icmp .ge 12, 3) := by decide +kernel
theorem dX4_letterAt_12 : decode cX4_letterAt 12 = .ok (.aload_n 0, 1) := by decide +kernel
theorem dX4_letterAt_13 : decode cX4_letterAt 13 = .ok (.getfield 9, 3) := by decide +kernel
theorem dX4_letterAt_16 : decode cX4_letterAt 16 = .ok (.iload_n 1, 1) := by decide +kernel
theorem dX4_letterAt_17 : decode cX4_letterAt 17 = .ok (.caload, 1) := by decide +kernel
theorem dX4_letterAt_18 : decode cX4_letterAt 18 = .ok (.goto 5, 3) := by decide +kernel
theorem dX4_letterAt_21 : decode cX4_letterAt 21 = .ok (.bipush 97, 2) := by decide +kernel
theorem dX4_letterAt_23 : decode cX4_letterAt 23 = .ok (.ireturn, 1) := by decide +kernel
theorem dX5_init_0 : decode cX5_init 0 = .ok (.aload_n 0, 1) := by decide +kernel
theorem dX5_init_1 : decode cX5_init 1 = .ok (.invokespecial 3, 3) := by decide +kernel
theorem dX5_init_4 : decode cX5_init 4 = .ok (.aload_n 0, 1) := by decide +kernel
theorem dX5_init_5 : decode cX5_init 5 = .ok (.lload_n 1, 1) := by decide +kernel
theorem dX5_init_6 : decode cX5_init 6 = .ok (.putfield 9, 3) := by decide +kernel
theorem dX5_init_9 : decode cX5_init 9 = .ok (.aload_n 0, 1) := by decide +kernel
theorem dX5_init_10 : decode cX5_init 10 = .ok (.iload_n 3, 1) := by decide +kernel
theorem dX5_init_11 : decode cX5_init 11 = .ok (.putfield 15, 3) := by decide +kernel
theorem dX5_init_14 : decode cX5_init 14 = .ok (.return_, 1) := by decide +kernel
theorem dX5_with_0 : decode cX5_with 0 = .ok (.new 10, 3) := by decide +kernel
theorem dX5_with_3 : decode cX5_with 3 = .ok (.dup, 1) := by decide +kernel
theorem dX5_with_4 : decode cX5_with 4 = .ok (.aload_n 0, 1) := by decide +kernel
theorem dX5_with_5 : decode cX5_with 5 = .ok (.getfield 9, 3) := by decide +kernel
theorem dX5_with_8 : decode cX5_with 8 = .ok (.iconst 5, 1) := by decide +kernel
theorem dX5_with_9 : decode cX5_with 9 = .ok (.lshl, 1) := by decide +kernel
theorem dX5_with_10 : decode cX5_with 10 = .ok (.iload_n 1, 1) := by decide +kernel
theorem dX5_with_11 : decode cX5_with 11 = .ok (.invokestatic 19, 3) := by decide +kernel
theorem dX5_with_14 : decode cX5_with 14 = .ok (.lor, 1) := by decide +kernel
theorem dX5_with_15 : decode cX5_with 15 = .ok (.aload_n 0, 1) := by decide +kernel
theorem dX5_with_16 : decode cX5_with 16 = .ok (.getfield 15, 3) := by decide +kernel
theorem dX5_with_19 : decode cX5_with 19 = .ok (.iconst 1, 1) := by decide +kernel
theorem dX5_with_20 : decode cX5_with 20 = .ok (.iadd, 1) := by decide +kernel
theorem dX5_with_21 : decode cX5_with 21 = .ok (.invokespecial 23, 3) := by decide +kernel
theorem dX5_with_24 : decode cX5_with 24 = .ok (.areturn, 1) := by decide +kernel
theorem dX5_beginsWith_0 : decode cX5_beginsWith 0 = .ok (.iload_n 3, 1) := by decide +kernel
theorem dX5_beginsWith_1 : decode cX5_beginsWith 1 = .ok (.aload_n 0, 1) := by decide +kernel
theorem dX5_beginsWith_2 : decode cX5_beginsWith 2 = .ok (.getfield 15, 3) := by decide +kernel
theorem dX5_beginsWith_5 : decode cX5_beginsWith 5 = .ok (.if_icmp .gt 25, 3) := by decide +kernel
theorem dX5_beginsWith_8 : decode cX5_beginsWith 8 = .ok (.aload_n 0, 1) := by decide +kernel
theorem dX5_beginsWith_9 : decode cX5_beginsWith 9 = .ok (.getfield 9, 3) := by decide +kernel
theorem dX5_beginsWith_12 : decode cX5_beginsWith 12 = .ok (.iconst 5, 1) := by decide +kernel
theorem dX5_beginsWith_13 : decode cX5_beginsWith 13 = .ok (.aload_n 0, 1) := by decide +kernel
theorem dX5_beginsWith_14 : decode cX5_beginsWith 14 = .ok (.getfield 15, 3) := by decide +kernel
theorem dX5_beginsWith_17 : decode cX5_beginsWith 17 = .ok (.iload_n 3, 1) := by decide +kernel
theorem dX5_beginsWith_18 : decode cX5_beginsWith 18 = .ok (.isub, 1) := by decide +kernel
theorem dX5_beginsWith_19 : decode cX5_beginsWith 19 = .ok (.imul, 1) := by decide +kernel
theorem dX5_beginsWith_20 : decode cX5_beginsWith 20 = .ok (.lushr, 1) := by decide +kernel
theorem dX5_beginsWith_21 : decode cX5_beginsWith 21 = .ok (.lload_n 1, 1) := by decide +kernel
theorem dX5_beginsWith_22 : decode cX5_beginsWith 22 = .ok (.lcmp, 1) := by decide +kernel
theorem dX5_beginsWith_23 : decode cX5_beginsWith 23 = .ok (.ifCond .ne 7, 3) := by decide +kernel
theorem dX5_beginsWith_26 : decode cX5_beginsWith 26 = .ok (.iconst 1, 1) := by decide +kernel
theorem dX5_beginsWith_27 : decode cX5_beginsWith 27 = .ok (.goto 4, 3) := by decide +kernel
theorem dX5_beginsWith_30 : decode cX5_beginsWith 30 = .ok (.iconst 0, 1) := by decide +kernel
theorem dX5_beginsWith_31 : decode cX5_beginsWith 31 = .ok (.ireturn, 1) := by decide +kernel
theorem dX5_head_0 : decode cX5_head 0 = .ok (.iload_n 1, 1) := by decide +kernel
theorem dX5_head_1 : decode cX5_head 1 = .ok (.aload_n 0, 1) := by decide +kernel
theorem dX5_head_2 : decode cX5_head 2 = .ok (.getfield 15, 3) := by decide +kernel
theorem dX5_head_5 : decode cX5_head 5 = .ok (.if_icmp .ge 19, 3) := by decide +kernel
theorem dX5_head_8 : decode cX5_head 8 = .ok (.aload_n 0, 1) := by decide +kernel
theorem dX5_head_9 : decode cX5_head 9 = .ok (.getfield 9, 3) := by decide +kernel
theorem dX5_head_12 : decode cX5_head 12 = .ok (.iconst 5, 1) := by decide +kernel
theorem dX5_head_13 : decode cX5_head 13 = .ok (.aload_n 0, 1) := by decide +kernel
theorem dX5_head_14 : decode cX5_head 14 = .ok (.getfield 15, 3) := by decide +kernel
theorem dX5_head_17 : decode cX5_head 17 = .ok (.iload_n 1, 1) := by decide +kernel
theorem dX5_head_18 : decode cX5_head 18 = .ok (.isub, 1) := by decide +kernel
theorem dX5_head_19 : decode cX5_head 19 = .ok (.imul, 1) := by decide +kernel
theorem dX5_head_20 : decode cX5_head 20 = .ok (.lushr, 1) := by decide +kernel
theorem dX5_head_21 : decode cX5_head 21 = .ok (.goto 7, 3) := by decide +kernel
theorem dX5_head_24 : decode cX5_head 24 = .ok (.aload_n 0, 1) := by decide +kernel
theorem dX5_head_25 : decode cX5_head 25 = .ok (.getfield 9, 3) := by decide +kernel
theorem dX5_head_28 : decode cX5_head 28 = .ok (.lreturn, 1) := by decide +kernel
theorem dX5_letterAt_0 : decode cX5_letterAt 0 = .ok (.aload_n 0, 1) := by decide +kernel
theorem dX5_letterAt_1 : decode cX5_letterAt 1 = .ok (.iload_n 1, 1) := by decide +kernel
theorem dX5_letterAt_2 : decode cX5_letterAt 2 = .ok (.iconst 1, 1) := by decide +kernel
theorem dX5_letterAt_3 : decode cX5_letterAt 3 = .ok (.iadd, 1) := by decide +kernel
theorem dX5_letterAt_4 : decode cX5_letterAt 4 = .ok (.invokevirtual 26, 3) := by decide +kernel
theorem dX5_letterAt_7 : decode cX5_letterAt 7 = .ok (.invokestatic 30, 3) := by decide +kernel
theorem dX5_letterAt_10 : decode cX5_letterAt 10 = .ok (.ireturn, 1) := by decide +kernel
theorem dX6_init_0 : decode cX6_init 0 = .ok (.aload_n 0, 1) := by decide +kernel
theorem dX6_init_1 : decode cX6_init 1 = .ok (.invokespecial 1, 3) := by decide +kernel
theorem dX6_init_4 : decode cX6_init 4 = .ok (.aload_n 0, 1) := by decide +kernel
theorem dX6_init_5 : decode cX6_init 5 = .ok (.new 7, 3) := by decide +kernel
theorem dX6_init_8 : decode cX6_init 8 = .ok (.dup, 1) := by decide +kernel
theorem dX6_init_9 : decode cX6_init 9 = .ok (.invokespecial 9, 3) := by decide +kernel
theorem dX6_init_12 : decode cX6_init 12 = .ok (.putfield 10, 3) := by decide +kernel
theorem dX6_init_15 : decode cX6_init 15 = .ok (.aload_n 0, 1) := by decide +kernel
theorem dX6_init_16 : decode cX6_init 16 = .ok (.new 16, 3) := by decide +kernel
theorem dX6_init_19 : decode cX6_init 19 = .ok (.dup, 1) := by decide +kernel
theorem dX6_init_20 : decode cX6_init 20 = .ok (.invokespecial 18, 3) := by decide +kernel
theorem dX6_init_23 : decode cX6_init 23 = .ok (.putfield 19, 3) := by decide +kernel
theorem dX6_init_26 : decode cX6_init 26 = .ok (.aload_n 0, 1) := by decide +kernel
theorem dX6_init_27 : decode cX6_init 27 = .ok (.new 23, 3) := by decide +kernel
theorem dX6_init_30 : decode cX6_init 30 = .ok (.dup, 1) := by decide +kernel
theorem dX6_init_31 : decode cX6_init 31 = .ok (.invokespecial 25, 3) := by decide +kernel
theorem dX6_init_34 : decode cX6_init 34 = .ok (.putfield 26, 3) := by decide +kernel
theorem dX6_init_37 : decode cX6_init 37 = .ok (.aload_n 0, 1) := by decide +kernel
theorem dX6_init_38 : decode cX6_init 38 = .ok (.new 30, 3) := by decide +kernel
theorem dX6_init_41 : decode cX6_init 41 = .ok (.dup, 1) := by decide +kernel
theorem dX6_init_42 : decode cX6_init 42 = .ok (.invokespecial 32, 3) := by decide +kernel
theorem dX6_init_45 : decode cX6_init 45 = .ok (.putfield 33, 3) := by decide +kernel
theorem dX6_init_48 : decode cX6_init 48 = .ok (.aload_n 0, 1) := by decide +kernel
theorem dX6_init_49 : decode cX6_init 49 = .ok (.new 37, 3) := by decide +kernel
theorem dX6_init_52 : decode cX6_init 52 = .ok (.dup, 1) := by decide +kernel
theorem dX6_init_53 : decode cX6_init 53 = .ok (.lconst 0, 1) := by decide +kernel
theorem dX6_init_54 : decode cX6_init 54 = .ok (.iconst 0, 1) := by decide +kernel
theorem dX6_init_55 : decode cX6_init 55 = .ok (.invokespecial 39, 3) := by decide +kernel
theorem dX6_init_58 : decode cX6_init 58 = .ok (.putfield 42, 3) := by decide +kernel
theorem dX6_init_61 : decode cX6_init 61 = .ok (.aload_n 0, 1) := by decide +kernel
theorem dX6_init_62 : decode cX6_init 62 = .ok (.iconst 0, 1) := by decide +kernel
theorem dX6_init_63 : decode cX6_init 63 = .ok (.putfield 46, 3) := by decide +kernel
theorem dX6_init_66 : decode cX6_init 66 = .ok (.return_, 1) := by decide +kernel
theorem dX6_draft_0 : decode cX6_draft 0 = .ok (.iload_n 1, 1) := by decide +kernel
theorem dX6_draft_1 : decode cX6_draft 1 = .ok (.invokestatic 50, 3) := by decide +kernel
theorem dX6_draft_4 : decode cX6_draft 4 = .ok (.aload_n 0, 1) := by decide +kernel
theorem dX6_draft_5 : decode cX6_draft 5 = .ok (.getfield 42, 3) := by decide +kernel
theorem dX6_draft_8 : decode cX6_draft 8 = .ok (.getfield 54, 3) := by decide +kernel
theorem dX6_draft_11 : decode cX6_draft 11 = .ok (.bipush 8, 2) := by decide +kernel
theorem dX6_draft_13 : decode cX6_draft 13 = .ok (.if_icmp .lt 13, 3) := by decide +kernel
theorem dX6_draft_16 : decode cX6_draft 16 = .ok (.new 57, 3) := by decide +kernel
theorem dX6_draft_19 : decode cX6_draft 19 = .ok (.dup, 1) := by decide +kernel
theorem dX6_draft_20 : decode cX6_draft 20 = .ok (.ldc 59, 2) := by decide +kernel
theorem dX6_draft_22 : decode cX6_draft 22 = .ok (.invokespecial 61, 3) := by decide +kernel
theorem dX6_draft_25 : decode cX6_draft 25 = .ok (.athrow, 1) := by decide +kernel
theorem dX6_draft_26 : decode cX6_draft 26 = .ok (.aload_n 0, 1) := by decide +kernel
theorem dX6_draft_27 : decode cX6_draft 27 = .ok (.aload_n 0, 1) := by decide +kernel
theorem dX6_draft_28 : decode cX6_draft 28 = .ok (.getfield 42, 3) := by decide +kernel
theorem dX6_draft_31 : decode cX6_draft 31 = .ok (.iload_n 1, 1) := by decide +kernel
theorem dX6_draft_32 : decode cX6_draft 32 = .ok (.invokevirtual 64, 3) := by decide +kernel
theorem dX6_draft_35 : decode cX6_draft 35 = .ok (.putfield 42, 3) := by decide +kernel
theorem dX6_draft_38 : decode cX6_draft 38 = .ok (.aload_n 0, 1) := by decide +kernel
theorem dX6_draft_39 : decode cX6_draft 39 = .ok (.getfield 42, 3) := by decide +kernel
theorem dX6_draft_42 : decode cX6_draft 42 = .ok (.getfield 54, 3) := by decide +kernel
theorem dX6_draft_45 : decode cX6_draft 45 = .ok (.ireturn, 1) := by decide +kernel
theorem dX6_enter_0 : decode cX6_enter 0 = .ok (.aload_n 0, 1) := by decide +kernel
theorem dX6_enter_1 : decode cX6_enter 1 = .ok (.getfield 42, 3) := by decide +kernel
theorem dX6_enter_4 : decode cX6_enter 4 = .ok (.getfield 54, 3) := by decide +kernel
theorem dX6_enter_7 : decode cX6_enter 7 = .ok (.ifCond .ne 13, 3) := by decide +kernel
theorem dX6_enter_10 : decode cX6_enter 10 = .ok (.new 57, 3) := by decide +kernel
theorem dX6_enter_13 : decode cX6_enter 13 = .ok (.dup, 1) := by decide +kernel
theorem dX6_enter_14 : decode cX6_enter 14 = .ok (.ldc 68, 2) := by decide +kernel
theorem dX6_enter_16 : decode cX6_enter 16 = .ok (.invokespecial 61, 3) := by decide +kernel
theorem dX6_enter_19 : decode cX6_enter 19 = .ok (.athrow, 1) := by decide +kernel
theorem dX6_enter_20 : decode cX6_enter 20 = .ok (.aload_n 0, 1) := by decide +kernel
theorem dX6_enter_21 : decode cX6_enter 21 = .ok (.getfield 10, 3) := by decide +kernel
theorem dX6_enter_24 : decode cX6_enter 24 = .ok (.aload_n 0, 1) := by decide +kernel
theorem dX6_enter_25 : decode cX6_enter 25 = .ok (.getfield 42, 3) := by decide +kernel
theorem dX6_enter_28 : decode cX6_enter 28 = .ok (.invokevirtual 70, 3) := by decide +kernel
theorem dX6_enter_31 : decode cX6_enter 31 = .ok (.ifCond .eq 13, 3) := by decide +kernel
theorem dX6_enter_34 : decode cX6_enter 34 = .ok (.new 57, 3) := by decide +kernel
theorem dX6_enter_37 : decode cX6_enter 37 = .ok (.dup, 1) := by decide +kernel
theorem dX6_enter_38 : decode cX6_enter 38 = .ok (.ldc 74, 2) := by decide +kernel
theorem dX6_enter_40 : decode cX6_enter 40 = .ok (.invokespecial 61, 3) := by decide +kernel
theorem dX6_enter_43 : decode cX6_enter 43 = .ok (.athrow, 1) := by decide +kernel
theorem dX6_enter_44 : decode cX6_enter 44 = .ok (.aload_n 0, 1) := by decide +kernel
theorem dX6_enter_45 : decode cX6_enter 45 = .ok (.getfield 10, 3) := by decide +kernel
theorem dX6_enter_48 : decode cX6_enter 48 = .ok (.invokevirtual 76, 3) := by decide +kernel
theorem dX6_enter_51 : decode cX6_enter 51 = .ok (.ifCond .eq 13, 3) := by decide +kernel
theorem dX6_enter_54 : decode cX6_enter 54 = .ok (.new 57, 3) := by decide +kernel
theorem dX6_enter_57 : decode cX6_enter 57 = .ok (.dup, 1) := by decide +kernel
theorem dX6_enter_58 : decode cX6_enter 58 = .ok (.ldc 80, 2) := by decide +kernel
theorem dX6_enter_60 : decode cX6_enter 60 = .ok (.invokespecial 61, 3) := by decide +kernel
theorem dX6_enter_63 : decode cX6_enter 63 = .ok (.athrow, 1) := by decide +kernel
theorem dX6_enter_64 : decode cX6_enter 64 = .ok (.aload_n 0, 1) := by decide +kernel
theorem dX6_enter_65 : decode cX6_enter 65 = .ok (.getfield 10, 3) := by decide +kernel
theorem dX6_enter_68 : decode cX6_enter 68 = .ok (.aload_n 0, 1) := by decide +kernel
theorem dX6_enter_69 : decode cX6_enter 69 = .ok (.getfield 42, 3) := by decide +kernel
theorem dX6_enter_72 : decode cX6_enter 72 = .ok (.invokevirtual 82, 3) := by decide +kernel
theorem dX6_enter_75 : decode cX6_enter 75 = .ok (.istore_n 1, 1) := by decide +kernel
theorem dX6_enter_76 : decode cX6_enter 76 = .ok (.aload_n 0, 1) := by decide +kernel
theorem dX6_enter_77 : decode cX6_enter 77 = .ok (.new 37, 3) := by decide +kernel
theorem dX6_enter_80 : decode cX6_enter 80 = .ok (.dup, 1) := by decide +kernel
theorem dX6_enter_81 : decode cX6_enter 81 = .ok (.lconst 0, 1) := by decide +kernel
theorem dX6_enter_82 : decode cX6_enter 82 = .ok (.iconst 0, 1) := by decide +kernel
theorem dX6_enter_83 : decode cX6_enter 83 = .ok (.invokespecial 39, 3) := by decide +kernel
theorem dX6_enter_86 : decode cX6_enter 86 = .ok (.putfield 42, 3) := by decide +kernel
theorem dX6_enter_89 : decode cX6_enter 89 = .ok (.iload_n 1, 1) := by decide +kernel
theorem dX6_enter_90 : decode cX6_enter 90 = .ok (.ireturn, 1) := by decide +kernel
theorem dX6_setReplacement_0 : decode cX6_setReplacement 0 = .ok (.aload_n 0, 1) := by decide +kernel
theorem dX6_setReplacement_1 : decode cX6_setReplacement 1 = .ok (.iload_n 1, 1) := by decide +kernel
theorem dX6_setReplacement_2 : decode cX6_setReplacement 2 = .ok (.invokevirtual 86, 3) := by decide +kernel
theorem dX6_setReplacement_5 : decode cX6_setReplacement 5 = .ok (.astore_n 2, 1) := by decide +kernel
theorem dX6_setReplacement_6 : decode cX6_setReplacement 6 = .ok (.aload_n 2, 1) := by decide +kernel
theorem dX6_setReplacement_7 : decode cX6_setReplacement 7 = .ok (.getfield 90, 3) := by decide +kernel
theorem dX6_setReplacement_10 : decode cX6_setReplacement 10 = .ok (.getfield 54, 3) := by decide +kernel
theorem dX6_setReplacement_13 : decode cX6_setReplacement 13 = .ok (.istore_n 3, 1) := by decide +kernel
theorem dX6_setReplacement_14 : decode cX6_setReplacement 14 = .ok (.aload_n 2, 1) := by decide +kernel
theorem dX6_setReplacement_15 : decode cX6_setReplacement 15 = .ok (.aload_n 0, 1) := by decide +kernel
theorem dX6_setReplacement_16 : decode cX6_setReplacement 16 = .ok (.getfield 42, 3) := by decide +kernel
theorem dX6_setReplacement_19 : decode cX6_setReplacement 19 = .ok (.putfield 90, 3) := by decide +kernel
theorem dX6_setReplacement_22 : decode cX6_setReplacement 22 = .ok (.aload_n 0, 1) := by decide +kernel
theorem dX6_setReplacement_23 : decode cX6_setReplacement 23 = .ok (.new 37, 3) := by decide +kernel
theorem dX6_setReplacement_26 : decode cX6_setReplacement 26 = .ok (.dup, 1) := by decide +kernel
theorem dX6_setReplacement_27 : decode cX6_setReplacement 27 = .ok (.lconst 0, 1) := by decide +kernel
theorem dX6_setReplacement_28 : decode cX6_setReplacement 28 = .ok (.iconst 0, 1) := by decide +kernel
theorem dX6_setReplacement_29 : decode cX6_setReplacement 29 = .ok (.invokespecial 39, 3) := by decide +kernel
theorem dX6_setReplacement_32 : decode cX6_setReplacement 32 = .ok (.putfield 42, 3) := by decide +kernel
theorem dX6_setReplacement_35 : decode cX6_setReplacement 35 = .ok (.iload_n 3, 1) := by decide +kernel
theorem dX6_setReplacement_36 : decode cX6_setReplacement 36 = .ok (.ireturn, 1) := by decide +kernel
theorem dX6_takeOut_0 : decode cX6_takeOut 0 = .ok (.aload_n 0, 1) := by decide +kernel
theorem dX6_takeOut_1 : decode cX6_takeOut 1 = .ok (.getfield 10, 3) := by decide +kernel
theorem dX6_takeOut_4 : decode cX6_takeOut 4 = .ok (.aload_n 0, 1) := by decide +kernel
theorem dX6_takeOut_5 : decode cX6_takeOut 5 = .ok (.iload_n 1, 1) := by decide +kernel
theorem dX6_takeOut_6 : decode cX6_takeOut 6 = .ok (.invokevirtual 86, 3) := by decide +kernel
theorem dX6_takeOut_9 : decode cX6_takeOut 9 = .ok (.invokevirtual 95, 3) := by decide +kernel
theorem dX6_takeOut_12 : decode cX6_takeOut 12 = .ok (.aload_n 0, 1) := by decide +kernel
theorem dX6_takeOut_13 : decode cX6_takeOut 13 = .ok (.getfield 10, 3) := by decide +kernel
theorem dX6_takeOut_16 : decode cX6_takeOut 16 = .ok (.getfield 99, 3) := by decide +kernel
theorem dX6_takeOut_19 : decode cX6_takeOut 19 = .ok (.ireturn, 1) := by decide +kernel
theorem dX6_patterns_0 : decode cX6_patterns 0 = .ok (.aload_n 0, 1) := by decide +kernel
theorem dX6_patterns_1 : decode cX6_patterns 1 = .ok (.getfield 10, 3) := by decide +kernel
theorem dX6_patterns_4 : decode cX6_patterns 4 = .ok (.getfield 99, 3) := by decide +kernel
theorem dX6_patterns_7 : decode cX6_patterns 7 = .ok (.ireturn, 1) := by decide +kernel
theorem dX6_length_0 : decode cX6_length 0 = .ok (.aload_n 0, 1) := by decide +kernel
theorem dX6_length_1 : decode cX6_length 1 = .ok (.iload_n 1, 1) := by decide +kernel
theorem dX6_length_2 : decode cX6_length 2 = .ok (.invokevirtual 86, 3) := by decide +kernel
theorem dX6_length_5 : decode cX6_length 5 = .ok (.getfield 102, 3) := by decide +kernel
theorem dX6_length_8 : decode cX6_length 8 = .ok (.getfield 54, 3) := by decide +kernel
theorem dX6_length_11 : decode cX6_length 11 = .ok (.ireturn, 1) := by decide +kernel
theorem dX6_beginnings_0 : decode cX6_beginnings 0 = .ok (.aload_n 0, 1) := by decide +kernel
theorem dX6_beginnings_1 : decode cX6_beginnings 1 = .ok (.getfield 10, 3) := by decide +kernel
theorem dX6_beginnings_4 : decode cX6_beginnings 4 = .ok (.invokevirtual 105, 3) := by decide +kernel
theorem dX6_beginnings_7 : decode cX6_beginnings 7 = .ok (.ireturn, 1) := by decide +kernel
theorem dX6_link_0 : decode cX6_link 0 = .ok (.aload_n 0, 1) := by decide +kernel
theorem dX6_link_1 : decode cX6_link 1 = .ok (.iload_n 1, 1) := by decide +kernel
theorem dX6_link_2 : decode cX6_link 2 = .ok (.invokevirtual 86, 3) := by decide +kernel
theorem dX6_link_5 : decode cX6_link 5 = .ok (.getfield 102, 3) := by decide +kernel
theorem dX6_link_8 : decode cX6_link 8 = .ok (.astore_n 2, 1) := by decide +kernel
theorem dX6_link_9 : decode cX6_link 9 = .ok (.aload_n 0, 1) := by decide +kernel
theorem dX6_link_10 : decode cX6_link 10 = .ok (.getfield 10, 3) := by decide +kernel
theorem dX6_link_13 : decode cX6_link 13 = .ok (.aload_n 2, 1) := by decide +kernel
theorem dX6_link_14 : decode cX6_link 14 = .ok (.getfield 109, 3) := by decide +kernel
theorem dX6_link_17 : decode cX6_link 17 = .ok (.aload_n 2, 1) := by decide +kernel
theorem dX6_link_18 : decode cX6_link 18 = .ok (.getfield 54, 3) := by decide +kernel
theorem dX6_link_21 : decode cX6_link 21 = .ok (.iconst 1, 1) := by decide +kernel
theorem dX6_link_22 : decode cX6_link 22 = .ok (.isub, 1) := by decide +kernel
theorem dX6_link_23 : decode cX6_link 23 = .ok (.invokevirtual 113, 3) := by decide +kernel
theorem dX6_link_26 : decode cX6_link 26 = .ok (.ireturn, 1) := by decide +kernel
theorem dX6_overlap_0 : decode cX6_overlap 0 = .ok (.aload_n 0, 1) := by decide +kernel
theorem dX6_overlap_1 : decode cX6_overlap 1 = .ok (.iload_n 1, 1) := by decide +kernel
theorem dX6_overlap_2 : decode cX6_overlap 2 = .ok (.invokevirtual 86, 3) := by decide +kernel
theorem dX6_overlap_5 : decode cX6_overlap 5 = .ok (.getfield 102, 3) := by decide +kernel
theorem dX6_overlap_8 : decode cX6_overlap 8 = .ok (.astore_n 3, 1) := by decide +kernel
theorem dX6_overlap_9 : decode cX6_overlap 9 = .ok (.aload_n 0, 1) := by decide +kernel
theorem dX6_overlap_10 : decode cX6_overlap 10 = .ok (.iload_n 2, 1) := by decide +kernel
theorem dX6_overlap_11 : decode cX6_overlap 11 = .ok (.invokevirtual 86, 3) := by decide +kernel
theorem dX6_overlap_14 : decode cX6_overlap 14 = .ok (.getfield 102, 3) := by decide +kernel
theorem dX6_overlap_17 : decode cX6_overlap 17 = .ok (.astore 4, 2) := by decide +kernel
theorem dX6_overlap_19 : decode cX6_overlap 19 = .ok (.aload_n 3, 1) := by decide +kernel
theorem dX6_overlap_20 : decode cX6_overlap 20 = .ok (.getfield 54, 3) := by decide +kernel
theorem dX6_overlap_23 : decode cX6_overlap 23 = .ok (.aload 4, 2) := by decide +kernel
theorem dX6_overlap_25 : decode cX6_overlap 25 = .ok (.getfield 54, 3) := by decide +kernel
theorem dX6_overlap_28 : decode cX6_overlap 28 = .ok (.invokestatic 117, 3) := by decide +kernel
theorem dX6_overlap_31 : decode cX6_overlap 31 = .ok (.iconst 1, 1) := by decide +kernel
theorem dX6_overlap_32 : decode cX6_overlap 32 = .ok (.isub, 1) := by decide +kernel
theorem dX6_overlap_33 : decode cX6_overlap 33 = .ok (.istore 5, 2) := by decide +kernel
theorem dX6_overlap_35 : decode cX6_overlap 35 = .ok (.iload 5, 2) := by decide +kernel
theorem dX6_overlap_37 : decode cX6_overlap 37 = .ok (.ifCond .le 31, 3) := by decide +kernel
theorem dX6_overlap_40 : decode cX6_overlap 40 = .ok (.aload 4, 2) := by decide +kernel
theorem dX6_overlap_42 : decode cX6_overlap 42 = .ok (.aload_n 3, 1) := by decide +kernel
theorem dX6_overlap_43 : decode cX6_overlap 43 = .ok (.getfield 109, 3) := by decide +kernel
theorem dX6_overlap_46 : decode cX6_overlap 46 = .ok (.iload 5, 2) := by decide +kernel
theorem dX6_overlap_48 : decode cX6_overlap 48 = .ok (.invokestatic 123, 3) := by decide +kernel
theorem dX6_overlap_51 : decode cX6_overlap 51 = .ok (.iload 5, 2) := by decide +kernel
theorem dX6_overlap_53 : decode cX6_overlap 53 = .ok (.invokevirtual 127, 3) := by decide +kernel
theorem dX6_overlap_56 : decode cX6_overlap 56 = .ok (.ifCond .eq 6, 3) := by decide +kernel
theorem dX6_overlap_59 : decode cX6_overlap 59 = .ok (.iload 5, 2) := by decide +kernel
theorem dX6_overlap_61 : decode cX6_overlap 61 = .ok (.ireturn, 1) := by decide +kernel
theorem dX6_overlap_62 : decode cX6_overlap 62 = .ok (.iinc 5 (-1), 3) := by decide +kernel
theorem dX6_overlap_65 : decode cX6_overlap 65 = .ok (.goto (-30), 3) := by decide +kernel
theorem dX6_overlap_68 : decode cX6_overlap 68 = .ok (.iconst 0, 1) := by decide +kernel
theorem dX6_overlap_69 : decode cX6_overlap 69 = .ok (.ireturn, 1) := by decide +kernel
theorem dX6_feed_0 : decode cX6_feed 0 = .ok (.iload_n 1, 1) := by decide +kernel
theorem dX6_feed_1 : decode cX6_feed 1 = .ok (.invokestatic 50, 3) := by decide +kernel
theorem dX6_feed_4 : decode cX6_feed 4 = .ok (.aload_n 0, 1) := by decide +kernel
theorem dX6_feed_5 : decode cX6_feed 5 = .ok (.iconst 1, 1) := by decide +kernel
theorem dX6_feed_6 : decode cX6_feed 6 = .ok (.invokevirtual 131, 3) := by decide +kernel
theorem dX6_feed_9 : decode cX6_feed 9 = .ok (.aload_n 0, 1) := by decide +kernel
theorem dX6_feed_10 : decode cX6_feed 10 = .ok (.iload_n 1, 1) := by decide +kernel
theorem dX6_feed_11 : decode cX6_feed 11 = .ok (.invokevirtual 135, 3) := by decide +kernel
theorem dX6_feed_14 : decode cX6_feed 14 = .ok (.ireturn, 1) := by decide +kernel
theorem dX6_feedPattern_0 : decode cX6_feedPattern 0 = .ok (.aload_n 0, 1) := by decide +kernel
theorem dX6_feedPattern_1 : decode cX6_feedPattern 1 = .ok (.iload_n 1, 1) := by decide +kernel
theorem dX6_feedPattern_2 : decode cX6_feedPattern 2 = .ok (.invokevirtual 86, 3) := by decide +kernel
theorem dX6_feedPattern_5 : decode cX6_feedPattern 5 = .ok (.getfield 102, 3) := by decide +kernel
theorem dX6_feedPattern_8 : decode cX6_feedPattern 8 = .ok (.astore_n 2, 1) := by decide +kernel
theorem dX6_feedPattern_9 : decode cX6_feedPattern 9 = .ok (.aload_n 0, 1) := by decide +kernel
theorem dX6_feedPattern_10 : decode cX6_feedPattern 10 = .ok (.aload_n 2, 1) := by decide +kernel
theorem dX6_feedPattern_11 : decode cX6_feedPattern 11 = .ok (.getfield 54, 3) := by decide +kernel
theorem dX6_feedPattern_14 : decode cX6_feedPattern 14 = .ok (.invokevirtual 131, 3) := by decide +kernel
theorem dX6_feedPattern_17 : decode cX6_feedPattern 17 = .ok (.iconst 0, 1) := by decide +kernel
theorem dX6_feedPattern_18 : decode cX6_feedPattern 18 = .ok (.istore_n 3, 1) := by decide +kernel
theorem dX6_feedPattern_19 : decode cX6_feedPattern 19 = .ok (.iconst 0, 1) := by decide +kernel
theorem dX6_feedPattern_20 : decode cX6_feedPattern 20 = .ok (.istore 4, 2) := by decide +kernel
theorem dX6_feedPattern_22 : decode cX6_feedPattern 22 = .ok (.iload 4, 2) := by decide +kernel
theorem dX6_feedPattern_24 : decode cX6_feedPattern 24 = .ok (.aload_n 2, 1) := by decide +kernel
theorem dX6_feedPattern_25 : decode cX6_feedPattern 25 = .ok (.getfield 54, 3) := by decide +kernel
theorem dX6_feedPattern_28 : decode cX6_feedPattern 28 = .ok (.if_icmp .ge 22, 3) := by decide +kernel
theorem dX6_feedPattern_31 : decode cX6_feedPattern 31 = .ok (.iload_n 3, 1) := by decide +kernel
theorem dX6_feedPattern_32 : decode cX6_feedPattern 32 = .ok (.aload_n 0, 1) := by decide +kernel
theorem dX6_feedPattern_33 : decode cX6_feedPattern 33 = .ok (.aload_n 2, 1) := by decide +kernel
theorem dX6_feedPattern_34 : decode cX6_feedPattern 34 = .ok (.iload 4, 2) := by decide +kernel
theorem dX6_feedPattern_36 : decode cX6_feedPattern 36 = .ok (.invokevirtual 139, 3) := by decide +kernel
theorem dX6_feedPattern_39 : decode cX6_feedPattern 39 = .ok (.invokevirtual 135, 3) := by decide +kernel
theorem dX6_feedPattern_42 : decode cX6_feedPattern 42 = .ok (.iadd, 1) := by decide +kernel
theorem dX6_feedPattern_43 : decode cX6_feedPattern 43 = .ok (.istore_n 3, 1) := by decide +kernel
theorem dX6_feedPattern_44 : decode cX6_feedPattern 44 = .ok (.iinc 4 1, 3) := by decide +kernel
theorem dX6_feedPattern_47 : decode cX6_feedPattern 47 = .ok (.goto (-25), 3) := by decide +kernel
theorem dX6_feedPattern_50 : decode cX6_feedPattern 50 = .ok (.iload_n 3, 1) := by decide +kernel
theorem dX6_feedPattern_51 : decode cX6_feedPattern 51 = .ok (.ireturn, 1) := by decide +kernel
theorem dX6_clear_0 : decode cX6_clear 0 = .ok (.aload_n 0, 1) := by decide +kernel
theorem dX6_clear_1 : decode cX6_clear 1 = .ok (.getfield 19, 3) := by decide +kernel
theorem dX6_clear_4 : decode cX6_clear 4 = .ok (.getfield 143, 3) := by decide +kernel
theorem dX6_clear_7 : decode cX6_clear 7 = .ok (.istore_n 1, 1) := by decide +kernel
theorem dX6_clear_8 : decode cX6_clear 8 = .ok (.aload_n 0, 1) := by decide +kernel
theorem dX6_clear_9 : decode cX6_clear 9 = .ok (.getfield 19, 3) := by decide +kernel
theorem dX6_clear_12 : decode cX6_clear 12 = .ok (.iconst 0, 1) := by decide +kernel
theorem dX6_clear_13 : decode cX6_clear 13 = .ok (.putfield 143, 3) := by decide +kernel
theorem dX6_clear_16 : decode cX6_clear 16 = .ok (.aload_n 0, 1) := by decide +kernel
theorem dX6_clear_17 : decode cX6_clear 17 = .ok (.iconst 0, 1) := by decide +kernel
theorem dX6_clear_18 : decode cX6_clear 18 = .ok (.putfield 46, 3) := by decide +kernel
theorem dX6_clear_21 : decode cX6_clear 21 = .ok (.iload_n 1, 1) := by decide +kernel
theorem dX6_clear_22 : decode cX6_clear 22 = .ok (.ireturn, 1) := by decide +kernel
theorem dX6_streamLength_0 : decode cX6_streamLength 0 = .ok (.aload_n 0, 1) := by decide +kernel
theorem dX6_streamLength_1 : decode cX6_streamLength 1 = .ok (.getfield 19, 3) := by decide +kernel
theorem dX6_streamLength_4 : decode cX6_streamLength 4 = .ok (.getfield 143, 3) := by decide +kernel
theorem dX6_streamLength_7 : decode cX6_streamLength 7 = .ok (.ireturn, 1) := by decide +kernel
theorem dX6_depth_0 : decode cX6_depth 0 = .ok (.aload_n 0, 1) := by decide +kernel
theorem dX6_depth_1 : decode cX6_depth 1 = .ok (.getfield 10, 3) := by decide +kernel
theorem dX6_depth_4 : decode cX6_depth 4 = .ok (.aload_n 0, 1) := by decide +kernel
theorem dX6_depth_5 : decode cX6_depth 5 = .ok (.getfield 19, 3) := by decide +kernel
theorem dX6_depth_8 : decode cX6_depth 8 = .ok (.aload_n 0, 1) := by decide +kernel
theorem dX6_depth_9 : decode cX6_depth 9 = .ok (.getfield 19, 3) := by decide +kernel
theorem dX6_depth_12 : decode cX6_depth 12 = .ok (.getfield 143, 3) := by decide +kernel
theorem dX6_depth_15 : decode cX6_depth 15 = .ok (.invokevirtual 144, 3) := by decide +kernel
theorem dX6_depth_18 : decode cX6_depth 18 = .ok (.aload_n 0, 1) := by decide +kernel
theorem dX6_depth_19 : decode cX6_depth 19 = .ok (.getfield 19, 3) := by decide +kernel
theorem dX6_depth_22 : decode cX6_depth 22 = .ok (.getfield 143, 3) := by decide +kernel
theorem dX6_depth_25 : decode cX6_depth 25 = .ok (.bipush 8, 2) := by decide +kernel
theorem dX6_depth_27 : decode cX6_depth 27 = .ok (.invokestatic 117, 3) := by decide +kernel
theorem dX6_depth_30 : decode cX6_depth 30 = .ok (.invokevirtual 113, 3) := by decide +kernel
theorem dX6_depth_33 : decode cX6_depth 33 = .ok (.ireturn, 1) := by decide +kernel
theorem dX6_ending_0 : decode cX6_ending 0 = .ok (.aload_n 0, 1) := by decide +kernel
theorem dX6_ending_1 : decode cX6_ending 1 = .ok (.getfield 10, 3) := by decide +kernel
theorem dX6_ending_4 : decode cX6_ending 4 = .ok (.aload_n 0, 1) := by decide +kernel
theorem dX6_ending_5 : decode cX6_ending 5 = .ok (.getfield 19, 3) := by decide +kernel
theorem dX6_ending_8 : decode cX6_ending 8 = .ok (.aload_n 0, 1) := by decide +kernel
theorem dX6_ending_9 : decode cX6_ending 9 = .ok (.getfield 19, 3) := by decide +kernel
theorem dX6_ending_12 : decode cX6_ending 12 = .ok (.getfield 143, 3) := by decide +kernel
theorem dX6_ending_15 : decode cX6_ending 15 = .ok (.invokevirtual 148, 3) := by decide +kernel
theorem dX6_ending_18 : decode cX6_ending 18 = .ok (.ireturn, 1) := by decide +kernel
theorem dX6_endingPattern_0 : decode cX6_endingPattern 0 = .ok (.aload_n 0, 1) := by decide +kernel
theorem dX6_endingPattern_1 : decode cX6_endingPattern 1 = .ok (.getfield 10, 3) := by decide +kernel
theorem dX6_endingPattern_4 : decode cX6_endingPattern 4 = .ok (.aload_n 0, 1) := by decide +kernel
theorem dX6_endingPattern_5 : decode cX6_endingPattern 5 = .ok (.getfield 19, 3) := by decide +kernel
theorem dX6_endingPattern_8 : decode cX6_endingPattern 8 = .ok (.iload_n 1, 1) := by decide +kernel
theorem dX6_endingPattern_9 : decode cX6_endingPattern 9 = .ok (.invokevirtual 152, 3) := by decide +kernel
theorem dX6_endingPattern_12 : decode cX6_endingPattern 12 = .ok (.astore_n 2, 1) := by decide +kernel
theorem dX6_endingPattern_13 : decode cX6_endingPattern 13 = .ok (.aload_n 2, 1) := by decide +kernel
theorem dX6_endingPattern_14 : decode cX6_endingPattern 14 = .ok (.ifnonnull 13, 3) := by decide +kernel
theorem dX6_endingPattern_17 : decode cX6_endingPattern 17 = .ok (.new 156, 3) := by decide +kernel
theorem dX6_endingPattern_20 : decode cX6_endingPattern 20 = .ok (.dup, 1) := by decide +kernel
theorem dX6_endingPattern_21 : decode cX6_endingPattern 21 = .ok (.ldc 158, 2) := by decide +kernel
theorem dX6_endingPattern_23 : decode cX6_endingPattern 23 = .ok (.invokespecial 160, 3) := by decide +kernel
theorem dX6_endingPattern_26 : decode cX6_endingPattern 26 = .ok (.athrow, 1) := by decide +kernel
theorem dX6_endingPattern_27 : decode cX6_endingPattern 27 = .ok (.aload_n 2, 1) := by decide +kernel
theorem dX6_endingPattern_28 : decode cX6_endingPattern 28 = .ok (.getfield 161, 3) := by decide +kernel
theorem dX6_endingPattern_31 : decode cX6_endingPattern 31 = .ok (.ireturn, 1) := by decide +kernel
theorem dX6_occurrences_0 : decode cX6_occurrences 0 = .ok (.iconst 0, 1) := by decide +kernel
theorem dX6_occurrences_1 : decode cX6_occurrences 1 = .ok (.istore_n 1, 1) := by decide +kernel
theorem dX6_occurrences_2 : decode cX6_occurrences 2 = .ok (.iconst 1, 1) := by decide +kernel
theorem dX6_occurrences_3 : decode cX6_occurrences 3 = .ok (.istore_n 2, 1) := by decide +kernel
theorem dX6_occurrences_4 : decode cX6_occurrences 4 = .ok (.iload_n 2, 1) := by decide +kernel
theorem dX6_occurrences_5 : decode cX6_occurrences 5 = .ok (.aload_n 0, 1) := by decide +kernel
theorem dX6_occurrences_6 : decode cX6_occurrences 6 = .ok (.getfield 19, 3) := by decide +kernel
theorem dX6_occurrences_9 : decode cX6_occurrences 9 = .ok (.getfield 143, 3) := by decide +kernel
theorem dX6_occurrences_12 : decode cX6_occurrences 12 = .ok (.if_icmp .gt 24, 3) := by decide +kernel
theorem dX6_occurrences_15 : decode cX6_occurrences 15 = .ok (.iload_n 1, 1) := by decide +kernel
theorem dX6_occurrences_16 : decode cX6_occurrences 16 = .ok (.aload_n 0, 1) := by decide +kernel
theorem dX6_occurrences_17 : decode cX6_occurrences 17 = .ok (.getfield 10, 3) := by decide +kernel
theorem dX6_occurrences_20 : decode cX6_occurrences 20 = .ok (.aload_n 0, 1) := by decide +kernel
theorem dX6_occurrences_21 : decode cX6_occurrences 21 = .ok (.getfield 19, 3) := by decide +kernel
theorem dX6_occurrences_24 : decode cX6_occurrences 24 = .ok (.iload_n 2, 1) := by decide +kernel
theorem dX6_occurrences_25 : decode cX6_occurrences 25 = .ok (.invokevirtual 148, 3) := by decide +kernel
theorem dX6_occurrences_28 : decode cX6_occurrences 28 = .ok (.iadd, 1) := by decide +kernel
theorem dX6_occurrences_29 : decode cX6_occurrences 29 = .ok (.istore_n 1, 1) := by decide +kernel
theorem dX6_occurrences_30 : decode cX6_occurrences 30 = .ok (.iinc 2 1, 3) := by decide +kernel
theorem dX6_occurrences_33 : decode cX6_occurrences 33 = .ok (.goto (-29), 3) := by decide +kernel
theorem dX6_occurrences_36 : decode cX6_occurrences 36 = .ok (.iload_n 1, 1) := by decide +kernel
theorem dX6_occurrences_37 : decode cX6_occurrences 37 = .ok (.ireturn, 1) := by decide +kernel
theorem dX6_occurrencesOf_0 : decode cX6_occurrencesOf 0 = .ok (.aload_n 0, 1) := by decide +kernel
theorem dX6_occurrencesOf_1 : decode cX6_occurrencesOf 1 = .ok (.getfield 19, 3) := by decide +kernel
theorem dX6_occurrencesOf_4 : decode cX6_occurrencesOf 4 = .ok (.aload_n 0, 1) := by decide +kernel
theorem dX6_occurrencesOf_5 : decode cX6_occurrencesOf 5 = .ok (.iload_n 1, 1) := by decide +kernel
theorem dX6_occurrencesOf_6 : decode cX6_occurrencesOf 6 = .ok (.invokevirtual 86, 3) := by decide +kernel
theorem dX6_occurrencesOf_9 : decode cX6_occurrencesOf 9 = .ok (.getfield 102, 3) := by decide +kernel
theorem dX6_occurrencesOf_12 : decode cX6_occurrencesOf 12 = .ok (.invokevirtual 164, 3) := by decide +kernel
theorem dX6_occurrencesOf_15 : decode cX6_occurrencesOf 15 = .ok (.ireturn, 1) := by decide +kernel
theorem dX6_occurrence_0 : decode cX6_occurrence 0 = .ok (.aload_n 0, 1) := by decide +kernel
theorem dX6_occurrence_1 : decode cX6_occurrence 1 = .ok (.getfield 19, 3) := by decide +kernel
theorem dX6_occurrence_4 : decode cX6_occurrence 4 = .ok (.aload_n 0, 1) := by decide +kernel
theorem dX6_occurrence_5 : decode cX6_occurrence 5 = .ok (.iload_n 1, 1) := by decide +kernel
theorem dX6_occurrence_6 : decode cX6_occurrence 6 = .ok (.invokevirtual 86, 3) := by decide +kernel
theorem dX6_occurrence_9 : decode cX6_occurrence 9 = .ok (.getfield 102, 3) := by decide +kernel
theorem dX6_occurrence_12 : decode cX6_occurrence 12 = .ok (.iload_n 2, 1) := by decide +kernel
theorem dX6_occurrence_13 : decode cX6_occurrence 13 = .ok (.invokevirtual 167, 3) := by decide +kernel
theorem dX6_occurrence_16 : decode cX6_occurrence 16 = .ok (.istore_n 3, 1) := by decide +kernel
theorem dX6_occurrence_17 : decode cX6_occurrence 17 = .ok (.iload_n 3, 1) := by decide +kernel
theorem dX6_occurrence_18 : decode cX6_occurrence 18 = .ok (.ifCond .ge 13, 3) := by decide +kernel
theorem dX6_occurrence_21 : decode cX6_occurrence 21 = .ok (.new 156, 3) := by decide +kernel
theorem dX6_occurrence_24 : decode cX6_occurrence 24 = .ok (.dup, 1) := by decide +kernel
theorem dX6_occurrence_25 : decode cX6_occurrence 25 = .ok (.ldc 158, 2) := by decide +kernel
theorem dX6_occurrence_27 : decode cX6_occurrence 27 = .ok (.invokespecial 160, 3) := by decide +kernel
theorem dX6_occurrence_30 : decode cX6_occurrence 30 = .ok (.athrow, 1) := by decide +kernel
theorem dX6_occurrence_31 : decode cX6_occurrence 31 = .ok (.iload_n 3, 1) := by decide +kernel
theorem dX6_occurrence_32 : decode cX6_occurrence 32 = .ok (.ireturn, 1) := by decide +kernel
theorem dX6_told_0 : decode cX6_told 0 = .ok (.aload_n 0, 1) := by decide +kernel
theorem dX6_told_1 : decode cX6_told 1 = .ok (.getfield 46, 3) := by decide +kernel
theorem dX6_told_4 : decode cX6_told 4 = .ok (.ireturn, 1) := by decide +kernel
theorem dX6_covered_0 : decode cX6_covered 0 = .ok (.iconst 0, 1) := by decide +kernel
theorem dX6_covered_1 : decode cX6_covered 1 = .ok (.istore_n 1, 1) := by decide +kernel
theorem dX6_covered_2 : decode cX6_covered 2 = .ok (.iconst 0, 1) := by decide +kernel
theorem dX6_covered_3 : decode cX6_covered 3 = .ok (.istore_n 2, 1) := by decide +kernel
theorem dX6_covered_4 : decode cX6_covered 4 = .ok (.iconst 0, 1) := by decide +kernel
theorem dX6_covered_5 : decode cX6_covered 5 = .ok (.istore_n 3, 1) := by decide +kernel
theorem dX6_covered_6 : decode cX6_covered 6 = .ok (.iload_n 3, 1) := by decide +kernel
theorem dX6_covered_7 : decode cX6_covered 7 = .ok (.aload_n 0, 1) := by decide +kernel
theorem dX6_covered_8 : decode cX6_covered 8 = .ok (.getfield 19, 3) := by decide +kernel
theorem dX6_covered_11 : decode cX6_covered 11 = .ok (.getfield 143, 3) := by decide +kernel
theorem dX6_covered_14 : decode cX6_covered 14 = .ok (.if_icmp .ge 51, 3) := by decide +kernel
theorem dX6_covered_17 : decode cX6_covered 17 = .ok (.aload_n 0, 1) := by decide +kernel
theorem dX6_covered_18 : decode cX6_covered 18 = .ok (.getfield 10, 3) := by decide +kernel
theorem dX6_covered_21 : decode cX6_covered 21 = .ok (.aload_n 0, 1) := by decide +kernel
theorem dX6_covered_22 : decode cX6_covered 22 = .ok (.getfield 19, 3) := by decide +kernel
theorem dX6_covered_25 : decode cX6_covered 25 = .ok (.iload_n 3, 1) := by decide +kernel
theorem dX6_covered_26 : decode cX6_covered 26 = .ok (.invokevirtual 171, 3) := by decide +kernel
theorem dX6_covered_29 : decode cX6_covered 29 = .ok (.astore 4, 2) := by decide +kernel
theorem dX6_covered_31 : decode cX6_covered 31 = .ok (.aload 4, 2) := by decide +kernel
theorem dX6_covered_33 : decode cX6_covered 33 = .ok (.ifnull 18, 3) := by decide +kernel
theorem dX6_covered_36 : decode cX6_covered 36 = .ok (.iload_n 2, 1) := by decide +kernel
theorem dX6_covered_37 : decode cX6_covered 37 = .ok (.iload_n 3, 1) := by decide +kernel
theorem dX6_covered_38 : decode cX6_covered 38 = .ok (.aload 4, 2) := by decide +kernel
theorem dX6_covered_40 : decode cX6_covered 40 = .ok (.getfield 102, 3) := by decide +kernel
theorem dX6_covered_43 : decode cX6_covered 43 = .ok (.getfield 54, 3) := by decide +kernel
theorem dX6_covered_46 : decode cX6_covered 46 = .ok (.iadd, 1) := by decide +kernel
theorem dX6_covered_47 : decode cX6_covered 47 = .ok (.invokestatic 174, 3) := by decide +kernel
theorem dX6_covered_50 : decode cX6_covered 50 = .ok (.istore_n 2, 1) := by decide +kernel
theorem dX6_covered_51 : decode cX6_covered 51 = .ok (.iload_n 3, 1) := by decide +kernel
theorem dX6_covered_52 : decode cX6_covered 52 = .ok (.iload_n 2, 1) := by decide +kernel
theorem dX6_covered_53 : decode cX6_covered 53 = .ok (.if_icmp .ge 6, 3) := by decide +kernel
theorem dX6_covered_56 : decode cX6_covered 56 = .ok (.iinc 1 1, 3) := by decide +kernel
theorem dX6_covered_59 : decode cX6_covered 59 = .ok (.iinc 3 1, 3) := by decide +kernel
theorem dX6_covered_62 : decode cX6_covered 62 = .ok (.goto (-56), 3) := by decide +kernel
theorem dX6_covered_65 : decode cX6_covered 65 = .ok (.iload_n 1, 1) := by decide +kernel
theorem dX6_covered_66 : decode cX6_covered 66 = .ok (.ireturn, 1) := by decide +kernel
theorem dX6_mostApart_0 : decode cX6_mostApart 0 = .ok (.aload_n 0, 1) := by decide +kernel
theorem dX6_mostApart_1 : decode cX6_mostApart 1 = .ok (.getfield 26, 3) := by decide +kernel
theorem dX6_mostApart_4 : decode cX6_mostApart 4 = .ok (.iconst 2, 1) := by decide +kernel
theorem dX6_mostApart_5 : decode cX6_mostApart 5 = .ok (.aload_n 0, 1) := by decide +kernel
theorem dX6_mostApart_6 : decode cX6_mostApart 6 = .ok (.getfield 10, 3) := by decide +kernel
theorem dX6_mostApart_9 : decode cX6_mostApart 9 = .ok (.aload_n 0, 1) := by decide +kernel
theorem dX6_mostApart_10 : decode cX6_mostApart 10 = .ok (.getfield 19, 3) := by decide +kernel
theorem dX6_mostApart_13 : decode cX6_mostApart 13 = .ok (.invokevirtual 177, 3) := by decide +kernel
theorem dX6_mostApart_16 : decode cX6_mostApart 16 = .ok (.aload_n 0, 1) := by decide +kernel
theorem dX6_mostApart_17 : decode cX6_mostApart 17 = .ok (.getfield 26, 3) := by decide +kernel
theorem dX6_mostApart_20 : decode cX6_mostApart 20 = .ok (.getfield 181, 3) := by decide +kernel
theorem dX6_mostApart_23 : decode cX6_mostApart 23 = .ok (.ireturn, 1) := by decide +kernel
theorem dX6_chosen_0 : decode cX6_chosen 0 = .ok (.iload_n 1, 1) := by decide +kernel
theorem dX6_chosen_1 : decode cX6_chosen 1 = .ok (.invokestatic 183, 3) := by decide +kernel
theorem dX6_chosen_4 : decode cX6_chosen 4 = .ok (.aload_n 0, 1) := by decide +kernel
theorem dX6_chosen_5 : decode cX6_chosen 5 = .ok (.getfield 26, 3) := by decide +kernel
theorem dX6_chosen_8 : decode cX6_chosen 8 = .ok (.iload_n 1, 1) := by decide +kernel
theorem dX6_chosen_9 : decode cX6_chosen 9 = .ok (.aload_n 0, 1) := by decide +kernel
theorem dX6_chosen_10 : decode cX6_chosen 10 = .ok (.getfield 10, 3) := by decide +kernel
theorem dX6_chosen_13 : decode cX6_chosen 13 = .ok (.aload_n 0, 1) := by decide +kernel
theorem dX6_chosen_14 : decode cX6_chosen 14 = .ok (.getfield 19, 3) := by decide +kernel
theorem dX6_chosen_17 : decode cX6_chosen 17 = .ok (.invokevirtual 177, 3) := by decide +kernel
theorem dX6_chosen_20 : decode cX6_chosen 20 = .ok (.aload_n 0, 1) := by decide +kernel
theorem dX6_chosen_21 : decode cX6_chosen 21 = .ok (.getfield 26, 3) := by decide +kernel
theorem dX6_chosen_24 : decode cX6_chosen 24 = .ok (.getfield 181, 3) := by decide +kernel
theorem dX6_chosen_27 : decode cX6_chosen 27 = .ok (.ireturn, 1) := by decide +kernel
theorem dX6_chosenPattern_0 : decode cX6_chosenPattern 0 = .ok (.aload_n 0, 1) := by decide +kernel
theorem dX6_chosenPattern_1 : decode cX6_chosenPattern 1 = .ok (.iload_n 1, 1) := by decide +kernel
theorem dX6_chosenPattern_2 : decode cX6_chosenPattern 2 = .ok (.iload_n 2, 1) := by decide +kernel
theorem dX6_chosenPattern_3 : decode cX6_chosenPattern 3 = .ok (.invokevirtual 186, 3) := by decide +kernel
theorem dX6_chosenPattern_6 : decode cX6_chosenPattern 6 = .ok (.getfield 161, 3) := by decide +kernel
theorem dX6_chosenPattern_9 : decode cX6_chosenPattern 9 = .ok (.ireturn, 1) := by decide +kernel
theorem dX6_chosenPlace_0 : decode cX6_chosenPlace 0 = .ok (.aload_n 0, 1) := by decide +kernel
theorem dX6_chosenPlace_1 : decode cX6_chosenPlace 1 = .ok (.iload_n 1, 1) := by decide +kernel
theorem dX6_chosenPlace_2 : decode cX6_chosenPlace 2 = .ok (.iload_n 2, 1) := by decide +kernel
theorem dX6_chosenPlace_3 : decode cX6_chosenPlace 3 = .ok (.invokevirtual 186, 3) := by decide +kernel
theorem dX6_chosenPlace_6 : decode cX6_chosenPlace 6 = .ok (.pop, 1) := by decide +kernel
theorem dX6_chosenPlace_7 : decode cX6_chosenPlace 7 = .ok (.aload_n 0, 1) := by decide +kernel
theorem dX6_chosenPlace_8 : decode cX6_chosenPlace 8 = .ok (.getfield 26, 3) := by decide +kernel
theorem dX6_chosenPlace_11 : decode cX6_chosenPlace 11 = .ok (.iload_n 2, 1) := by decide +kernel
theorem dX6_chosenPlace_12 : decode cX6_chosenPlace 12 = .ok (.invokevirtual 190, 3) := by decide +kernel
theorem dX6_chosenPlace_15 : decode cX6_chosenPlace 15 = .ok (.ireturn, 1) := by decide +kernel
theorem dX6_replacedLength_0 : decode cX6_replacedLength 0 = .ok (.iload_n 1, 1) := by decide +kernel
theorem dX6_replacedLength_1 : decode cX6_replacedLength 1 = .ok (.invokestatic 183, 3) := by decide +kernel
theorem dX6_replacedLength_4 : decode cX6_replacedLength 4 = .ok (.aload_n 0, 1) := by decide +kernel
theorem dX6_replacedLength_5 : decode cX6_replacedLength 5 = .ok (.iload_n 1, 1) := by decide +kernel
theorem dX6_replacedLength_6 : decode cX6_replacedLength 6 = .ok (.invokevirtual 194, 3) := by decide +kernel
theorem dX6_replacedLength_9 : decode cX6_replacedLength 9 = .ok (.aload_n 0, 1) := by decide +kernel
theorem dX6_replacedLength_10 : decode cX6_replacedLength 10 = .ok (.getfield 33, 3) := by decide +kernel
theorem dX6_replacedLength_13 : decode cX6_replacedLength 13 = .ok (.getfield 197, 3) := by decide +kernel
theorem dX6_replacedLength_16 : decode cX6_replacedLength 16 = .ok (.ireturn, 1) := by decide +kernel
theorem dX6_replaced_0 : decode cX6_replaced 0 = .ok (.iload_n 1, 1) := by decide +kernel
theorem dX6_replaced_1 : decode cX6_replaced 1 = .ok (.invokestatic 183, 3) := by decide +kernel
theorem dX6_replaced_4 : decode cX6_replaced 4 = .ok (.aload_n 0, 1) := by decide +kernel
theorem dX6_replaced_5 : decode cX6_replaced 5 = .ok (.iload_n 1, 1) := by decide +kernel
theorem dX6_replaced_6 : decode cX6_replaced 6 = .ok (.invokevirtual 194, 3) := by decide +kernel
theorem dX6_replaced_9 : decode cX6_replaced 9 = .ok (.iload_n 2, 1) := by decide +kernel
theorem dX6_replaced_10 : decode cX6_replaced 10 = .ok (.ifCond .lt 14, 3) := by decide +kernel
theorem dX6_replaced_13 : decode cX6_replaced 13 = .ok (.iload_n 2, 1) := by decide +kernel
theorem dX6_replaced_14 : decode cX6_replaced 14 = .ok (.aload_n 0, 1) := by decide +kernel
theorem dX6_replaced_15 : decode cX6_replaced 15 = .ok (.getfield 33, 3) := by decide +kernel
theorem dX6_replaced_18 : decode cX6_replaced 18 = .ok (.getfield 197, 3) := by decide +kernel
theorem dX6_replaced_21 : decode cX6_replaced 21 = .ok (.if_icmp .lt 13, 3) := by decide +kernel
theorem dX6_replaced_24 : decode cX6_replaced 24 = .ok (.new 156, 3) := by decide +kernel
theorem dX6_replaced_27 : decode cX6_replaced 27 = .ok (.dup, 1) := by decide +kernel
theorem dX6_replaced_28 : decode cX6_replaced 28 = .ok (.ldc 198, 2) := by decide +kernel
theorem dX6_replaced_30 : decode cX6_replaced 30 = .ok (.invokespecial 160, 3) := by decide +kernel
theorem dX6_replaced_33 : decode cX6_replaced 33 = .ok (.athrow, 1) := by decide +kernel
theorem dX6_replaced_34 : decode cX6_replaced 34 = .ok (.aload_n 0, 1) := by decide +kernel
theorem dX6_replaced_35 : decode cX6_replaced 35 = .ok (.getfield 33, 3) := by decide +kernel
theorem dX6_replaced_38 : decode cX6_replaced 38 = .ok (.iload_n 2, 1) := by decide +kernel
theorem dX6_replaced_39 : decode cX6_replaced 39 = .ok (.invokevirtual 200, 3) := by decide +kernel
theorem dX6_replaced_42 : decode cX6_replaced 42 = .ok (.ireturn, 1) := by decide +kernel
theorem dX6_certain_0 : decode cX6_certain 0 = .ok (.iconst 0, 1) := by decide +kernel
theorem dX6_certain_1 : decode cX6_certain 1 = .ok (.istore_n 1, 1) := by decide +kernel
theorem dX6_certain_2 : decode cX6_certain 2 = .ok (.iconst 0, 1) := by decide +kernel
theorem dX6_certain_3 : decode cX6_certain 3 = .ok (.istore_n 2, 1) := by decide +kernel
theorem dX6_certain_4 : decode cX6_certain 4 = .ok (.iconst 0, 1) := by decide +kernel
theorem dX6_certain_5 : decode cX6_certain 5 = .ok (.istore_n 3, 1) := by decide +kernel
theorem dX6_certain_6 : decode cX6_certain 6 = .ok (.iload_n 3, 1) := by decide +kernel
theorem dX6_certain_7 : decode cX6_certain 7 = .ok (.aload_n 0, 1) := by decide +kernel
theorem dX6_certain_8 : decode cX6_certain 8 = .ok (.getfield 19, 3) := by decide +kernel
theorem dX6_certain_11 : decode cX6_certain 11 = .ok (.getfield 143, 3) := by decide +kernel
theorem dX6_certain_14 : decode cX6_certain 14 = .ok (.if_icmp .ge 71, 3) := by decide +kernel
theorem dX6_certain_17 : decode cX6_certain 17 = .ok (.iload_n 3, 1) := by decide +kernel
theorem dX6_certain_18 : decode cX6_certain 18 = .ok (.iload_n 2, 1) := by decide +kernel
theorem dX6_certain_19 : decode cX6_certain 19 = .ok (.if_icmp .lt 60, 3) := by decide +kernel
theorem dX6_certain_22 : decode cX6_certain 22 = .ok (.aload_n 0, 1) := by decide +kernel
theorem dX6_certain_23 : decode cX6_certain 23 = .ok (.iload_n 3, 1) := by decide +kernel
theorem dX6_certain_24 : decode cX6_certain 24 = .ok (.invokevirtual 201, 3) := by decide +kernel
theorem dX6_certain_27 : decode cX6_certain 27 = .ok (.ifCond .eq 5, 3) := by decide +kernel
theorem dX6_certain_30 : decode cX6_certain 30 = .ok (.iload_n 1, 1) := by decide +kernel
theorem dX6_certain_31 : decode cX6_certain 31 = .ok (.ireturn, 1) := by decide +kernel
theorem dX6_certain_32 : decode cX6_certain 32 = .ok (.aload_n 0, 1) := by decide +kernel
theorem dX6_certain_33 : decode cX6_certain 33 = .ok (.getfield 10, 3) := by decide +kernel
theorem dX6_certain_36 : decode cX6_certain 36 = .ok (.aload_n 0, 1) := by decide +kernel
theorem dX6_certain_37 : decode cX6_certain 37 = .ok (.getfield 19, 3) := by decide +kernel
theorem dX6_certain_40 : decode cX6_certain 40 = .ok (.iload_n 3, 1) := by decide +kernel
theorem dX6_certain_41 : decode cX6_certain 41 = .ok (.invokevirtual 171, 3) := by decide +kernel
theorem dX6_certain_44 : decode cX6_certain 44 = .ok (.astore 4, 2) := by decide +kernel
theorem dX6_certain_46 : decode cX6_certain 46 = .ok (.aload 4, 2) := by decide +kernel
theorem dX6_certain_48 : decode cX6_certain 48 = .ok (.ifnonnull 9, 3) := by decide +kernel
theorem dX6_certain_51 : decode cX6_certain 51 = .ok (.iinc 1 1, 3) := by decide +kernel
theorem dX6_certain_54 : decode cX6_certain 54 = .ok (.goto 25, 3) := by decide +kernel
theorem dX6_certain_57 : decode cX6_certain 57 = .ok (.iload_n 1, 1) := by decide +kernel
theorem dX6_certain_58 : decode cX6_certain 58 = .ok (.aload 4, 2) := by decide +kernel
theorem dX6_certain_60 : decode cX6_certain 60 = .ok (.getfield 90, 3) := by decide +kernel
theorem dX6_certain_63 : decode cX6_certain 63 = .ok (.getfield 54, 3) := by decide +kernel
theorem dX6_certain_66 : decode cX6_certain 66 = .ok (.iadd, 1) := by decide +kernel
theorem dX6_certain_67 : decode cX6_certain 67 = .ok (.istore_n 1, 1) := by decide +kernel
theorem dX6_certain_68 : decode cX6_certain 68 = .ok (.iload_n 3, 1) := by decide +kernel
theorem dX6_certain_69 : decode cX6_certain 69 = .ok (.aload 4, 2) := by decide +kernel
theorem dX6_certain_71 : decode cX6_certain 71 = .ok (.getfield 102, 3) := by decide +kernel
theorem dX6_certain_74 : decode cX6_certain 74 = .ok (.getfield 54, 3) := by decide +kernel
theorem dX6_certain_77 : decode cX6_certain 77 = .ok (.iadd, 1) := by decide +kernel
theorem dX6_certain_78 : decode cX6_certain 78 = .ok (.istore_n 2, 1) := by decide +kernel
theorem dX6_certain_79 : decode cX6_certain 79 = .ok (.iinc 3 1, 3) := by decide +kernel
theorem dX6_certain_82 : decode cX6_certain 82 = .ok (.goto (-76), 3) := by decide +kernel
theorem dX6_certain_85 : decode cX6_certain 85 = .ok (.iload_n 1, 1) := by decide +kernel
theorem dX6_certain_86 : decode cX6_certain 86 = .ok (.ireturn, 1) := by decide +kernel
theorem dX6_needLetter_0 : decode cX6_needLetter 0 = .ok (.iload_n 0, 1) := by decide +kernel
theorem dX6_needLetter_1 : decode cX6_needLetter 1 = .ok (.bipush 97, 2) := by decide +kernel
theorem dX6_needLetter_3 : decode cX6_needLetter 3 = .ok (.if_icmp .lt 9, 3) := by decide +kernel
theorem dX6_needLetter_6 : decode cX6_needLetter 6 = .ok (.iload_n 0, 1) := by decide +kernel
theorem dX6_needLetter_7 : decode cX6_needLetter 7 = .ok (.bipush 122, 2) := by decide +kernel
theorem dX6_needLetter_9 : decode cX6_needLetter 9 = .ok (.if_icmp .le 13, 3) := by decide +kernel
theorem dX6_needLetter_12 : decode cX6_needLetter 12 = .ok (.new 205, 3) := by decide +kernel
theorem dX6_needLetter_15 : decode cX6_needLetter 15 = .ok (.dup, 1) := by decide +kernel
theorem dX6_needLetter_16 : decode cX6_needLetter 16 = .ok (.ldc 207, 2) := by decide +kernel
theorem dX6_needLetter_18 : decode cX6_needLetter 18 = .ok (.invokespecial 209, 3) := by decide +kernel
theorem dX6_needLetter_21 : decode cX6_needLetter 21 = .ok (.athrow, 1) := by decide +kernel
theorem dX6_needLetter_22 : decode cX6_needLetter 22 = .ok (.return_, 1) := by decide +kernel
theorem dX6_needRule_0 : decode cX6_needRule 0 = .ok (.iload_n 0, 1) := by decide +kernel
theorem dX6_needRule_1 : decode cX6_needRule 1 = .ok (.ifCond .lt 8, 3) := by decide +kernel
theorem dX6_needRule_4 : decode cX6_needRule 4 = .ok (.iload_n 0, 1) := by decide +kernel
theorem dX6_needRule_5 : decode cX6_needRule 5 = .ok (.iconst 2, 1) := by decide +kernel
theorem dX6_needRule_6 : decode cX6_needRule 6 = .ok (.if_icmp .le 13, 3) := by decide +kernel
theorem dX6_needRule_9 : decode cX6_needRule 9 = .ok (.new 205, 3) := by decide +kernel
theorem dX6_needRule_12 : decode cX6_needRule 12 = .ok (.dup, 1) := by decide +kernel
theorem dX6_needRule_13 : decode cX6_needRule 13 = .ok (.ldc 210, 2) := by decide +kernel
theorem dX6_needRule_15 : decode cX6_needRule 15 = .ok (.invokespecial 209, 3) := by decide +kernel
theorem dX6_needRule_18 : decode cX6_needRule 18 = .ok (.athrow, 1) := by decide +kernel
theorem dX6_needRule_19 : decode cX6_needRule 19 = .ok (.return_, 1) := by decide +kernel
theorem dX6_need_0 : decode cX6_need 0 = .ok (.aload_n 0, 1) := by decide +kernel
theorem dX6_need_1 : decode cX6_need 1 = .ok (.getfield 10, 3) := by decide +kernel
theorem dX6_need_4 : decode cX6_need 4 = .ok (.iload_n 1, 1) := by decide +kernel
theorem dX6_need_5 : decode cX6_need 5 = .ok (.invokevirtual 212, 3) := by decide +kernel
theorem dX6_need_8 : decode cX6_need 8 = .ok (.astore_n 2, 1) := by decide +kernel
theorem dX6_need_9 : decode cX6_need 9 = .ok (.aload_n 2, 1) := by decide +kernel
theorem dX6_need_10 : decode cX6_need 10 = .ok (.ifnonnull 13, 3) := by decide +kernel
theorem dX6_need_13 : decode cX6_need 13 = .ok (.new 215, 3) := by decide +kernel
theorem dX6_need_16 : decode cX6_need 16 = .ok (.dup, 1) := by decide +kernel
theorem dX6_need_17 : decode cX6_need 17 = .ok (.ldc 217, 2) := by decide +kernel
theorem dX6_need_19 : decode cX6_need 19 = .ok (.invokespecial 219, 3) := by decide +kernel
theorem dX6_need_22 : decode cX6_need 22 = .ok (.athrow, 1) := by decide +kernel
theorem dX6_need_23 : decode cX6_need 23 = .ok (.aload_n 2, 1) := by decide +kernel
theorem dX6_need_24 : decode cX6_need 24 = .ok (.areturn, 1) := by decide +kernel
theorem dX6_needRoom_0 : decode cX6_needRoom 0 = .ok (.aload_n 0, 1) := by decide +kernel
theorem dX6_needRoom_1 : decode cX6_needRoom 1 = .ok (.getfield 19, 3) := by decide +kernel
theorem dX6_needRoom_4 : decode cX6_needRoom 4 = .ok (.getfield 143, 3) := by decide +kernel
theorem dX6_needRoom_7 : decode cX6_needRoom 7 = .ok (.iload_n 1, 1) := by decide +kernel
theorem dX6_needRoom_8 : decode cX6_needRoom 8 = .ok (.iadd, 1) := by decide +kernel
theorem dX6_needRoom_9 : decode cX6_needRoom 9 = .ok (.sipush 200, 3) := by decide +kernel
theorem dX6_needRoom_12 : decode cX6_needRoom 12 = .ok (.if_icmp .le 13, 3) := by decide +kernel
theorem dX6_needRoom_15 : decode cX6_needRoom 15 = .ok (.new 57, 3) := by decide +kernel
theorem dX6_needRoom_18 : decode cX6_needRoom 18 = .ok (.dup, 1) := by decide +kernel
theorem dX6_needRoom_19 : decode cX6_needRoom 19 = .ok (.ldc 220, 2) := by decide +kernel
theorem dX6_needRoom_21 : decode cX6_needRoom 21 = .ok (.invokespecial 61, 3) := by decide +kernel
theorem dX6_needRoom_24 : decode cX6_needRoom 24 = .ok (.athrow, 1) := by decide +kernel
theorem dX6_needRoom_25 : decode cX6_needRoom 25 = .ok (.return_, 1) := by decide +kernel
theorem dX6_take_0 : decode cX6_take 0 = .ok (.aload_n 0, 1) := by decide +kernel
theorem dX6_take_1 : decode cX6_take 1 = .ok (.getfield 19, 3) := by decide +kernel
theorem dX6_take_4 : decode cX6_take 4 = .ok (.iload_n 1, 1) := by decide +kernel
theorem dX6_take_5 : decode cX6_take 5 = .ok (.invokevirtual 222, 3) := by decide +kernel
theorem dX6_take_8 : decode cX6_take 8 = .ok (.aload_n 0, 1) := by decide +kernel
theorem dX6_take_9 : decode cX6_take 9 = .ok (.getfield 10, 3) := by decide +kernel
theorem dX6_take_12 : decode cX6_take 12 = .ok (.aload_n 0, 1) := by decide +kernel
theorem dX6_take_13 : decode cX6_take 13 = .ok (.getfield 19, 3) := by decide +kernel
theorem dX6_take_16 : decode cX6_take 16 = .ok (.aload_n 0, 1) := by decide +kernel
theorem dX6_take_17 : decode cX6_take 17 = .ok (.getfield 19, 3) := by decide +kernel
theorem dX6_take_20 : decode cX6_take 20 = .ok (.getfield 143, 3) := by decide +kernel
theorem dX6_take_23 : decode cX6_take 23 = .ok (.invokevirtual 148, 3) := by decide +kernel
theorem dX6_take_26 : decode cX6_take 26 = .ok (.istore_n 2, 1) := by decide +kernel
theorem dX6_take_27 : decode cX6_take 27 = .ok (.aload_n 0, 1) := by decide +kernel
theorem dX6_take_28 : decode cX6_take 28 = .ok (.dup, 1) := by decide +kernel
theorem dX6_take_29 : decode cX6_take 29 = .ok (.getfield 46, 3) := by decide +kernel
theorem dX6_take_32 : decode cX6_take 32 = .ok (.iload_n 2, 1) := by decide +kernel
theorem dX6_take_33 : decode cX6_take 33 = .ok (.iadd, 1) := by decide +kernel
theorem dX6_take_34 : decode cX6_take 34 = .ok (.putfield 46, 3) := by decide +kernel
theorem dX6_take_37 : decode cX6_take 37 = .ok (.iload_n 2, 1) := by decide +kernel
theorem dX6_take_38 : decode cX6_take 38 = .ok (.ireturn, 1) := by decide +kernel
theorem dX6_chooseOne_0 : decode cX6_chooseOne 0 = .ok (.iload_n 1, 1) := by decide +kernel
theorem dX6_chooseOne_1 : decode cX6_chooseOne 1 = .ok (.invokestatic 183, 3) := by decide +kernel
theorem dX6_chooseOne_4 : decode cX6_chooseOne 4 = .ok (.aload_n 0, 1) := by decide +kernel
theorem dX6_chooseOne_5 : decode cX6_chooseOne 5 = .ok (.getfield 26, 3) := by decide +kernel
theorem dX6_chooseOne_8 : decode cX6_chooseOne 8 = .ok (.iload_n 1, 1) := by decide +kernel
theorem dX6_chooseOne_9 : decode cX6_chooseOne 9 = .ok (.aload_n 0, 1) := by decide +kernel
theorem dX6_chooseOne_10 : decode cX6_chooseOne 10 = .ok (.getfield 10, 3) := by decide +kernel
theorem dX6_chooseOne_13 : decode cX6_chooseOne 13 = .ok (.aload_n 0, 1) := by decide +kernel
theorem dX6_chooseOne_14 : decode cX6_chooseOne 14 = .ok (.getfield 19, 3) := by decide +kernel
theorem dX6_chooseOne_17 : decode cX6_chooseOne 17 = .ok (.invokevirtual 177, 3) := by decide +kernel
theorem dX6_chooseOne_20 : decode cX6_chooseOne 20 = .ok (.aload_n 0, 1) := by decide +kernel
theorem dX6_chooseOne_21 : decode cX6_chooseOne 21 = .ok (.getfield 26, 3) := by decide +kernel
theorem dX6_chooseOne_24 : decode cX6_chooseOne 24 = .ok (.iload_n 2, 1) := by decide +kernel
theorem dX6_chooseOne_25 : decode cX6_chooseOne 25 = .ok (.invokevirtual 224, 3) := by decide +kernel
theorem dX6_chooseOne_28 : decode cX6_chooseOne 28 = .ok (.astore_n 3, 1) := by decide +kernel
theorem dX6_chooseOne_29 : decode cX6_chooseOne 29 = .ok (.aload_n 3, 1) := by decide +kernel
theorem dX6_chooseOne_30 : decode cX6_chooseOne 30 = .ok (.ifnonnull 13, 3) := by decide +kernel
theorem dX6_chooseOne_33 : decode cX6_chooseOne 33 = .ok (.new 156, 3) := by decide +kernel
theorem dX6_chooseOne_36 : decode cX6_chooseOne 36 = .ok (.dup, 1) := by decide +kernel
theorem dX6_chooseOne_37 : decode cX6_chooseOne 37 = .ok (.ldc 158, 2) := by decide +kernel
theorem dX6_chooseOne_39 : decode cX6_chooseOne 39 = .ok (.invokespecial 160, 3) := by decide +kernel
theorem dX6_chooseOne_42 : decode cX6_chooseOne 42 = .ok (.athrow, 1) := by decide +kernel
theorem dX6_chooseOne_43 : decode cX6_chooseOne 43 = .ok (.aload_n 3, 1) := by decide +kernel
theorem dX6_chooseOne_44 : decode cX6_chooseOne 44 = .ok (.areturn, 1) := by decide +kernel
theorem dX6_rewrite_0 : decode cX6_rewrite 0 = .ok (.aload_n 0, 1) := by decide +kernel
theorem dX6_rewrite_1 : decode cX6_rewrite 1 = .ok (.getfield 26, 3) := by decide +kernel
theorem dX6_rewrite_4 : decode cX6_rewrite 4 = .ok (.iload_n 1, 1) := by decide +kernel
theorem dX6_rewrite_5 : decode cX6_rewrite 5 = .ok (.aload_n 0, 1) := by decide +kernel
theorem dX6_rewrite_6 : decode cX6_rewrite 6 = .ok (.getfield 10, 3) := by decide +kernel
theorem dX6_rewrite_9 : decode cX6_rewrite 9 = .ok (.aload_n 0, 1) := by decide +kernel
theorem dX6_rewrite_10 : decode cX6_rewrite 10 = .ok (.getfield 19, 3) := by decide +kernel
theorem dX6_rewrite_13 : decode cX6_rewrite 13 = .ok (.invokevirtual 177, 3) := by decide +kernel
theorem dX6_rewrite_16 : decode cX6_rewrite 16 = .ok (.aload_n 0, 1) := by decide +kernel
theorem dX6_rewrite_17 : decode cX6_rewrite 17 = .ok (.getfield 33, 3) := by decide +kernel
theorem dX6_rewrite_20 : decode cX6_rewrite 20 = .ok (.iconst 0, 1) := by decide +kernel
theorem dX6_rewrite_21 : decode cX6_rewrite 21 = .ok (.putfield 197, 3) := by decide +kernel
theorem dX6_rewrite_24 : decode cX6_rewrite 24 = .ok (.iconst 0, 1) := by decide +kernel
theorem dX6_rewrite_25 : decode cX6_rewrite 25 = .ok (.istore_n 2, 1) := by decide +kernel
theorem dX6_rewrite_26 : decode cX6_rewrite 26 = .ok (.iconst 0, 1) := by decide +kernel
theorem dX6_rewrite_27 : decode cX6_rewrite 27 = .ok (.istore_n 3, 1) := by decide +kernel
theorem dX6_rewrite_28 : decode cX6_rewrite 28 = .ok (.iload_n 3, 1) := by decide +kernel
theorem dX6_rewrite_29 : decode cX6_rewrite 29 = .ok (.aload_n 0, 1) := by decide +kernel
theorem dX6_rewrite_30 : decode cX6_rewrite 30 = .ok (.getfield 26, 3) := by decide +kernel
theorem dX6_rewrite_33 : decode cX6_rewrite 33 = .ok (.getfield 181, 3) := by decide +kernel
theorem dX6_rewrite_36 : decode cX6_rewrite 36 = .ok (.if_icmp .ge 74, 3) := by decide +kernel
theorem dX6_rewrite_39 : decode cX6_rewrite 39 = .ok (.aload_n 0, 1) := by decide +kernel
theorem dX6_rewrite_40 : decode cX6_rewrite 40 = .ok (.getfield 26, 3) := by decide +kernel
theorem dX6_rewrite_43 : decode cX6_rewrite 43 = .ok (.iload_n 3, 1) := by decide +kernel
theorem dX6_rewrite_44 : decode cX6_rewrite 44 = .ok (.invokevirtual 224, 3) := by decide +kernel
theorem dX6_rewrite_47 : decode cX6_rewrite 47 = .ok (.astore 4, 2) := by decide +kernel
theorem dX6_rewrite_49 : decode cX6_rewrite 49 = .ok (.aload 4, 2) := by decide +kernel
theorem dX6_rewrite_51 : decode cX6_rewrite 51 = .ok (.ifnull 53, 3) := by decide +kernel
theorem dX6_rewrite_54 : decode cX6_rewrite 54 = .ok (.aload_n 0, 1) := by decide +kernel
theorem dX6_rewrite_55 : decode cX6_rewrite 55 = .ok (.getfield 33, 3) := by decide +kernel
theorem dX6_rewrite_58 : decode cX6_rewrite 58 = .ok (.aload_n 0, 1) := by decide +kernel
theorem dX6_rewrite_59 : decode cX6_rewrite 59 = .ok (.getfield 19, 3) := by decide +kernel
theorem dX6_rewrite_62 : decode cX6_rewrite 62 = .ok (.iload_n 2, 1) := by decide +kernel
theorem dX6_rewrite_63 : decode cX6_rewrite 63 = .ok (.aload_n 0, 1) := by decide +kernel
theorem dX6_rewrite_64 : decode cX6_rewrite 64 = .ok (.getfield 26, 3) := by decide +kernel
theorem dX6_rewrite_67 : decode cX6_rewrite 67 = .ok (.iload_n 3, 1) := by decide +kernel
theorem dX6_rewrite_68 : decode cX6_rewrite 68 = .ok (.invokevirtual 190, 3) := by decide +kernel
theorem dX6_rewrite_71 : decode cX6_rewrite 71 = .ok (.invokevirtual 227, 3) := by decide +kernel
theorem dX6_rewrite_74 : decode cX6_rewrite 74 = .ok (.aload_n 0, 1) := by decide +kernel
theorem dX6_rewrite_75 : decode cX6_rewrite 75 = .ok (.getfield 33, 3) := by decide +kernel
theorem dX6_rewrite_78 : decode cX6_rewrite 78 = .ok (.aload 4, 2) := by decide +kernel
theorem dX6_rewrite_80 : decode cX6_rewrite 80 = .ok (.getfield 90, 3) := by decide +kernel
theorem dX6_rewrite_83 : decode cX6_rewrite 83 = .ok (.invokevirtual 231, 3) := by decide +kernel
theorem dX6_rewrite_86 : decode cX6_rewrite 86 = .ok (.aload_n 0, 1) := by decide +kernel
theorem dX6_rewrite_87 : decode cX6_rewrite 87 = .ok (.getfield 26, 3) := by decide +kernel
theorem dX6_rewrite_90 : decode cX6_rewrite 90 = .ok (.iload_n 3, 1) := by decide +kernel
theorem dX6_rewrite_91 : decode cX6_rewrite 91 = .ok (.invokevirtual 190, 3) := by decide +kernel
theorem dX6_rewrite_94 : decode cX6_rewrite 94 = .ok (.aload 4, 2) := by decide +kernel
theorem dX6_rewrite_96 : decode cX6_rewrite 96 = .ok (.getfield 102, 3) := by decide +kernel
theorem dX6_rewrite_99 : decode cX6_rewrite 99 = .ok (.getfield 54, 3) := by decide +kernel
theorem dX6_rewrite_102 : decode cX6_rewrite 102 = .ok (.iadd, 1) := by decide +kernel
theorem dX6_rewrite_103 : decode cX6_rewrite 103 = .ok (.istore_n 2, 1) := by decide +kernel
theorem dX6_rewrite_104 : decode cX6_rewrite 104 = .ok (.iinc 3 1, 3) := by decide +kernel
theorem dX6_rewrite_107 : decode cX6_rewrite 107 = .ok (.goto (-79), 3) := by decide +kernel
theorem dX6_rewrite_110 : decode cX6_rewrite 110 = .ok (.aload_n 0, 1) := by decide +kernel
theorem dX6_rewrite_111 : decode cX6_rewrite 111 = .ok (.getfield 33, 3) := by decide +kernel
theorem dX6_rewrite_114 : decode cX6_rewrite 114 = .ok (.aload_n 0, 1) := by decide +kernel
theorem dX6_rewrite_115 : decode cX6_rewrite 115 = .ok (.getfield 19, 3) := by decide +kernel
theorem dX6_rewrite_118 : decode cX6_rewrite 118 = .ok (.iload_n 2, 1) := by decide +kernel
theorem dX6_rewrite_119 : decode cX6_rewrite 119 = .ok (.aload_n 0, 1) := by decide +kernel
theorem dX6_rewrite_120 : decode cX6_rewrite 120 = .ok (.getfield 19, 3) := by decide +kernel
theorem dX6_rewrite_123 : decode cX6_rewrite 123 = .ok (.getfield 143, 3) := by decide +kernel
theorem dX6_rewrite_126 : decode cX6_rewrite 126 = .ok (.invokevirtual 227, 3) := by decide +kernel
theorem dX6_rewrite_129 : decode cX6_rewrite 129 = .ok (.return_, 1) := by decide +kernel
theorem dX6_mayGrowFrom_0 : decode cX6_mayGrowFrom 0 = .ok (.aload_n 0, 1) := by decide +kernel
theorem dX6_mayGrowFrom_1 : decode cX6_mayGrowFrom 1 = .ok (.getfield 19, 3) := by decide +kernel
theorem dX6_mayGrowFrom_4 : decode cX6_mayGrowFrom 4 = .ok (.getfield 143, 3) := by decide +kernel
theorem dX6_mayGrowFrom_7 : decode cX6_mayGrowFrom 7 = .ok (.iload_n 1, 1) := by decide +kernel
theorem dX6_mayGrowFrom_8 : decode cX6_mayGrowFrom 8 = .ok (.isub, 1) := by decide +kernel
theorem dX6_mayGrowFrom_9 : decode cX6_mayGrowFrom 9 = .ok (.istore_n 2, 1) := by decide +kernel
theorem dX6_mayGrowFrom_10 : decode cX6_mayGrowFrom 10 = .ok (.iload_n 2, 1) := by decide +kernel
theorem dX6_mayGrowFrom_11 : decode cX6_mayGrowFrom 11 = .ok (.ifCond .le 45, 3) := by decide +kernel
theorem dX6_mayGrowFrom_14 : decode cX6_mayGrowFrom 14 = .ok (.iload_n 2, 1) := by decide +kernel
theorem dX6_mayGrowFrom_15 : decode cX6_mayGrowFrom 15 = .ok (.bipush 8, 2) := by decide +kernel
theorem dX6_mayGrowFrom_17 : decode cX6_mayGrowFrom 17 = .ok (.if_icmp .ge 39, 3) := by decide +kernel
theorem dX6_mayGrowFrom_20 : decode cX6_mayGrowFrom 20 = .ok (.aload_n 0, 1) := by decide +kernel
theorem dX6_mayGrowFrom_21 : decode cX6_mayGrowFrom 21 = .ok (.getfield 10, 3) := by decide +kernel
theorem dX6_mayGrowFrom_24 : decode cX6_mayGrowFrom 24 = .ok (.aload_n 0, 1) := by decide +kernel
theorem dX6_mayGrowFrom_25 : decode cX6_mayGrowFrom 25 = .ok (.getfield 19, 3) := by decide +kernel
theorem dX6_mayGrowFrom_28 : decode cX6_mayGrowFrom 28 = .ok (.aload_n 0, 1) := by decide +kernel
theorem dX6_mayGrowFrom_29 : decode cX6_mayGrowFrom 29 = .ok (.getfield 19, 3) := by decide +kernel
theorem dX6_mayGrowFrom_32 : decode cX6_mayGrowFrom 32 = .ok (.getfield 143, 3) := by decide +kernel
theorem dX6_mayGrowFrom_35 : decode cX6_mayGrowFrom 35 = .ok (.invokevirtual 144, 3) := by decide +kernel
theorem dX6_mayGrowFrom_38 : decode cX6_mayGrowFrom 38 = .ok (.iload_n 2, 1) := by decide +kernel
theorem dX6_mayGrowFrom_39 : decode cX6_mayGrowFrom 39 = .ok (.invokestatic 123, 3) := by decide +kernel
theorem dX6_mayGrowFrom_42 : decode cX6_mayGrowFrom 42 = .ok (.iload_n 2, 1) := by decide +kernel
theorem dX6_mayGrowFrom_43 : decode cX6_mayGrowFrom 43 = .ok (.iload_n 2, 1) := by decide +kernel
theorem dX6_mayGrowFrom_44 : decode cX6_mayGrowFrom 44 = .ok (.iconst 1, 1) := by decide +kernel
theorem dX6_mayGrowFrom_45 : decode cX6_mayGrowFrom 45 = .ok (.iadd, 1) := by decide +kernel
theorem dX6_mayGrowFrom_46 : decode cX6_mayGrowFrom 46 = .ok (.invokevirtual 235, 3) := by decide +kernel
theorem dX6_mayGrowFrom_49 : decode cX6_mayGrowFrom 49 = .ok (.ifCond .eq 7, 3) := by decide +kernel
theorem dX6_mayGrowFrom_52 : decode cX6_mayGrowFrom 52 = .ok (.iconst 1, 1) := by decide +kernel
theorem dX6_mayGrowFrom_53 : decode cX6_mayGrowFrom 53 = .ok (.goto 4, 3) := by decide +kernel
theorem dX6_mayGrowFrom_56 : decode cX6_mayGrowFrom 56 = .ok (.iconst 0, 1) := by decide +kernel
theorem dX6_mayGrowFrom_57 : decode cX6_mayGrowFrom 57 = .ok (.ireturn, 1) := by decide +kernel
theorem dX6_tail_0 : decode cX6_tail 0 = .ok (.lload_n 0, 1) := by decide +kernel
theorem dX6_tail_1 : decode cX6_tail 1 = .ok (.lconst 1, 1) := by decide +kernel
theorem dX6_tail_2 : decode cX6_tail 2 = .ok (.iconst 5, 1) := by decide +kernel
theorem dX6_tail_3 : decode cX6_tail 3 = .ok (.iload_n 2, 1) := by decide +kernel
theorem dX6_tail_4 : decode cX6_tail 4 = .ok (.imul, 1) := by decide +kernel
theorem dX6_tail_5 : decode cX6_tail 5 = .ok (.lshl, 1) := by decide +kernel
theorem dX6_tail_6 : decode cX6_tail 6 = .ok (.lconst 1, 1) := by decide +kernel
theorem dX6_tail_7 : decode cX6_tail 7 = .ok (.lsub, 1) := by decide +kernel
theorem dX6_tail_8 : decode cX6_tail 8 = .ok (.land, 1) := by decide +kernel
theorem dX6_tail_9 : decode cX6_tail 9 = .ok (.lreturn, 1) := by decide +kernel
theorem dX6_codeOf_0 : decode cX6_codeOf 0 = .ok (.iload_n 0, 1) := by decide +kernel
theorem dX6_codeOf_1 : decode cX6_codeOf 1 = .ok (.bipush 97, 2) := by decide +kernel
theorem dX6_codeOf_3 : decode cX6_codeOf 3 = .ok (.isub, 1) := by decide +kernel
theorem dX6_codeOf_4 : decode cX6_codeOf 4 = .ok (.iconst 1, 1) := by decide +kernel
theorem dX6_codeOf_5 : decode cX6_codeOf 5 = .ok (.iadd, 1) := by decide +kernel
theorem dX6_codeOf_6 : decode cX6_codeOf 6 = .ok (.i2l, 1) := by decide +kernel
theorem dX6_codeOf_7 : decode cX6_codeOf 7 = .ok (.lreturn, 1) := by decide +kernel
theorem dX6_letterOf_0 : decode cX6_letterOf 0 = .ok (.ldc2_w 239, 3) := by decide +kernel
theorem dX6_letterOf_3 : decode cX6_letterOf 3 = .ok (.lload_n 0, 1) := by decide +kernel
theorem dX6_letterOf_4 : decode cX6_letterOf 4 = .ok (.ldc2_w 241, 3) := by decide +kernel
theorem dX6_letterOf_7 : decode cX6_letterOf 7 = .ok (.land, 1) := by decide +kernel
theorem dX6_letterOf_8 : decode cX6_letterOf 8 = .ok (.ladd, 1) := by decide +kernel
theorem dX6_letterOf_9 : decode cX6_letterOf 9 = .ok (.l2i, 1) := by decide +kernel
theorem dX6_letterOf_10 : decode cX6_letterOf 10 = .ok (.i2c, 1) := by decide +kernel
theorem dX6_letterOf_11 : decode cX6_letterOf 11 = .ok (.ireturn, 1) := by decide +kernel
theorem dJ9_max_7cf53_0 : decode cJ9_max_7cf53 0 = .ok (.iload_n 0, 1) := by decide +kernel
theorem dJ9_max_7cf53_1 : decode cJ9_max_7cf53 1 = .ok (.iload_n 1, 1) := by decide +kernel
theorem dJ9_max_7cf53_2 : decode cJ9_max_7cf53 2 = .ok (.if_icmp .lt 7, 3) := by decide +kernel
theorem dJ9_max_7cf53_5 : decode cJ9_max_7cf53 5 = .ok (.iload_n 0, 1) := by decide +kernel
theorem dJ9_max_7cf53_6 : decode cJ9_max_7cf53 6 = .ok (.goto 4, 3) := by decide +kernel
theorem dJ9_max_7cf53_9 : decode cJ9_max_7cf53 9 = .ok (.iload_n 1, 1) := by decide +kernel
theorem dJ9_max_7cf53_10 : decode cJ9_max_7cf53 10 = .ok (.ireturn, 1) := by decide +kernel
theorem dJ9_min_7cf53_0 : decode cJ9_min_7cf53 0 = .ok (.iload_n 0, 1) := by decide +kernel
theorem dJ9_min_7cf53_1 : decode cJ9_min_7cf53 1 = .ok (.iload_n 1, 1) := by decide +kernel
theorem dJ9_min_7cf53_2 : decode cJ9_min_7cf53 2 = .ok (.if_icmp .gt 7, 3) := by decide +kernel
theorem dJ9_min_7cf53_5 : decode cJ9_min_7cf53 5 = .ok (.iload_n 0, 1) := by decide +kernel
theorem dJ9_min_7cf53_6 : decode cJ9_min_7cf53 6 = .ok (.goto 4, 3) := by decide +kernel
theorem dJ9_min_7cf53_9 : decode cJ9_min_7cf53 9 = .ok (.iload_n 1, 1) := by decide +kernel
theorem dJ9_min_7cf53_10 : decode cJ9_min_7cf53 10 = .ok (.ireturn, 1) := by decide +kernel
theorem dL_draw_0 : decode cL_draw 0 = .ok (.iload_n 1, 1) := by decide +kernel
theorem dL_draw_1 : decode cL_draw 1 = .ok (.aload_n 0, 1) := by decide +kernel
theorem dL_draw_2 : decode cL_draw 2 = .ok (.arraylength, 1) := by decide +kernel
theorem dL_draw_3 : decode cL_draw 3 = .ok (.if_icmp .ge 12, 3) := by decide +kernel
theorem dL_draw_6 : decode cL_draw 6 = .ok (.aload_n 0, 1) := by decide +kernel
theorem dL_draw_7 : decode cL_draw 7 = .ok (.iload_n 1, 1) := by decide +kernel
theorem dL_draw_8 : decode cL_draw 8 = .ok (.iaload, 1) := by decide +kernel
theorem dL_draw_9 : decode cL_draw 9 = .ok (.ldc 7, 2) := by decide +kernel
theorem dL_draw_11 : decode cL_draw 11 = .ok (.iand, 1) := by decide +kernel
theorem dL_draw_12 : decode cL_draw 12 = .ok (.goto 12, 3) := by decide +kernel
theorem dL_draw_15 : decode cL_draw 15 = .ok (.ldc 8, 2) := by decide +kernel
theorem dL_draw_17 : decode cL_draw 17 = .ok (.iload_n 1, 1) := by decide +kernel
theorem dL_draw_18 : decode cL_draw 18 = .ok (.iconst 2, 1) := by decide +kernel
theorem dL_draw_19 : decode cL_draw 19 = .ok (.iadd, 1) := by decide +kernel
theorem dL_draw_20 : decode cL_draw 20 = .ok (.imul, 1) := by decide +kernel
theorem dL_draw_21 : decode cL_draw 21 = .ok (.ldc 9, 2) := by decide +kernel
theorem dL_draw_23 : decode cL_draw 23 = .ok (.irem, 1) := by decide +kernel
theorem dL_draw_24 : decode cL_draw 24 = .ok (.ireturn, 1) := by decide +kernel
theorem dL_letter_0 : decode cL_letter 0 = .ok (.bipush 97, 2) := by decide +kernel
theorem dL_letter_2 : decode cL_letter 2 = .ok (.iload_n 0, 1) := by decide +kernel
theorem dL_letter_3 : decode cL_letter 3 = .ok (.iload_n 0, 1) := by decide +kernel
theorem dL_letter_4 : decode cL_letter 4 = .ok (.bipush 7, 2) := by decide +kernel
theorem dL_letter_6 : decode cL_letter 6 = .ok (.irem, 1) := by decide +kernel
theorem dL_letter_7 : decode cL_letter 7 = .ok (.ifCond .ne 8, 3) := by decide +kernel
theorem dL_letter_10 : decode cL_letter 10 = .ok (.bipush 26, 2) := by decide +kernel
theorem dL_letter_12 : decode cL_letter 12 = .ok (.goto 4, 3) := by decide +kernel
theorem dL_letter_15 : decode cL_letter 15 = .ok (.iconst 2, 1) := by decide +kernel
theorem dL_letter_16 : decode cL_letter 16 = .ok (.irem, 1) := by decide +kernel
theorem dL_letter_17 : decode cL_letter 17 = .ok (.iadd, 1) := by decide +kernel
theorem dL_letter_18 : decode cL_letter 18 = .ok (.i2c, 1) := by decide +kernel
theorem dL_letter_19 : decode cL_letter 19 = .ok (.ireturn, 1) := by decide +kernel
theorem dL_step_0 : decode cL_step 0 = .ok (.aload_n 1, 1) := by decide +kernel
theorem dL_step_1 : decode cL_step 1 = .ok (.bipush 40, 2) := by decide +kernel
theorem dL_step_3 : decode cL_step 3 = .ok (.iaload, 1) := by decide +kernel
theorem dL_step_4 : decode cL_step 4 = .ok (.ifCond .ne 7, 3) := by decide +kernel
theorem dL_step_7 : decode cL_step 7 = .ok (.iconst 0, 1) := by decide +kernel
theorem dL_step_8 : decode cL_step 8 = .ok (.goto 9, 3) := by decide +kernel
theorem dL_step_11 : decode cL_step 11 = .ok (.iload_n 3, 1) := by decide +kernel
theorem dL_step_12 : decode cL_step 12 = .ok (.aload_n 1, 1) := by decide +kernel
theorem dL_step_13 : decode cL_step 13 = .ok (.bipush 40, 2) := by decide +kernel
theorem dL_step_15 : decode cL_step 15 = .ok (.iaload, 1) := by decide +kernel
theorem dL_step_16 : decode cL_step 16 = .ok (.irem, 1) := by decide +kernel
theorem dL_step_17 : decode cL_step 17 = .ok (.istore 5, 2) := by decide +kernel
theorem dL_step_19 : decode cL_step 19 = .ok (.aload_n 1, 1) := by decide +kernel
theorem dL_step_20 : decode cL_step 20 = .ok (.iload 5, 2) := by decide +kernel
theorem dL_step_22 : decode cL_step 22 = .ok (.iaload, 1) := by decide +kernel
theorem dL_step_23 : decode cL_step 23 = .ok (.ifCond .le 7, 3) := by decide +kernel
theorem dL_step_26 : decode cL_step 26 = .ok (.iconst 1, 1) := by decide +kernel
theorem dL_step_27 : decode cL_step 27 = .ok (.goto 4, 3) := by decide +kernel
theorem dL_step_30 : decode cL_step 30 = .ok (.iconst 0, 1) := by decide +kernel
theorem dL_step_31 : decode cL_step 31 = .ok (.istore 6, 2) := by decide +kernel
theorem dL_step_33 : decode cL_step 33 = .ok (.iload_n 2, 1) := by decide +kernel
theorem dL_step_34 : decode cL_step 34 = .ok (.bipush 12, 2) := by decide +kernel
theorem dL_step_36 : decode cL_step 36 = .ok (.irem, 1) := by decide +kernel
theorem dL_step_37 : decode cL_step 37 = .ok (.iconst 3, 1) := by decide +kernel
theorem dL_step_38 : decode cL_step 38 = .ok (.if_icmp .lt 17, 3) := by decide +kernel
theorem dL_step_41 : decode cL_step 41 = .ok (.aload_n 1, 1) := by decide +kernel
theorem dL_step_42 : decode cL_step 42 = .ok (.bipush 40, 2) := by decide +kernel
theorem dL_step_44 : decode cL_step 44 = .ok (.iaload, 1) := by decide +kernel
theorem dL_step_45 : decode cL_step 45 = .ok (.ifCond .ne 70, 3) := by decide +kernel
theorem dL_step_48 : decode cL_step 48 = .ok (.aload_n 1, 1) := by decide +kernel
theorem dL_step_49 : decode cL_step 49 = .ok (.bipush 41, 2) := by decide +kernel
theorem dL_step_51 : decode cL_step 51 = .ok (.iaload, 1) := by decide +kernel
theorem dL_step_52 : decode cL_step 52 = .ok (.ifCond .ne 63, 3) := by decide +kernel
theorem dL_step_55 : decode cL_step 55 = .ok (.aload_n 1, 1) := by decide +kernel
theorem dL_step_56 : decode cL_step 56 = .ok (.bipush 41, 2) := by decide +kernel
theorem dL_step_58 : decode cL_step 58 = .ok (.iaload, 1) := by decide +kernel
theorem dL_step_59 : decode cL_step 59 = .ok (.bipush 8, 2) := by decide +kernel
theorem dL_step_61 : decode cL_step 61 = .ok (.if_icmp .ge 7, 3) := by decide +kernel
theorem dL_step_64 : decode cL_step 64 = .ok (.iconst 1, 1) := by decide +kernel
theorem dL_step_65 : decode cL_step 65 = .ok (.goto 4, 3) := by decide +kernel
theorem dL_step_68 : decode cL_step 68 = .ok (.iconst 0, 1) := by decide +kernel
theorem dL_step_69 : decode cL_step 69 = .ok (.istore 7, 2) := by decide +kernel
theorem dL_step_71 : decode cL_step 71 = .ok (.aload_n 1, 1) := by decide +kernel
theorem dL_step_72 : decode cL_step 72 = .ok (.bipush 41, 2) := by decide +kernel
theorem dL_step_74 : decode cL_step 74 = .ok (.dup2, 1) := by decide +kernel
theorem dL_step_75 : decode cL_step 75 = .ok (.iaload, 1) := by decide +kernel
theorem dL_step_76 : decode cL_step 76 = .ok (.iload 7, 2) := by decide +kernel
theorem dL_step_78 : decode cL_step 78 = .ok (.ifCond .eq 7, 3) := by decide +kernel
theorem dL_step_81 : decode cL_step 81 = .ok (.iconst 1, 1) := by decide +kernel
theorem dL_step_82 : decode cL_step 82 = .ok (.goto 4, 3) := by decide +kernel
theorem dL_step_85 : decode cL_step 85 = .ok (.iconst 0, 1) := by decide +kernel
theorem dL_step_86 : decode cL_step 86 = .ok (.iadd, 1) := by decide +kernel
theorem dL_step_87 : decode cL_step 87 = .ok (.iastore, 1) := by decide +kernel
theorem dL_step_88 : decode cL_step 88 = .ok (.iload 7, 2) := by decide +kernel
theorem dL_step_90 : decode cL_step 90 = .ok (.ifCond .eq 19, 3) := by decide +kernel
theorem dL_step_93 : decode cL_step 93 = .ok (.aload_n 0, 1) := by decide +kernel
theorem dL_step_94 : decode cL_step 94 = .ok (.iload 4, 2) := by decide +kernel
theorem dL_step_96 : decode cL_step 96 = .ok (.invokestatic 10, 3) := by decide +kernel
theorem dL_step_99 : decode cL_step 99 = .ok (.invokevirtual 16, 3) := by decide +kernel
theorem dL_step_102 : decode cL_step 102 = .ok (.aload_n 1, 1) := by decide +kernel
theorem dL_step_103 : decode cL_step 103 = .ok (.bipush 41, 2) := by decide +kernel
theorem dL_step_105 : decode cL_step 105 = .ok (.iaload, 1) := by decide +kernel
theorem dL_step_106 : decode cL_step 106 = .ok (.if_icmp .ne 7, 3) := by decide +kernel
theorem dL_step_109 : decode cL_step 109 = .ok (.iconst 1, 1) := by decide +kernel
theorem dL_step_110 : decode cL_step 110 = .ok (.goto 4, 3) := by decide +kernel
theorem dL_step_113 : decode cL_step 113 = .ok (.iconst 0, 1) := by decide +kernel
theorem dL_step_114 : decode cL_step 114 = .ok (.ireturn, 1) := by decide +kernel
theorem dL_step_115 : decode cL_step 115 = .ok (.iload_n 2, 1) := by decide +kernel
theorem dL_step_116 : decode cL_step 116 = .ok (.bipush 12, 2) := by decide +kernel
theorem dL_step_118 : decode cL_step 118 = .ok (.irem, 1) := by decide +kernel
theorem dL_step_119 : decode cL_step 119 = .ok (.iconst 5, 1) := by decide +kernel
theorem dL_step_120 : decode cL_step 120 = .ok (.if_icmp .lt 10, 3) := by decide +kernel
theorem dL_step_123 : decode cL_step 123 = .ok (.aload_n 1, 1) := by decide +kernel
theorem dL_step_124 : decode cL_step 124 = .ok (.bipush 40, 2) := by decide +kernel
theorem dL_step_126 : decode cL_step 126 = .ok (.iaload, 1) := by decide +kernel
theorem dL_step_127 : decode cL_step 127 = .ok (.ifCond .ne 9, 3) := by decide +kernel
theorem dL_step_130 : decode cL_step 130 = .ok (.aload_n 0, 1) := by decide +kernel
theorem dL_step_131 : decode cL_step 131 = .ok (.aload_n 1, 1) := by decide +kernel
theorem dL_step_132 : decode cL_step 132 = .ok (.invokestatic 22, 3) := by decide +kernel
theorem dL_step_135 : decode cL_step 135 = .ok (.ireturn, 1) := by decide +kernel
theorem dL_step_136 : decode cL_step 136 = .ok (.iload_n 2, 1) := by decide +kernel
theorem dL_step_137 : decode cL_step 137 = .ok (.bipush 12, 2) := by decide +kernel
theorem dL_step_139 : decode cL_step 139 = .ok (.irem, 1) := by decide +kernel
theorem dL_step_140 : decode cL_step 140 = .ok (.iconst 5, 1) := by decide +kernel
theorem dL_step_141 : decode cL_step 141 = .ok (.if_icmp .ne 48, 3) := by decide +kernel
theorem dL_step_144 : decode cL_step 144 = .ok (.iload 6, 2) := by decide +kernel
theorem dL_step_146 : decode cL_step 146 = .ok (.ifCond .eq 43, 3) := by decide +kernel
theorem dL_step_149 : decode cL_step 149 = .ok (.aload_n 1, 1) := by decide +kernel
theorem dL_step_150 : decode cL_step 150 = .ok (.iload 5, 2) := by decide +kernel
theorem dL_step_152 : decode cL_step 152 = .ok (.iaload, 1) := by decide +kernel
theorem dL_step_153 : decode cL_step 153 = .ok (.iconst 1, 1) := by decide +kernel
theorem dL_step_154 : decode cL_step 154 = .ok (.isub, 1) := by decide +kernel
theorem dL_step_155 : decode cL_step 155 = .ok (.istore 7, 2) := by decide +kernel
theorem dL_step_157 : decode cL_step 157 = .ok (.aload_n 1, 1) := by decide +kernel
theorem dL_step_158 : decode cL_step 158 = .ok (.iload 5, 2) := by decide +kernel
theorem dL_step_160 : decode cL_step 160 = .ok (.aload_n 1, 1) := by decide +kernel
theorem dL_step_161 : decode cL_step 161 = .ok (.bipush 41, 2) := by decide +kernel
theorem dL_step_163 : decode cL_step 163 = .ok (.iaload, 1) := by decide +kernel
theorem dL_step_164 : decode cL_step 164 = .ok (.iconst 1, 1) := by decide +kernel
theorem dL_step_165 : decode cL_step 165 = .ok (.iadd, 1) := by decide +kernel
theorem dL_step_166 : decode cL_step 166 = .ok (.iastore, 1) := by decide +kernel
theorem dL_step_167 : decode cL_step 167 = .ok (.aload_n 1, 1) := by decide +kernel
theorem dL_step_168 : decode cL_step 168 = .ok (.bipush 41, 2) := by decide +kernel
theorem dL_step_170 : decode cL_step 170 = .ok (.iconst 0, 1) := by decide +kernel
theorem dL_step_171 : decode cL_step 171 = .ok (.iastore, 1) := by decide +kernel
theorem dL_step_172 : decode cL_step 172 = .ok (.aload_n 0, 1) := by decide +kernel
theorem dL_step_173 : decode cL_step 173 = .ok (.iload 5, 2) := by decide +kernel
theorem dL_step_175 : decode cL_step 175 = .ok (.invokevirtual 26, 3) := by decide +kernel
theorem dL_step_178 : decode cL_step 178 = .ok (.iload 7, 2) := by decide +kernel
theorem dL_step_180 : decode cL_step 180 = .ok (.if_icmp .ne 7, 3) := by decide +kernel
theorem dL_step_183 : decode cL_step 183 = .ok (.iconst 1, 1) := by decide +kernel
theorem dL_step_184 : decode cL_step 184 = .ok (.goto 4, 3) := by decide +kernel
theorem dL_step_187 : decode cL_step 187 = .ok (.iconst 0, 1) := by decide +kernel
theorem dL_step_188 : decode cL_step 188 = .ok (.ireturn, 1) := by decide +kernel
theorem dL_step_189 : decode cL_step 189 = .ok (.iload_n 2, 1) := by decide +kernel
theorem dL_step_190 : decode cL_step 190 = .ok (.bipush 12, 2) := by decide +kernel
theorem dL_step_192 : decode cL_step 192 = .ok (.irem, 1) := by decide +kernel
theorem dL_step_193 : decode cL_step 193 = .ok (.bipush 6, 2) := by decide +kernel
theorem dL_step_195 : decode cL_step 195 = .ok (.if_icmp .ne 56, 3) := by decide +kernel
theorem dL_step_198 : decode cL_step 198 = .ok (.iload 6, 2) := by decide +kernel
theorem dL_step_200 : decode cL_step 200 = .ok (.ifCond .eq 51, 3) := by decide +kernel
theorem dL_step_203 : decode cL_step 203 = .ok (.iload 4, 2) := by decide +kernel
theorem dL_step_205 : decode cL_step 205 = .ok (.iconst 3, 1) := by decide +kernel
theorem dL_step_206 : decode cL_step 206 = .ok (.irem, 1) := by decide +kernel
theorem dL_step_207 : decode cL_step 207 = .ok (.ifCond .ne 44, 3) := by decide +kernel
theorem dL_step_210 : decode cL_step 210 = .ok (.aload_n 0, 1) := by decide +kernel
theorem dL_step_211 : decode cL_step 211 = .ok (.invokevirtual 30, 3) := by decide +kernel
theorem dL_step_214 : decode cL_step 214 = .ok (.istore 7, 2) := by decide +kernel
theorem dL_step_216 : decode cL_step 216 = .ok (.aload_n 1, 1) := by decide +kernel
theorem dL_step_217 : decode cL_step 217 = .ok (.iload 5, 2) := by decide +kernel
theorem dL_step_219 : decode cL_step 219 = .ok (.iconst 0, 1) := by decide +kernel
theorem dL_step_220 : decode cL_step 220 = .ok (.iastore, 1) := by decide +kernel
theorem dL_step_221 : decode cL_step 221 = .ok (.aload_n 0, 1) := by decide +kernel
theorem dL_step_222 : decode cL_step 222 = .ok (.iload 5, 2) := by decide +kernel
theorem dL_step_224 : decode cL_step 224 = .ok (.invokevirtual 34, 3) := by decide +kernel
theorem dL_step_227 : decode cL_step 227 = .ok (.iload 7, 2) := by decide +kernel
theorem dL_step_229 : decode cL_step 229 = .ok (.iconst 1, 1) := by decide +kernel
theorem dL_step_230 : decode cL_step 230 = .ok (.isub, 1) := by decide +kernel
theorem dL_step_231 : decode cL_step 231 = .ok (.if_icmp .ne 18, 3) := by decide +kernel
theorem dL_step_234 : decode cL_step 234 = .ok (.aload_n 0, 1) := by decide +kernel
theorem dL_step_235 : decode cL_step 235 = .ok (.invokevirtual 30, 3) := by decide +kernel
theorem dL_step_238 : decode cL_step 238 = .ok (.iload 7, 2) := by decide +kernel
theorem dL_step_240 : decode cL_step 240 = .ok (.iconst 1, 1) := by decide +kernel
theorem dL_step_241 : decode cL_step 241 = .ok (.isub, 1) := by decide +kernel
theorem dL_step_242 : decode cL_step 242 = .ok (.if_icmp .ne 7, 3) := by decide +kernel
theorem dL_step_245 : decode cL_step 245 = .ok (.iconst 1, 1) := by decide +kernel
theorem dL_step_246 : decode cL_step 246 = .ok (.goto 4, 3) := by decide +kernel
theorem dL_step_249 : decode cL_step 249 = .ok (.iconst 0, 1) := by decide +kernel
theorem dL_step_250 : decode cL_step 250 = .ok (.ireturn, 1) := by decide +kernel
theorem dL_step_251 : decode cL_step 251 = .ok (.iload_n 2, 1) := by decide +kernel
theorem dL_step_252 : decode cL_step 252 = .ok (.bipush 12, 2) := by decide +kernel
theorem dL_step_254 : decode cL_step 254 = .ok (.irem, 1) := by decide +kernel
theorem dL_step_255 : decode cL_step 255 = .ok (.bipush 7, 2) := by decide +kernel
theorem dL_step_257 : decode cL_step 257 = .ok (.if_icmp .ne 92, 3) := by decide +kernel
theorem dL_step_260 : decode cL_step 260 = .ok (.iload 6, 2) := by decide +kernel
theorem dL_step_262 : decode cL_step 262 = .ok (.ifCond .eq 87, 3) := by decide +kernel
theorem dL_step_265 : decode cL_step 265 = .ok (.aload_n 0, 1) := by decide +kernel
theorem dL_step_266 : decode cL_step 266 = .ok (.invokevirtual 37, 3) := by decide +kernel
theorem dL_step_269 : decode cL_step 269 = .ok (.aload_n 0, 1) := by decide +kernel
theorem dL_step_270 : decode cL_step 270 = .ok (.iload 5, 2) := by decide +kernel
theorem dL_step_272 : decode cL_step 272 = .ok (.invokevirtual 40, 3) := by decide +kernel
theorem dL_step_275 : decode cL_step 275 = .ok (.iadd, 1) := by decide +kernel
theorem dL_step_276 : decode cL_step 276 = .ok (.bipush 60, 2) := by decide +kernel
theorem dL_step_278 : decode cL_step 278 = .ok (.if_icmp .gt 71, 3) := by decide +kernel
theorem dL_step_281 : decode cL_step 281 = .ok (.aload_n 0, 1) := by decide +kernel
theorem dL_step_282 : decode cL_step 282 = .ok (.invokevirtual 37, 3) := by decide +kernel
theorem dL_step_285 : decode cL_step 285 = .ok (.istore 7, 2) := by decide +kernel
theorem dL_step_287 : decode cL_step 287 = .ok (.aload_n 0, 1) := by decide +kernel
theorem dL_step_288 : decode cL_step 288 = .ok (.invokevirtual 43, 3) := by decide +kernel
theorem dL_step_291 : decode cL_step 291 = .ok (.istore 8, 2) := by decide +kernel
theorem dL_step_293 : decode cL_step 293 = .ok (.aload_n 0, 1) := by decide +kernel
theorem dL_step_294 : decode cL_step 294 = .ok (.iload 5, 2) := by decide +kernel
theorem dL_step_296 : decode cL_step 296 = .ok (.invokevirtual 46, 3) := by decide +kernel
theorem dL_step_299 : decode cL_step 299 = .ok (.istore 9, 2) := by decide +kernel
theorem dL_step_301 : decode cL_step 301 = .ok (.iload 9, 2) := by decide +kernel
theorem dL_step_303 : decode cL_step 303 = .ok (.iconst 1, 1) := by decide +kernel
theorem dL_step_304 : decode cL_step 304 = .ok (.if_icmp .lt 43, 3) := by decide +kernel
theorem dL_step_307 : decode cL_step 307 = .ok (.aload_n 0, 1) := by decide +kernel
theorem dL_step_308 : decode cL_step 308 = .ok (.invokevirtual 43, 3) := by decide +kernel
theorem dL_step_311 : decode cL_step 311 = .ok (.iload 8, 2) := by decide +kernel
theorem dL_step_313 : decode cL_step 313 = .ok (.iload 9, 2) := by decide +kernel
theorem dL_step_315 : decode cL_step 315 = .ok (.iadd, 1) := by decide +kernel
theorem dL_step_316 : decode cL_step 316 = .ok (.if_icmp .ne 31, 3) := by decide +kernel
theorem dL_step_319 : decode cL_step 319 = .ok (.aload_n 0, 1) := by decide +kernel
theorem dL_step_320 : decode cL_step 320 = .ok (.invokevirtual 37, 3) := by decide +kernel
theorem dL_step_323 : decode cL_step 323 = .ok (.iload 7, 2) := by decide +kernel
theorem dL_step_325 : decode cL_step 325 = .ok (.aload_n 0, 1) := by decide +kernel
theorem dL_step_326 : decode cL_step 326 = .ok (.iload 5, 2) := by decide +kernel
theorem dL_step_328 : decode cL_step 328 = .ok (.invokevirtual 40, 3) := by decide +kernel
theorem dL_step_331 : decode cL_step 331 = .ok (.iadd, 1) := by decide +kernel
theorem dL_step_332 : decode cL_step 332 = .ok (.if_icmp .ne 15, 3) := by decide +kernel
theorem dL_step_335 : decode cL_step 335 = .ok (.aload_n 0, 1) := by decide +kernel
theorem dL_step_336 : decode cL_step 336 = .ok (.invokevirtual 49, 3) := by decide +kernel
theorem dL_step_339 : decode cL_step 339 = .ok (.iconst 1, 1) := by decide +kernel
theorem dL_step_340 : decode cL_step 340 = .ok (.if_icmp .lt 7, 3) := by decide +kernel
theorem dL_step_343 : decode cL_step 343 = .ok (.iconst 1, 1) := by decide +kernel
theorem dL_step_344 : decode cL_step 344 = .ok (.goto 4, 3) := by decide +kernel
theorem dL_step_347 : decode cL_step 347 = .ok (.iconst 0, 1) := by decide +kernel
theorem dL_step_348 : decode cL_step 348 = .ok (.ireturn, 1) := by decide +kernel
theorem dL_step_349 : decode cL_step 349 = .ok (.iload_n 2, 1) := by decide +kernel
theorem dL_step_350 : decode cL_step 350 = .ok (.bipush 12, 2) := by decide +kernel
theorem dL_step_352 : decode cL_step 352 = .ok (.irem, 1) := by decide +kernel
theorem dL_step_353 : decode cL_step 353 = .ok (.bipush 8, 2) := by decide +kernel
theorem dL_step_355 : decode cL_step 355 = .ok (.if_icmp .ne 10, 3) := by decide +kernel
theorem dL_step_358 : decode cL_step 358 = .ok (.iload 4, 2) := by decide +kernel
theorem dL_step_360 : decode cL_step 360 = .ok (.iconst 5, 1) := by decide +kernel
theorem dL_step_361 : decode cL_step 361 = .ok (.irem, 1) := by decide +kernel
theorem dL_step_362 : decode cL_step 362 = .ok (.ifCond .eq 12, 3) := by decide +kernel
theorem dL_step_365 : decode cL_step 365 = .ok (.aload_n 0, 1) := by decide +kernel
theorem dL_step_366 : decode cL_step 366 = .ok (.invokevirtual 37, 3) := by decide +kernel
theorem dL_step_369 : decode cL_step 369 = .ok (.bipush 60, 2) := by decide +kernel
theorem dL_step_371 : decode cL_step 371 = .ok (.if_icmp .lt 59, 3) := by decide +kernel
theorem dL_step_374 : decode cL_step 374 = .ok (.aload_n 0, 1) := by decide +kernel
theorem dL_step_375 : decode cL_step 375 = .ok (.invokevirtual 37, 3) := by decide +kernel
theorem dL_step_378 : decode cL_step 378 = .ok (.istore 7, 2) := by decide +kernel
theorem dL_step_380 : decode cL_step 380 = .ok (.aload_n 0, 1) := by decide +kernel
theorem dL_step_381 : decode cL_step 381 = .ok (.invokevirtual 52, 3) := by decide +kernel
theorem dL_step_384 : decode cL_step 384 = .ok (.iload 7, 2) := by decide +kernel
theorem dL_step_386 : decode cL_step 386 = .ok (.if_icmp .ne 42, 3) := by decide +kernel
theorem dL_step_389 : decode cL_step 389 = .ok (.aload_n 0, 1) := by decide +kernel
theorem dL_step_390 : decode cL_step 390 = .ok (.invokevirtual 37, 3) := by decide +kernel
theorem dL_step_393 : decode cL_step 393 = .ok (.ifCond .ne 35, 3) := by decide +kernel
theorem dL_step_396 : decode cL_step 396 = .ok (.aload_n 0, 1) := by decide +kernel
theorem dL_step_397 : decode cL_step 397 = .ok (.invokevirtual 43, 3) := by decide +kernel
theorem dL_step_400 : decode cL_step 400 = .ok (.ifCond .ne 28, 3) := by decide +kernel
theorem dL_step_403 : decode cL_step 403 = .ok (.aload_n 0, 1) := by decide +kernel
theorem dL_step_404 : decode cL_step 404 = .ok (.invokevirtual 55, 3) := by decide +kernel
theorem dL_step_407 : decode cL_step 407 = .ok (.ifCond .ne 21, 3) := by decide +kernel
theorem dL_step_410 : decode cL_step 410 = .ok (.aload_n 0, 1) := by decide +kernel
theorem dL_step_411 : decode cL_step 411 = .ok (.invokevirtual 49, 3) := by decide +kernel
theorem dL_step_414 : decode cL_step 414 = .ok (.ifCond .ne 14, 3) := by decide +kernel
theorem dL_step_417 : decode cL_step 417 = .ok (.aload_n 0, 1) := by decide +kernel
theorem dL_step_418 : decode cL_step 418 = .ok (.invokevirtual 58, 3) := by decide +kernel
theorem dL_step_421 : decode cL_step 421 = .ok (.ifCond .ne 7, 3) := by decide +kernel
theorem dL_step_424 : decode cL_step 424 = .ok (.iconst 1, 1) := by decide +kernel
theorem dL_step_425 : decode cL_step 425 = .ok (.goto 4, 3) := by decide +kernel
theorem dL_step_428 : decode cL_step 428 = .ok (.iconst 0, 1) := by decide +kernel
theorem dL_step_429 : decode cL_step 429 = .ok (.ireturn, 1) := by decide +kernel
theorem dL_step_430 : decode cL_step 430 = .ok (.aload_n 0, 1) := by decide +kernel
theorem dL_step_431 : decode cL_step 431 = .ok (.iload 4, 2) := by decide +kernel
theorem dL_step_433 : decode cL_step 433 = .ok (.invokestatic 10, 3) := by decide +kernel
theorem dL_step_436 : decode cL_step 436 = .ok (.invokestatic 61, 3) := by decide +kernel
theorem dL_step_439 : decode cL_step 439 = .ok (.ireturn, 1) := by decide +kernel
theorem dL_enters_0 : decode cL_enters 0 = .ok (.aload_n 0, 1) := by decide +kernel
theorem dL_enters_1 : decode cL_enters 1 = .ok (.invokevirtual 30, 3) := by decide +kernel
theorem dL_enters_4 : decode cL_enters 4 = .ok (.istore_n 2, 1) := by decide +kernel
theorem dL_enters_5 : decode cL_enters 5 = .ok (.aload_n 1, 1) := by decide +kernel
theorem dL_enters_6 : decode cL_enters 6 = .ok (.bipush 41, 2) := by decide +kernel
theorem dL_enters_8 : decode cL_enters 8 = .ok (.iaload, 1) := by decide +kernel
theorem dL_enters_9 : decode cL_enters 9 = .ok (.ifCond .eq 18, 3) := by decide +kernel
theorem dL_enters_12 : decode cL_enters 12 = .ok (.iload_n 2, 1) := by decide +kernel
theorem dL_enters_13 : decode cL_enters 13 = .ok (.bipush 20, 2) := by decide +kernel
theorem dL_enters_15 : decode cL_enters 15 = .ok (.if_icmp .eq 12, 3) := by decide +kernel
theorem dL_enters_18 : decode cL_enters 18 = .ok (.aload_n 1, 1) := by decide +kernel
theorem dL_enters_19 : decode cL_enters 19 = .ok (.bipush 40, 2) := by decide +kernel
theorem dL_enters_21 : decode cL_enters 21 = .ok (.iaload, 1) := by decide +kernel
theorem dL_enters_22 : decode cL_enters 22 = .ok (.bipush 40, 2) := by decide +kernel
theorem dL_enters_24 : decode cL_enters 24 = .ok (.if_icmp .ne 15, 3) := by decide +kernel
theorem dL_enters_27 : decode cL_enters 27 = .ok (.iload_n 2, 1) := by decide +kernel
theorem dL_enters_28 : decode cL_enters 28 = .ok (.bipush 20, 2) := by decide +kernel
theorem dL_enters_30 : decode cL_enters 30 = .ok (.if_icmp .gt 7, 3) := by decide +kernel
theorem dL_enters_33 : decode cL_enters 33 = .ok (.iconst 1, 1) := by decide +kernel
theorem dL_enters_34 : decode cL_enters 34 = .ok (.goto 4, 3) := by decide +kernel
theorem dL_enters_37 : decode cL_enters 37 = .ok (.iconst 0, 1) := by decide +kernel
theorem dL_enters_38 : decode cL_enters 38 = .ok (.ireturn, 1) := by decide +kernel
theorem dL_enters_39 : decode cL_enters 39 = .ok (.aload_n 0, 1) := by decide +kernel
theorem dL_enters_40 : decode cL_enters 40 = .ok (.invokestatic 65, 3) := by decide +kernel
theorem dL_enters_43 : decode cL_enters 43 = .ok (.istore_n 3, 1) := by decide +kernel
theorem dL_enters_44 : decode cL_enters 44 = .ok (.iload_n 3, 1) := by decide +kernel
theorem dL_enters_45 : decode cL_enters 45 = .ok (.ifCond .ge 97, 3) := by decide +kernel
theorem dL_enters_48 : decode cL_enters 48 = .ok (.iconst 0, 1) := by decide +kernel
theorem dL_enters_49 : decode cL_enters 49 = .ok (.istore 4, 2) := by decide +kernel
theorem dL_enters_51 : decode cL_enters 51 = .ok (.iload 4, 2) := by decide +kernel
theorem dL_enters_53 : decode cL_enters 53 = .ok (.aload_n 1, 1) := by decide +kernel
theorem dL_enters_54 : decode cL_enters 54 = .ok (.bipush 40, 2) := by decide +kernel
theorem dL_enters_56 : decode cL_enters 56 = .ok (.iaload, 1) := by decide +kernel
theorem dL_enters_57 : decode cL_enters 57 = .ok (.if_icmp .ge 83, 3) := by decide +kernel
theorem dL_enters_60 : decode cL_enters 60 = .ok (.aload_n 1, 1) := by decide +kernel
theorem dL_enters_61 : decode cL_enters 61 = .ok (.iload 4, 2) := by decide +kernel
theorem dL_enters_63 : decode cL_enters 63 = .ok (.iaload, 1) := by decide +kernel
theorem dL_enters_64 : decode cL_enters 64 = .ok (.ifCond .le 70, 3) := by decide +kernel
theorem dL_enters_67 : decode cL_enters 67 = .ok (.aload_n 1, 1) := by decide +kernel
theorem dL_enters_68 : decode cL_enters 68 = .ok (.bipush 41, 2) := by decide +kernel
theorem dL_enters_70 : decode cL_enters 70 = .ok (.iaload, 1) := by decide +kernel
theorem dL_enters_71 : decode cL_enters 71 = .ok (.ifCond .le 63, 3) := by decide +kernel
theorem dL_enters_74 : decode cL_enters 74 = .ok (.aload_n 0, 1) := by decide +kernel
theorem dL_enters_75 : decode cL_enters 75 = .ok (.iload 4, 2) := by decide +kernel
theorem dL_enters_77 : decode cL_enters 77 = .ok (.invokevirtual 26, 3) := by decide +kernel
theorem dL_enters_80 : decode cL_enters 80 = .ok (.istore 5, 2) := by decide +kernel
theorem dL_enters_82 : decode cL_enters 82 = .ok (.iload 5, 2) := by decide +kernel
theorem dL_enters_84 : decode cL_enters 84 = .ok (.aload_n 1, 1) := by decide +kernel
theorem dL_enters_85 : decode cL_enters 85 = .ok (.iload 4, 2) := by decide +kernel
theorem dL_enters_87 : decode cL_enters 87 = .ok (.iaload, 1) := by decide +kernel
theorem dL_enters_88 : decode cL_enters 88 = .ok (.iconst 1, 1) := by decide +kernel
theorem dL_enters_89 : decode cL_enters 89 = .ok (.isub, 1) := by decide +kernel
theorem dL_enters_90 : decode cL_enters 90 = .ok (.if_icmp .ne 7, 3) := by decide +kernel
theorem dL_enters_93 : decode cL_enters 93 = .ok (.iconst 1, 1) := by decide +kernel
theorem dL_enters_94 : decode cL_enters 94 = .ok (.goto 4, 3) := by decide +kernel
theorem dL_enters_97 : decode cL_enters 97 = .ok (.iconst 0, 1) := by decide +kernel
theorem dL_enters_98 : decode cL_enters 98 = .ok (.istore 6, 2) := by decide +kernel
theorem dL_enters_100 : decode cL_enters 100 = .ok (.aload_n 1, 1) := by decide +kernel
theorem dL_enters_101 : decode cL_enters 101 = .ok (.iload 4, 2) := by decide +kernel
theorem dL_enters_103 : decode cL_enters 103 = .ok (.aload_n 1, 1) := by decide +kernel
theorem dL_enters_104 : decode cL_enters 104 = .ok (.bipush 41, 2) := by decide +kernel
theorem dL_enters_106 : decode cL_enters 106 = .ok (.iaload, 1) := by decide +kernel
theorem dL_enters_107 : decode cL_enters 107 = .ok (.iconst 1, 1) := by decide +kernel
theorem dL_enters_108 : decode cL_enters 108 = .ok (.iadd, 1) := by decide +kernel
theorem dL_enters_109 : decode cL_enters 109 = .ok (.iastore, 1) := by decide +kernel
theorem dL_enters_110 : decode cL_enters 110 = .ok (.aload_n 1, 1) := by decide +kernel
theorem dL_enters_111 : decode cL_enters 111 = .ok (.bipush 41, 2) := by decide +kernel
theorem dL_enters_113 : decode cL_enters 113 = .ok (.iconst 0, 1) := by decide +kernel
theorem dL_enters_114 : decode cL_enters 114 = .ok (.iastore, 1) := by decide +kernel
theorem dL_enters_115 : decode cL_enters 115 = .ok (.iload 6, 2) := by decide +kernel
theorem dL_enters_117 : decode cL_enters 117 = .ok (.ifCond .eq 15, 3) := by decide +kernel
theorem dL_enters_120 : decode cL_enters 120 = .ok (.aload_n 0, 1) := by decide +kernel
theorem dL_enters_121 : decode cL_enters 121 = .ok (.invokevirtual 30, 3) := by decide +kernel
theorem dL_enters_124 : decode cL_enters 124 = .ok (.iload_n 2, 1) := by decide +kernel
theorem dL_enters_125 : decode cL_enters 125 = .ok (.if_icmp .ne 7, 3) := by decide +kernel
theorem dL_enters_128 : decode cL_enters 128 = .ok (.iconst 1, 1) := by decide +kernel
theorem dL_enters_129 : decode cL_enters 129 = .ok (.goto 4, 3) := by decide +kernel
theorem dL_enters_132 : decode cL_enters 132 = .ok (.iconst 0, 1) := by decide +kernel
theorem dL_enters_133 : decode cL_enters 133 = .ok (.ireturn, 1) := by decide +kernel
theorem dL_enters_134 : decode cL_enters 134 = .ok (.iinc 4 1, 3) := by decide +kernel
theorem dL_enters_137 : decode cL_enters 137 = .ok (.goto (-86), 3) := by decide +kernel
theorem dL_enters_140 : decode cL_enters 140 = .ok (.iconst 0, 1) := by decide +kernel
theorem dL_enters_141 : decode cL_enters 141 = .ok (.ireturn, 1) := by decide +kernel
theorem dL_enters_142 : decode cL_enters 142 = .ok (.iload_n 3, 1) := by decide +kernel
theorem dL_enters_143 : decode cL_enters 143 = .ok (.aload_n 1, 1) := by decide +kernel
theorem dL_enters_144 : decode cL_enters 144 = .ok (.bipush 40, 2) := by decide +kernel
theorem dL_enters_146 : decode cL_enters 146 = .ok (.iaload, 1) := by decide +kernel
theorem dL_enters_147 : decode cL_enters 147 = .ok (.if_icmp .ne 29, 3) := by decide +kernel
theorem dL_enters_150 : decode cL_enters 150 = .ok (.aload_n 0, 1) := by decide +kernel
theorem dL_enters_151 : decode cL_enters 151 = .ok (.iload_n 3, 1) := by decide +kernel
theorem dL_enters_152 : decode cL_enters 152 = .ok (.invokevirtual 40, 3) := by decide +kernel
theorem dL_enters_155 : decode cL_enters 155 = .ok (.aload_n 1, 1) := by decide +kernel
theorem dL_enters_156 : decode cL_enters 156 = .ok (.bipush 41, 2) := by decide +kernel
theorem dL_enters_158 : decode cL_enters 158 = .ok (.iaload, 1) := by decide +kernel
theorem dL_enters_159 : decode cL_enters 159 = .ok (.if_icmp .ne 17, 3) := by decide +kernel
theorem dL_enters_162 : decode cL_enters 162 = .ok (.aload_n 0, 1) := by decide +kernel
theorem dL_enters_163 : decode cL_enters 163 = .ok (.invokevirtual 30, 3) := by decide +kernel
theorem dL_enters_166 : decode cL_enters 166 = .ok (.iload_n 2, 1) := by decide +kernel
theorem dL_enters_167 : decode cL_enters 167 = .ok (.iconst 1, 1) := by decide +kernel
theorem dL_enters_168 : decode cL_enters 168 = .ok (.iadd, 1) := by decide +kernel
theorem dL_enters_169 : decode cL_enters 169 = .ok (.if_icmp .ne 7, 3) := by decide +kernel
theorem dL_enters_172 : decode cL_enters 172 = .ok (.iconst 1, 1) := by decide +kernel
theorem dL_enters_173 : decode cL_enters 173 = .ok (.goto 4, 3) := by decide +kernel
theorem dL_enters_176 : decode cL_enters 176 = .ok (.iconst 0, 1) := by decide +kernel
theorem dL_enters_177 : decode cL_enters 177 = .ok (.istore 4, 2) := by decide +kernel
theorem dL_enters_179 : decode cL_enters 179 = .ok (.aload_n 1, 1) := by decide +kernel
theorem dL_enters_180 : decode cL_enters 180 = .ok (.iload_n 3, 1) := by decide +kernel
theorem dL_enters_181 : decode cL_enters 181 = .ok (.iconst 1, 1) := by decide +kernel
theorem dL_enters_182 : decode cL_enters 182 = .ok (.iastore, 1) := by decide +kernel
theorem dL_enters_183 : decode cL_enters 183 = .ok (.aload_n 1, 1) := by decide +kernel
theorem dL_enters_184 : decode cL_enters 184 = .ok (.bipush 40, 2) := by decide +kernel
theorem dL_enters_186 : decode cL_enters 186 = .ok (.dup2, 1) := by decide +kernel
theorem dL_enters_187 : decode cL_enters 187 = .ok (.iaload, 1) := by decide +kernel
theorem dL_enters_188 : decode cL_enters 188 = .ok (.iconst 1, 1) := by decide +kernel
theorem dL_enters_189 : decode cL_enters 189 = .ok (.iadd, 1) := by decide +kernel
theorem dL_enters_190 : decode cL_enters 190 = .ok (.iastore, 1) := by decide +kernel
theorem dL_enters_191 : decode cL_enters 191 = .ok (.aload_n 1, 1) := by decide +kernel
theorem dL_enters_192 : decode cL_enters 192 = .ok (.bipush 41, 2) := by decide +kernel
theorem dL_enters_194 : decode cL_enters 194 = .ok (.iconst 0, 1) := by decide +kernel
theorem dL_enters_195 : decode cL_enters 195 = .ok (.iastore, 1) := by decide +kernel
theorem dL_enters_196 : decode cL_enters 196 = .ok (.iload 4, 2) := by decide +kernel
theorem dL_enters_198 : decode cL_enters 198 = .ok (.ireturn, 1) := by decide +kernel
theorem dL_ofEnter_0 : decode cL_ofEnter 0 = .ok (.aload_n 0, 1) := by decide +kernel
theorem dL_ofEnter_1 : decode cL_ofEnter 1 = .ok (.invokevirtual 69, 3) := by decide +kernel
theorem dL_ofEnter_4 : decode cL_ofEnter 4 = .ok (.ireturn, 1) := by decide +kernel
theorem dL_ofEnter_5 : decode cL_ofEnter 5 = .ok (.astore_n 1, 1) := by decide +kernel
theorem dL_ofEnter_6 : decode cL_ofEnter 6 = .ok (.iconst (-1), 1) := by decide +kernel
theorem dL_ofEnter_7 : decode cL_ofEnter 7 = .ok (.ireturn, 1) := by decide +kernel
theorem dL_feeds_0 : decode cL_feeds 0 = .ok (.aload_n 0, 1) := by decide +kernel
theorem dL_feeds_1 : decode cL_feeds 1 = .ok (.invokevirtual 37, 3) := by decide +kernel
theorem dL_feeds_4 : decode cL_feeds 4 = .ok (.istore_n 2, 1) := by decide +kernel
theorem dL_feeds_5 : decode cL_feeds 5 = .ok (.aload_n 0, 1) := by decide +kernel
theorem dL_feeds_6 : decode cL_feeds 6 = .ok (.invokevirtual 74, 3) := by decide +kernel
theorem dL_feeds_9 : decode cL_feeds 9 = .ok (.istore_n 3, 1) := by decide +kernel
theorem dL_feeds_10 : decode cL_feeds 10 = .ok (.iload_n 3, 1) := by decide +kernel
theorem dL_feeds_11 : decode cL_feeds 11 = .ok (.ifCond .ne 8, 3) := by decide +kernel
theorem dL_feeds_14 : decode cL_feeds 14 = .ok (.bipush 97, 2) := by decide +kernel
theorem dL_feeds_16 : decode cL_feeds 16 = .ok (.goto 11, 3) := by decide +kernel
theorem dL_feeds_19 : decode cL_feeds 19 = .ok (.aload_n 0, 1) := by decide +kernel
theorem dL_feeds_20 : decode cL_feeds 20 = .ok (.iconst 0, 1) := by decide +kernel
theorem dL_feeds_21 : decode cL_feeds 21 = .ok (.iload_n 3, 1) := by decide +kernel
theorem dL_feeds_22 : decode cL_feeds 22 = .ok (.iconst 1, 1) := by decide +kernel
theorem dL_feeds_23 : decode cL_feeds 23 = .ok (.isub, 1) := by decide +kernel
theorem dL_feeds_24 : decode cL_feeds 24 = .ok (.invokevirtual 77, 3) := by decide +kernel
theorem dL_feeds_27 : decode cL_feeds 27 = .ok (.istore 4, 2) := by decide +kernel
theorem dL_feeds_29 : decode cL_feeds 29 = .ok (.aload_n 0, 1) := by decide +kernel
theorem dL_feeds_30 : decode cL_feeds 30 = .ok (.invokevirtual 43, 3) := by decide +kernel
theorem dL_feeds_33 : decode cL_feeds 33 = .ok (.istore 5, 2) := by decide +kernel
theorem dL_feeds_35 : decode cL_feeds 35 = .ok (.aload_n 0, 1) := by decide +kernel
theorem dL_feeds_36 : decode cL_feeds 36 = .ok (.invokevirtual 58, 3) := by decide +kernel
theorem dL_feeds_39 : decode cL_feeds 39 = .ok (.istore 6, 2) := by decide +kernel
theorem dL_feeds_41 : decode cL_feeds 41 = .ok (.aload_n 0, 1) := by decide +kernel
theorem dL_feeds_42 : decode cL_feeds 42 = .ok (.iload_n 1, 1) := by decide +kernel
theorem dL_feeds_43 : decode cL_feeds 43 = .ok (.invokevirtual 81, 3) := by decide +kernel
theorem dL_feeds_46 : decode cL_feeds 46 = .ok (.istore 7, 2) := by decide +kernel
theorem dL_feeds_48 : decode cL_feeds 48 = .ok (.iload 7, 2) := by decide +kernel
theorem dL_feeds_50 : decode cL_feeds 50 = .ok (.aload_n 0, 1) := by decide +kernel
theorem dL_feeds_51 : decode cL_feeds 51 = .ok (.invokevirtual 49, 3) := by decide +kernel
theorem dL_feeds_54 : decode cL_feeds 54 = .ok (.if_icmp .ne 66, 3) := by decide +kernel
theorem dL_feeds_57 : decode cL_feeds 57 = .ok (.aload_n 0, 1) := by decide +kernel
theorem dL_feeds_58 : decode cL_feeds 58 = .ok (.invokevirtual 43, 3) := by decide +kernel
theorem dL_feeds_61 : decode cL_feeds 61 = .ok (.iload 5, 2) := by decide +kernel
theorem dL_feeds_63 : decode cL_feeds 63 = .ok (.iload 7, 2) := by decide +kernel
theorem dL_feeds_65 : decode cL_feeds 65 = .ok (.iadd, 1) := by decide +kernel
theorem dL_feeds_66 : decode cL_feeds 66 = .ok (.if_icmp .ne 54, 3) := by decide +kernel
theorem dL_feeds_69 : decode cL_feeds 69 = .ok (.aload_n 0, 1) := by decide +kernel
theorem dL_feeds_70 : decode cL_feeds 70 = .ok (.invokevirtual 58, 3) := by decide +kernel
theorem dL_feeds_73 : decode cL_feeds 73 = .ok (.iload 6, 2) := by decide +kernel
theorem dL_feeds_75 : decode cL_feeds 75 = .ok (.iload 7, 2) := by decide +kernel
theorem dL_feeds_77 : decode cL_feeds 77 = .ok (.iadd, 1) := by decide +kernel
theorem dL_feeds_78 : decode cL_feeds 78 = .ok (.if_icmp .ne 42, 3) := by decide +kernel
theorem dL_feeds_81 : decode cL_feeds 81 = .ok (.aload_n 0, 1) := by decide +kernel
theorem dL_feeds_82 : decode cL_feeds 82 = .ok (.invokevirtual 37, 3) := by decide +kernel
theorem dL_feeds_85 : decode cL_feeds 85 = .ok (.iload_n 2, 1) := by decide +kernel
theorem dL_feeds_86 : decode cL_feeds 86 = .ok (.iconst 1, 1) := by decide +kernel
theorem dL_feeds_87 : decode cL_feeds 87 = .ok (.iadd, 1) := by decide +kernel
theorem dL_feeds_88 : decode cL_feeds 88 = .ok (.if_icmp .ne 32, 3) := by decide +kernel
theorem dL_feeds_91 : decode cL_feeds 91 = .ok (.aload_n 0, 1) := by decide +kernel
theorem dL_feeds_92 : decode cL_feeds 92 = .ok (.invokevirtual 74, 3) := by decide +kernel
theorem dL_feeds_95 : decode cL_feeds 95 = .ok (.iload_n 3, 1) := by decide +kernel
theorem dL_feeds_96 : decode cL_feeds 96 = .ok (.if_icmp .lt 24, 3) := by decide +kernel
theorem dL_feeds_99 : decode cL_feeds 99 = .ok (.iload_n 3, 1) := by decide +kernel
theorem dL_feeds_100 : decode cL_feeds 100 = .ok (.ifCond .eq 16, 3) := by decide +kernel
theorem dL_feeds_103 : decode cL_feeds 103 = .ok (.aload_n 0, 1) := by decide +kernel
theorem dL_feeds_104 : decode cL_feeds 104 = .ok (.iconst 0, 1) := by decide +kernel
theorem dL_feeds_105 : decode cL_feeds 105 = .ok (.iload_n 3, 1) := by decide +kernel
theorem dL_feeds_106 : decode cL_feeds 106 = .ok (.iconst 1, 1) := by decide +kernel
theorem dL_feeds_107 : decode cL_feeds 107 = .ok (.isub, 1) := by decide +kernel
theorem dL_feeds_108 : decode cL_feeds 108 = .ok (.invokevirtual 77, 3) := by decide +kernel
theorem dL_feeds_111 : decode cL_feeds 111 = .ok (.iload 4, 2) := by decide +kernel
theorem dL_feeds_113 : decode cL_feeds 113 = .ok (.if_icmp .ne 7, 3) := by decide +kernel
theorem dL_feeds_116 : decode cL_feeds 116 = .ok (.iconst 1, 1) := by decide +kernel
theorem dL_feeds_117 : decode cL_feeds 117 = .ok (.goto 4, 3) := by decide +kernel
theorem dL_feeds_120 : decode cL_feeds 120 = .ok (.iconst 0, 1) := by decide +kernel
theorem dL_feeds_121 : decode cL_feeds 121 = .ok (.ireturn, 1) := by decide +kernel
theorem dL_arePatterns_0 : decode cL_arePatterns 0 = .ok (.iconst 0, 1) := by decide +kernel
theorem dL_arePatterns_1 : decode cL_arePatterns 1 = .ok (.istore_n 2, 1) := by decide +kernel
theorem dL_arePatterns_2 : decode cL_arePatterns 2 = .ok (.iconst 0, 1) := by decide +kernel
theorem dL_arePatterns_3 : decode cL_arePatterns 3 = .ok (.istore_n 3, 1) := by decide +kernel
theorem dL_arePatterns_4 : decode cL_arePatterns 4 = .ok (.iconst 0, 1) := by decide +kernel
theorem dL_arePatterns_5 : decode cL_arePatterns 5 = .ok (.istore 4, 2) := by decide +kernel
theorem dL_arePatterns_7 : decode cL_arePatterns 7 = .ok (.iconst 1, 1) := by decide +kernel
theorem dL_arePatterns_8 : decode cL_arePatterns 8 = .ok (.istore 5, 2) := by decide +kernel
theorem dL_arePatterns_10 : decode cL_arePatterns 10 = .ok (.iconst 0, 1) := by decide +kernel
theorem dL_arePatterns_11 : decode cL_arePatterns 11 = .ok (.istore 6, 2) := by decide +kernel
theorem dL_arePatterns_13 : decode cL_arePatterns 13 = .ok (.iload 6, 2) := by decide +kernel
theorem dL_arePatterns_15 : decode cL_arePatterns 15 = .ok (.aload_n 1, 1) := by decide +kernel
theorem dL_arePatterns_16 : decode cL_arePatterns 16 = .ok (.bipush 40, 2) := by decide +kernel
theorem dL_arePatterns_18 : decode cL_arePatterns 18 = .ok (.iaload, 1) := by decide +kernel
theorem dL_arePatterns_19 : decode cL_arePatterns 19 = .ok (.if_icmp .ge 245, 3) := by decide +kernel
theorem dL_arePatterns_22 : decode cL_arePatterns 22 = .ok (.iload 5, 2) := by decide +kernel
theorem dL_arePatterns_24 : decode cL_arePatterns 24 = .ok (.ifCond .eq 240, 3) := by decide +kernel
theorem dL_arePatterns_27 : decode cL_arePatterns 27 = .ok (.aload_n 1, 1) := by decide +kernel
theorem dL_arePatterns_28 : decode cL_arePatterns 28 = .ok (.iload 6, 2) := by decide +kernel
theorem dL_arePatterns_30 : decode cL_arePatterns 30 = .ok (.iaload, 1) := by decide +kernel
theorem dL_arePatterns_31 : decode cL_arePatterns 31 = .ok (.ifCond .le 227, 3) := by decide +kernel
theorem dL_arePatterns_34 : decode cL_arePatterns 34 = .ok (.aload_n 0, 1) := by decide +kernel
theorem dL_arePatterns_35 : decode cL_arePatterns 35 = .ok (.iload 6, 2) := by decide +kernel
theorem dL_arePatterns_37 : decode cL_arePatterns 37 = .ok (.invokevirtual 84, 3) := by decide +kernel
theorem dL_arePatterns_40 : decode cL_arePatterns 40 = .ok (.istore 7, 2) := by decide +kernel
theorem dL_arePatterns_42 : decode cL_arePatterns 42 = .ok (.iload_n 2, 1) := by decide +kernel
theorem dL_arePatterns_43 : decode cL_arePatterns 43 = .ok (.iload 7, 2) := by decide +kernel
theorem dL_arePatterns_45 : decode cL_arePatterns 45 = .ok (.iadd, 1) := by decide +kernel
theorem dL_arePatterns_46 : decode cL_arePatterns 46 = .ok (.istore_n 2, 1) := by decide +kernel
theorem dL_arePatterns_47 : decode cL_arePatterns 47 = .ok (.iload_n 3, 1) := by decide +kernel
theorem dL_arePatterns_48 : decode cL_arePatterns 48 = .ok (.aload_n 0, 1) := by decide +kernel
theorem dL_arePatterns_49 : decode cL_arePatterns 49 = .ok (.iload 6, 2) := by decide +kernel
theorem dL_arePatterns_51 : decode cL_arePatterns 51 = .ok (.invokevirtual 40, 3) := by decide +kernel
theorem dL_arePatterns_54 : decode cL_arePatterns 54 = .ok (.iadd, 1) := by decide +kernel
theorem dL_arePatterns_55 : decode cL_arePatterns 55 = .ok (.istore_n 3, 1) := by decide +kernel
theorem dL_arePatterns_56 : decode cL_arePatterns 56 = .ok (.aload_n 0, 1) := by decide +kernel
theorem dL_arePatterns_57 : decode cL_arePatterns 57 = .ok (.iload 6, 2) := by decide +kernel
theorem dL_arePatterns_59 : decode cL_arePatterns 59 = .ok (.invokevirtual 40, 3) := by decide +kernel
theorem dL_arePatterns_62 : decode cL_arePatterns 62 = .ok (.iload 4, 2) := by decide +kernel
theorem dL_arePatterns_64 : decode cL_arePatterns 64 = .ok (.if_icmp .le 12, 3) := by decide +kernel
theorem dL_arePatterns_67 : decode cL_arePatterns 67 = .ok (.aload_n 0, 1) := by decide +kernel
theorem dL_arePatterns_68 : decode cL_arePatterns 68 = .ok (.iload 6, 2) := by decide +kernel
theorem dL_arePatterns_70 : decode cL_arePatterns 70 = .ok (.invokevirtual 40, 3) := by decide +kernel
theorem dL_arePatterns_73 : decode cL_arePatterns 73 = .ok (.goto 5, 3) := by decide +kernel
theorem dL_arePatterns_76 : decode cL_arePatterns 76 = .ok (.iload 4, 2) := by decide +kernel
theorem dL_arePatterns_78 : decode cL_arePatterns 78 = .ok (.istore 4, 2) := by decide +kernel
theorem dL_arePatterns_80 : decode cL_arePatterns 80 = .ok (.aload_n 0, 1) := by decide +kernel
theorem dL_arePatterns_81 : decode cL_arePatterns 81 = .ok (.iload 6, 2) := by decide +kernel
theorem dL_arePatterns_83 : decode cL_arePatterns 83 = .ok (.invokevirtual 87, 3) := by decide +kernel
theorem dL_arePatterns_86 : decode cL_arePatterns 86 = .ok (.ifCond .lt 22, 3) := by decide +kernel
theorem dL_arePatterns_89 : decode cL_arePatterns 89 = .ok (.aload_n 0, 1) := by decide +kernel
theorem dL_arePatterns_90 : decode cL_arePatterns 90 = .ok (.iload 6, 2) := by decide +kernel
theorem dL_arePatterns_92 : decode cL_arePatterns 92 = .ok (.invokevirtual 87, 3) := by decide +kernel
theorem dL_arePatterns_95 : decode cL_arePatterns 95 = .ok (.aload_n 0, 1) := by decide +kernel
theorem dL_arePatterns_96 : decode cL_arePatterns 96 = .ok (.iload 6, 2) := by decide +kernel
theorem dL_arePatterns_98 : decode cL_arePatterns 98 = .ok (.invokevirtual 40, 3) := by decide +kernel
theorem dL_arePatterns_101 : decode cL_arePatterns 101 = .ok (.if_icmp .ge 7, 3) := by decide +kernel
theorem dL_arePatterns_104 : decode cL_arePatterns 104 = .ok (.iconst 1, 1) := by decide +kernel
theorem dL_arePatterns_105 : decode cL_arePatterns 105 = .ok (.goto 4, 3) := by decide +kernel
theorem dL_arePatterns_108 : decode cL_arePatterns 108 = .ok (.iconst 0, 1) := by decide +kernel
theorem dL_arePatterns_109 : decode cL_arePatterns 109 = .ok (.istore 5, 2) := by decide +kernel
theorem dL_arePatterns_111 : decode cL_arePatterns 111 = .ok (.iconst 0, 1) := by decide +kernel
theorem dL_arePatterns_112 : decode cL_arePatterns 112 = .ok (.istore 8, 2) := by decide +kernel
theorem dL_arePatterns_114 : decode cL_arePatterns 114 = .ok (.iload 8, 2) := by decide +kernel
theorem dL_arePatterns_116 : decode cL_arePatterns 116 = .ok (.iload 7, 2) := by decide +kernel
theorem dL_arePatterns_118 : decode cL_arePatterns 118 = .ok (.if_icmp .ge 69, 3) := by decide +kernel
theorem dL_arePatterns_121 : decode cL_arePatterns 121 = .ok (.iload 5, 2) := by decide +kernel
theorem dL_arePatterns_123 : decode cL_arePatterns 123 = .ok (.ifCond .eq 64, 3) := by decide +kernel
theorem dL_arePatterns_126 : decode cL_arePatterns 126 = .ok (.aload_n 0, 1) := by decide +kernel
theorem dL_arePatterns_127 : decode cL_arePatterns 127 = .ok (.iload 6, 2) := by decide +kernel
theorem dL_arePatterns_129 : decode cL_arePatterns 129 = .ok (.iload 8, 2) := by decide +kernel
theorem dL_arePatterns_131 : decode cL_arePatterns 131 = .ok (.invokevirtual 90, 3) := by decide +kernel
theorem dL_arePatterns_134 : decode cL_arePatterns 134 = .ok (.aload_n 0, 1) := by decide +kernel
theorem dL_arePatterns_135 : decode cL_arePatterns 135 = .ok (.iload 6, 2) := by decide +kernel
theorem dL_arePatterns_137 : decode cL_arePatterns 137 = .ok (.invokevirtual 40, 3) := by decide +kernel
theorem dL_arePatterns_140 : decode cL_arePatterns 140 = .ok (.iadd, 1) := by decide +kernel
theorem dL_arePatterns_141 : decode cL_arePatterns 141 = .ok (.aload_n 0, 1) := by decide +kernel
theorem dL_arePatterns_142 : decode cL_arePatterns 142 = .ok (.invokevirtual 37, 3) := by decide +kernel
theorem dL_arePatterns_145 : decode cL_arePatterns 145 = .ok (.if_icmp .gt 33, 3) := by decide +kernel
theorem dL_arePatterns_148 : decode cL_arePatterns 148 = .ok (.iload 8, 2) := by decide +kernel
theorem dL_arePatterns_150 : decode cL_arePatterns 150 = .ok (.ifCond .eq 24, 3) := by decide +kernel
theorem dL_arePatterns_153 : decode cL_arePatterns 153 = .ok (.aload_n 0, 1) := by decide +kernel
theorem dL_arePatterns_154 : decode cL_arePatterns 154 = .ok (.iload 6, 2) := by decide +kernel
theorem dL_arePatterns_156 : decode cL_arePatterns 156 = .ok (.iload 8, 2) := by decide +kernel
theorem dL_arePatterns_158 : decode cL_arePatterns 158 = .ok (.invokevirtual 90, 3) := by decide +kernel
theorem dL_arePatterns_161 : decode cL_arePatterns 161 = .ok (.aload_n 0, 1) := by decide +kernel
theorem dL_arePatterns_162 : decode cL_arePatterns 162 = .ok (.iload 6, 2) := by decide +kernel
theorem dL_arePatterns_164 : decode cL_arePatterns 164 = .ok (.iload 8, 2) := by decide +kernel
theorem dL_arePatterns_166 : decode cL_arePatterns 166 = .ok (.iconst 1, 1) := by decide +kernel
theorem dL_arePatterns_167 : decode cL_arePatterns 167 = .ok (.isub, 1) := by decide +kernel
theorem dL_arePatterns_168 : decode cL_arePatterns 168 = .ok (.invokevirtual 90, 3) := by decide +kernel
theorem dL_arePatterns_171 : decode cL_arePatterns 171 = .ok (.if_icmp .le 7, 3) := by decide +kernel
theorem dL_arePatterns_174 : decode cL_arePatterns 174 = .ok (.iconst 1, 1) := by decide +kernel
theorem dL_arePatterns_175 : decode cL_arePatterns 175 = .ok (.goto 4, 3) := by decide +kernel
theorem dL_arePatterns_178 : decode cL_arePatterns 178 = .ok (.iconst 0, 1) := by decide +kernel
theorem dL_arePatterns_179 : decode cL_arePatterns 179 = .ok (.istore 5, 2) := by decide +kernel
theorem dL_arePatterns_181 : decode cL_arePatterns 181 = .ok (.iinc 8 1, 3) := by decide +kernel
theorem dL_arePatterns_184 : decode cL_arePatterns 184 = .ok (.goto (-70), 3) := by decide +kernel
theorem dL_arePatterns_187 : decode cL_arePatterns 187 = .ok (.iconst 0, 1) := by decide +kernel
theorem dL_arePatterns_188 : decode cL_arePatterns 188 = .ok (.istore 8, 2) := by decide +kernel
theorem dL_arePatterns_190 : decode cL_arePatterns 190 = .ok (.iload 8, 2) := by decide +kernel
theorem dL_arePatterns_192 : decode cL_arePatterns 192 = .ok (.aload_n 1, 1) := by decide +kernel
theorem dL_arePatterns_193 : decode cL_arePatterns 193 = .ok (.bipush 40, 2) := by decide +kernel
theorem dL_arePatterns_195 : decode cL_arePatterns 195 = .ok (.iaload, 1) := by decide +kernel
theorem dL_arePatterns_196 : decode cL_arePatterns 196 = .ok (.if_icmp .ge 62, 3) := by decide +kernel
theorem dL_arePatterns_199 : decode cL_arePatterns 199 = .ok (.iload 5, 2) := by decide +kernel
theorem dL_arePatterns_201 : decode cL_arePatterns 201 = .ok (.ifCond .eq 57, 3) := by decide +kernel
theorem dL_arePatterns_204 : decode cL_arePatterns 204 = .ok (.aload_n 1, 1) := by decide +kernel
theorem dL_arePatterns_205 : decode cL_arePatterns 205 = .ok (.iload 8, 2) := by decide +kernel
theorem dL_arePatterns_207 : decode cL_arePatterns 207 = .ok (.iaload, 1) := by decide +kernel
theorem dL_arePatterns_208 : decode cL_arePatterns 208 = .ok (.ifCond .eq 37, 3) := by decide +kernel
theorem dL_arePatterns_211 : decode cL_arePatterns 211 = .ok (.aload_n 0, 1) := by decide +kernel
theorem dL_arePatterns_212 : decode cL_arePatterns 212 = .ok (.iload 6, 2) := by decide +kernel
theorem dL_arePatterns_214 : decode cL_arePatterns 214 = .ok (.iload 8, 2) := by decide +kernel
theorem dL_arePatterns_216 : decode cL_arePatterns 216 = .ok (.invokevirtual 94, 3) := by decide +kernel
theorem dL_arePatterns_219 : decode cL_arePatterns 219 = .ok (.aload_n 0, 1) := by decide +kernel
theorem dL_arePatterns_220 : decode cL_arePatterns 220 = .ok (.iload 6, 2) := by decide +kernel
theorem dL_arePatterns_222 : decode cL_arePatterns 222 = .ok (.invokevirtual 87, 3) := by decide +kernel
theorem dL_arePatterns_225 : decode cL_arePatterns 225 = .ok (.if_icmp .gt 24, 3) := by decide +kernel
theorem dL_arePatterns_228 : decode cL_arePatterns 228 = .ok (.aload_n 0, 1) := by decide +kernel
theorem dL_arePatterns_229 : decode cL_arePatterns 229 = .ok (.iload 6, 2) := by decide +kernel
theorem dL_arePatterns_231 : decode cL_arePatterns 231 = .ok (.iload 8, 2) := by decide +kernel
theorem dL_arePatterns_233 : decode cL_arePatterns 233 = .ok (.invokevirtual 94, 3) := by decide +kernel
theorem dL_arePatterns_236 : decode cL_arePatterns 236 = .ok (.aload_n 0, 1) := by decide +kernel
theorem dL_arePatterns_237 : decode cL_arePatterns 237 = .ok (.iload 8, 2) := by decide +kernel
theorem dL_arePatterns_239 : decode cL_arePatterns 239 = .ok (.invokevirtual 40, 3) := by decide +kernel
theorem dL_arePatterns_242 : decode cL_arePatterns 242 = .ok (.if_icmp .ge 7, 3) := by decide +kernel
theorem dL_arePatterns_245 : decode cL_arePatterns 245 = .ok (.iconst 1, 1) := by decide +kernel
theorem dL_arePatterns_246 : decode cL_arePatterns 246 = .ok (.goto 4, 3) := by decide +kernel
theorem dL_arePatterns_249 : decode cL_arePatterns 249 = .ok (.iconst 0, 1) := by decide +kernel
theorem dL_arePatterns_250 : decode cL_arePatterns 250 = .ok (.istore 5, 2) := by decide +kernel
theorem dL_arePatterns_252 : decode cL_arePatterns 252 = .ok (.iinc 8 1, 3) := by decide +kernel
theorem dL_arePatterns_255 : decode cL_arePatterns 255 = .ok (.goto (-65), 3) := by decide +kernel
theorem dL_arePatterns_258 : decode cL_arePatterns 258 = .ok (.iinc 6 1, 3) := by decide +kernel
theorem dL_arePatterns_261 : decode cL_arePatterns 261 = .ok (.goto (-248), 3) := by decide +kernel
theorem dL_arePatterns_264 : decode cL_arePatterns 264 = .ok (.iload 5, 2) := by decide +kernel
theorem dL_arePatterns_266 : decode cL_arePatterns 266 = .ok (.ifCond .eq 32, 3) := by decide +kernel
theorem dL_arePatterns_269 : decode cL_arePatterns 269 = .ok (.aload_n 0, 1) := by decide +kernel
theorem dL_arePatterns_270 : decode cL_arePatterns 270 = .ok (.invokevirtual 58, 3) := by decide +kernel
theorem dL_arePatterns_273 : decode cL_arePatterns 273 = .ok (.iload_n 2, 1) := by decide +kernel
theorem dL_arePatterns_274 : decode cL_arePatterns 274 = .ok (.if_icmp .ne 24, 3) := by decide +kernel
theorem dL_arePatterns_277 : decode cL_arePatterns 277 = .ok (.aload_n 0, 1) := by decide +kernel
theorem dL_arePatterns_278 : decode cL_arePatterns 278 = .ok (.invokevirtual 97, 3) := by decide +kernel
theorem dL_arePatterns_281 : decode cL_arePatterns 281 = .ok (.iload_n 3, 1) := by decide +kernel
theorem dL_arePatterns_282 : decode cL_arePatterns 282 = .ok (.if_icmp .gt 16, 3) := by decide +kernel
theorem dL_arePatterns_285 : decode cL_arePatterns 285 = .ok (.aload_n 0, 1) := by decide +kernel
theorem dL_arePatterns_286 : decode cL_arePatterns 286 = .ok (.invokevirtual 97, 3) := by decide +kernel
theorem dL_arePatterns_289 : decode cL_arePatterns 289 = .ok (.iload 4, 2) := by decide +kernel
theorem dL_arePatterns_291 : decode cL_arePatterns 291 = .ok (.if_icmp .lt 7, 3) := by decide +kernel
theorem dL_arePatterns_294 : decode cL_arePatterns 294 = .ok (.iconst 1, 1) := by decide +kernel
theorem dL_arePatterns_295 : decode cL_arePatterns 295 = .ok (.goto 4, 3) := by decide +kernel
theorem dL_arePatterns_298 : decode cL_arePatterns 298 = .ok (.iconst 0, 1) := by decide +kernel
theorem dL_arePatterns_299 : decode cL_arePatterns 299 = .ok (.ireturn, 1) := by decide +kernel
theorem dL_areEnding_0 : decode cL_areEnding 0 = .ok (.aload_n 0, 1) := by decide +kernel
theorem dL_areEnding_1 : decode cL_areEnding 1 = .ok (.invokevirtual 55, 3) := by decide +kernel
theorem dL_areEnding_4 : decode cL_areEnding 4 = .ok (.bipush 8, 2) := by decide +kernel
theorem dL_areEnding_6 : decode cL_areEnding 6 = .ok (.if_icmp .gt 18, 3) := by decide +kernel
theorem dL_areEnding_9 : decode cL_areEnding 9 = .ok (.aload_n 0, 1) := by decide +kernel
theorem dL_areEnding_10 : decode cL_areEnding 10 = .ok (.invokevirtual 55, 3) := by decide +kernel
theorem dL_areEnding_13 : decode cL_areEnding 13 = .ok (.aload_n 0, 1) := by decide +kernel
theorem dL_areEnding_14 : decode cL_areEnding 14 = .ok (.invokevirtual 37, 3) := by decide +kernel
theorem dL_areEnding_17 : decode cL_areEnding 17 = .ok (.if_icmp .gt 7, 3) := by decide +kernel
theorem dL_areEnding_20 : decode cL_areEnding 20 = .ok (.iconst 1, 1) := by decide +kernel
theorem dL_areEnding_21 : decode cL_areEnding 21 = .ok (.goto 4, 3) := by decide +kernel
theorem dL_areEnding_24 : decode cL_areEnding 24 = .ok (.iconst 0, 1) := by decide +kernel
theorem dL_areEnding_25 : decode cL_areEnding 25 = .ok (.istore_n 1, 1) := by decide +kernel
theorem dL_areEnding_26 : decode cL_areEnding 26 = .ok (.bipush 9, 2) := by decide +kernel
theorem dL_areEnding_28 : decode cL_areEnding 28 = .ok (.istore_n 2, 1) := by decide +kernel
theorem dL_areEnding_29 : decode cL_areEnding 29 = .ok (.iconst 0, 1) := by decide +kernel
theorem dL_areEnding_30 : decode cL_areEnding 30 = .ok (.istore_n 3, 1) := by decide +kernel
theorem dL_areEnding_31 : decode cL_areEnding 31 = .ok (.iload_n 3, 1) := by decide +kernel
theorem dL_areEnding_32 : decode cL_areEnding 32 = .ok (.aload_n 0, 1) := by decide +kernel
theorem dL_areEnding_33 : decode cL_areEnding 33 = .ok (.invokevirtual 49, 3) := by decide +kernel
theorem dL_areEnding_36 : decode cL_areEnding 36 = .ok (.if_icmp .ge 84, 3) := by decide +kernel
theorem dL_areEnding_39 : decode cL_areEnding 39 = .ok (.iload_n 1, 1) := by decide +kernel
theorem dL_areEnding_40 : decode cL_areEnding 40 = .ok (.ifCond .eq 80, 3) := by decide +kernel
theorem dL_areEnding_43 : decode cL_areEnding 43 = .ok (.aload_n 0, 1) := by decide +kernel
theorem dL_areEnding_44 : decode cL_areEnding 44 = .ok (.iload_n 3, 1) := by decide +kernel
theorem dL_areEnding_45 : decode cL_areEnding 45 = .ok (.invokevirtual 100, 3) := by decide +kernel
theorem dL_areEnding_48 : decode cL_areEnding 48 = .ok (.istore 4, 2) := by decide +kernel
theorem dL_areEnding_50 : decode cL_areEnding 50 = .ok (.aload_n 0, 1) := by decide +kernel
theorem dL_areEnding_51 : decode cL_areEnding 51 = .ok (.iload 4, 2) := by decide +kernel
theorem dL_areEnding_53 : decode cL_areEnding 53 = .ok (.invokevirtual 40, 3) := by decide +kernel
theorem dL_areEnding_56 : decode cL_areEnding 56 = .ok (.iload_n 2, 1) := by decide +kernel
theorem dL_areEnding_57 : decode cL_areEnding 57 = .ok (.if_icmp .ge 48, 3) := by decide +kernel
theorem dL_areEnding_60 : decode cL_areEnding 60 = .ok (.aload_n 0, 1) := by decide +kernel
theorem dL_areEnding_61 : decode cL_areEnding 61 = .ok (.iload 4, 2) := by decide +kernel
theorem dL_areEnding_63 : decode cL_areEnding 63 = .ok (.invokevirtual 40, 3) := by decide +kernel
theorem dL_areEnding_66 : decode cL_areEnding 66 = .ok (.aload_n 0, 1) := by decide +kernel
theorem dL_areEnding_67 : decode cL_areEnding 67 = .ok (.invokevirtual 55, 3) := by decide +kernel
theorem dL_areEnding_70 : decode cL_areEnding 70 = .ok (.if_icmp .gt 35, 3) := by decide +kernel
theorem dL_areEnding_73 : decode cL_areEnding 73 = .ok (.aload_n 0, 1) := by decide +kernel
theorem dL_areEnding_74 : decode cL_areEnding 74 = .ok (.iload 4, 2) := by decide +kernel
theorem dL_areEnding_76 : decode cL_areEnding 76 = .ok (.aload_n 0, 1) := by decide +kernel
theorem dL_areEnding_77 : decode cL_areEnding 77 = .ok (.iload 4, 2) := by decide +kernel
theorem dL_areEnding_79 : decode cL_areEnding 79 = .ok (.invokevirtual 84, 3) := by decide +kernel
theorem dL_areEnding_82 : decode cL_areEnding 82 = .ok (.iconst 1, 1) := by decide +kernel
theorem dL_areEnding_83 : decode cL_areEnding 83 = .ok (.isub, 1) := by decide +kernel
theorem dL_areEnding_84 : decode cL_areEnding 84 = .ok (.invokevirtual 90, 3) := by decide +kernel
theorem dL_areEnding_87 : decode cL_areEnding 87 = .ok (.aload_n 0, 1) := by decide +kernel
theorem dL_areEnding_88 : decode cL_areEnding 88 = .ok (.iload 4, 2) := by decide +kernel
theorem dL_areEnding_90 : decode cL_areEnding 90 = .ok (.invokevirtual 40, 3) := by decide +kernel
theorem dL_areEnding_93 : decode cL_areEnding 93 = .ok (.iadd, 1) := by decide +kernel
theorem dL_areEnding_94 : decode cL_areEnding 94 = .ok (.aload_n 0, 1) := by decide +kernel
theorem dL_areEnding_95 : decode cL_areEnding 95 = .ok (.invokevirtual 37, 3) := by decide +kernel
theorem dL_areEnding_98 : decode cL_areEnding 98 = .ok (.if_icmp .ne 7, 3) := by decide +kernel
theorem dL_areEnding_101 : decode cL_areEnding 101 = .ok (.iconst 1, 1) := by decide +kernel
theorem dL_areEnding_102 : decode cL_areEnding 102 = .ok (.goto 4, 3) := by decide +kernel
theorem dL_areEnding_105 : decode cL_areEnding 105 = .ok (.iconst 0, 1) := by decide +kernel
theorem dL_areEnding_106 : decode cL_areEnding 106 = .ok (.istore_n 1, 1) := by decide +kernel
theorem dL_areEnding_107 : decode cL_areEnding 107 = .ok (.aload_n 0, 1) := by decide +kernel
theorem dL_areEnding_108 : decode cL_areEnding 108 = .ok (.iload 4, 2) := by decide +kernel
theorem dL_areEnding_110 : decode cL_areEnding 110 = .ok (.invokevirtual 40, 3) := by decide +kernel
theorem dL_areEnding_113 : decode cL_areEnding 113 = .ok (.istore_n 2, 1) := by decide +kernel
theorem dL_areEnding_114 : decode cL_areEnding 114 = .ok (.iinc 3 1, 3) := by decide +kernel
theorem dL_areEnding_117 : decode cL_areEnding 117 = .ok (.goto (-86), 3) := by decide +kernel
theorem dL_areEnding_120 : decode cL_areEnding 120 = .ok (.iload_n 1, 1) := by decide +kernel
theorem dL_areEnding_121 : decode cL_areEnding 121 = .ok (.ireturn, 1) := by decide +kernel
theorem dL_areChosen_0 : decode cL_areChosen 0 = .ok (.aload_n 0, 1) := by decide +kernel
theorem dL_areChosen_1 : decode cL_areChosen 1 = .ok (.iload_n 2, 1) := by decide +kernel
theorem dL_areChosen_2 : decode cL_areChosen 2 = .ok (.invokevirtual 103, 3) := by decide +kernel
theorem dL_areChosen_5 : decode cL_areChosen 5 = .ok (.istore_n 3, 1) := by decide +kernel
theorem dL_areChosen_6 : decode cL_areChosen 6 = .ok (.iconst 0, 1) := by decide +kernel
theorem dL_areChosen_7 : decode cL_areChosen 7 = .ok (.istore 4, 2) := by decide +kernel
theorem dL_areChosen_9 : decode cL_areChosen 9 = .ok (.aload_n 0, 1) := by decide +kernel
theorem dL_areChosen_10 : decode cL_areChosen 10 = .ok (.invokevirtual 37, 3) := by decide +kernel
theorem dL_areChosen_13 : decode cL_areChosen 13 = .ok (.istore 5, 2) := by decide +kernel
theorem dL_areChosen_15 : decode cL_areChosen 15 = .ok (.iconst 0, 1) := by decide +kernel
theorem dL_areChosen_16 : decode cL_areChosen 16 = .ok (.istore 6, 2) := by decide +kernel
theorem dL_areChosen_18 : decode cL_areChosen 18 = .ok (.iload_n 3, 1) := by decide +kernel
theorem dL_areChosen_19 : decode cL_areChosen 19 = .ok (.aload_n 0, 1) := by decide +kernel
theorem dL_areChosen_20 : decode cL_areChosen 20 = .ok (.invokevirtual 106, 3) := by decide +kernel
theorem dL_areChosen_23 : decode cL_areChosen 23 = .ok (.if_icmp .gt 20, 3) := by decide +kernel
theorem dL_areChosen_26 : decode cL_areChosen 26 = .ok (.iload_n 2, 1) := by decide +kernel
theorem dL_areChosen_27 : decode cL_areChosen 27 = .ok (.iconst 2, 1) := by decide +kernel
theorem dL_areChosen_28 : decode cL_areChosen 28 = .ok (.if_icmp .lt 11, 3) := by decide +kernel
theorem dL_areChosen_31 : decode cL_areChosen 31 = .ok (.iload_n 3, 1) := by decide +kernel
theorem dL_areChosen_32 : decode cL_areChosen 32 = .ok (.aload_n 0, 1) := by decide +kernel
theorem dL_areChosen_33 : decode cL_areChosen 33 = .ok (.invokevirtual 106, 3) := by decide +kernel
theorem dL_areChosen_36 : decode cL_areChosen 36 = .ok (.if_icmp .ne 7, 3) := by decide +kernel
theorem dL_areChosen_39 : decode cL_areChosen 39 = .ok (.iconst 1, 1) := by decide +kernel
theorem dL_areChosen_40 : decode cL_areChosen 40 = .ok (.goto 4, 3) := by decide +kernel
theorem dL_areChosen_43 : decode cL_areChosen 43 = .ok (.iconst 0, 1) := by decide +kernel
theorem dL_areChosen_44 : decode cL_areChosen 44 = .ok (.istore 7, 2) := by decide +kernel
theorem dL_areChosen_46 : decode cL_areChosen 46 = .ok (.iconst 0, 1) := by decide +kernel
theorem dL_areChosen_47 : decode cL_areChosen 47 = .ok (.istore 8, 2) := by decide +kernel
theorem dL_areChosen_49 : decode cL_areChosen 49 = .ok (.iload 8, 2) := by decide +kernel
theorem dL_areChosen_51 : decode cL_areChosen 51 = .ok (.iload_n 3, 1) := by decide +kernel
theorem dL_areChosen_52 : decode cL_areChosen 52 = .ok (.if_icmp .ge 97, 3) := by decide +kernel
theorem dL_areChosen_55 : decode cL_areChosen 55 = .ok (.iload 7, 2) := by decide +kernel
theorem dL_areChosen_57 : decode cL_areChosen 57 = .ok (.ifCond .eq 92, 3) := by decide +kernel
theorem dL_areChosen_60 : decode cL_areChosen 60 = .ok (.aload_n 0, 1) := by decide +kernel
theorem dL_areChosen_61 : decode cL_areChosen 61 = .ok (.iload_n 2, 1) := by decide +kernel
theorem dL_areChosen_62 : decode cL_areChosen 62 = .ok (.iload 8, 2) := by decide +kernel
theorem dL_areChosen_64 : decode cL_areChosen 64 = .ok (.invokevirtual 109, 3) := by decide +kernel
theorem dL_areChosen_67 : decode cL_areChosen 67 = .ok (.istore 9, 2) := by decide +kernel
theorem dL_areChosen_69 : decode cL_areChosen 69 = .ok (.aload_n 0, 1) := by decide +kernel
theorem dL_areChosen_70 : decode cL_areChosen 70 = .ok (.iload_n 2, 1) := by decide +kernel
theorem dL_areChosen_71 : decode cL_areChosen 71 = .ok (.iload 8, 2) := by decide +kernel
theorem dL_areChosen_73 : decode cL_areChosen 73 = .ok (.invokevirtual 112, 3) := by decide +kernel
theorem dL_areChosen_76 : decode cL_areChosen 76 = .ok (.istore 10, 2) := by decide +kernel
theorem dL_areChosen_78 : decode cL_areChosen 78 = .ok (.iload 10, 2) := by decide +kernel
theorem dL_areChosen_80 : decode cL_areChosen 80 = .ok (.iload 4, 2) := by decide +kernel
theorem dL_areChosen_82 : decode cL_areChosen 82 = .ok (.if_icmp .lt 18, 3) := by decide +kernel
theorem dL_areChosen_85 : decode cL_areChosen 85 = .ok (.aload_n 0, 1) := by decide +kernel
theorem dL_areChosen_86 : decode cL_areChosen 86 = .ok (.iload 9, 2) := by decide +kernel
theorem dL_areChosen_88 : decode cL_areChosen 88 = .ok (.iload 10, 2) := by decide +kernel
theorem dL_areChosen_90 : decode cL_areChosen 90 = .ok (.invokestatic 115, 3) := by decide +kernel
theorem dL_areChosen_93 : decode cL_areChosen 93 = .ok (.ifCond .eq 7, 3) := by decide +kernel
theorem dL_areChosen_96 : decode cL_areChosen 96 = .ok (.iconst 1, 1) := by decide +kernel
theorem dL_areChosen_97 : decode cL_areChosen 97 = .ok (.goto 4, 3) := by decide +kernel
theorem dL_areChosen_100 : decode cL_areChosen 100 = .ok (.iconst 0, 1) := by decide +kernel
theorem dL_areChosen_101 : decode cL_areChosen 101 = .ok (.istore 7, 2) := by decide +kernel
theorem dL_areChosen_103 : decode cL_areChosen 103 = .ok (.iload 10, 2) := by decide +kernel
theorem dL_areChosen_105 : decode cL_areChosen 105 = .ok (.aload_n 0, 1) := by decide +kernel
theorem dL_areChosen_106 : decode cL_areChosen 106 = .ok (.iload 9, 2) := by decide +kernel
theorem dL_areChosen_108 : decode cL_areChosen 108 = .ok (.invokevirtual 40, 3) := by decide +kernel
theorem dL_areChosen_111 : decode cL_areChosen 111 = .ok (.iadd, 1) := by decide +kernel
theorem dL_areChosen_112 : decode cL_areChosen 112 = .ok (.istore 4, 2) := by decide +kernel
theorem dL_areChosen_114 : decode cL_areChosen 114 = .ok (.iload 5, 2) := by decide +kernel
theorem dL_areChosen_116 : decode cL_areChosen 116 = .ok (.aload_n 1, 1) := by decide +kernel
theorem dL_areChosen_117 : decode cL_areChosen 117 = .ok (.iload 9, 2) := by decide +kernel
theorem dL_areChosen_119 : decode cL_areChosen 119 = .ok (.iaload, 1) := by decide +kernel
theorem dL_areChosen_120 : decode cL_areChosen 120 = .ok (.iconst 1, 1) := by decide +kernel
theorem dL_areChosen_121 : decode cL_areChosen 121 = .ok (.isub, 1) := by decide +kernel
theorem dL_areChosen_122 : decode cL_areChosen 122 = .ok (.aload_n 0, 1) := by decide +kernel
theorem dL_areChosen_123 : decode cL_areChosen 123 = .ok (.iload 9, 2) := by decide +kernel
theorem dL_areChosen_125 : decode cL_areChosen 125 = .ok (.invokevirtual 40, 3) := by decide +kernel
theorem dL_areChosen_128 : decode cL_areChosen 128 = .ok (.isub, 1) := by decide +kernel
theorem dL_areChosen_129 : decode cL_areChosen 129 = .ok (.iadd, 1) := by decide +kernel
theorem dL_areChosen_130 : decode cL_areChosen 130 = .ok (.istore 5, 2) := by decide +kernel
theorem dL_areChosen_132 : decode cL_areChosen 132 = .ok (.iload 6, 2) := by decide +kernel
theorem dL_areChosen_134 : decode cL_areChosen 134 = .ok (.aload_n 0, 1) := by decide +kernel
theorem dL_areChosen_135 : decode cL_areChosen 135 = .ok (.iload 9, 2) := by decide +kernel
theorem dL_areChosen_137 : decode cL_areChosen 137 = .ok (.invokevirtual 40, 3) := by decide +kernel
theorem dL_areChosen_140 : decode cL_areChosen 140 = .ok (.iadd, 1) := by decide +kernel
theorem dL_areChosen_141 : decode cL_areChosen 141 = .ok (.istore 6, 2) := by decide +kernel
theorem dL_areChosen_143 : decode cL_areChosen 143 = .ok (.iinc 8 1, 3) := by decide +kernel
theorem dL_areChosen_146 : decode cL_areChosen 146 = .ok (.goto (-97), 3) := by decide +kernel
theorem dL_areChosen_149 : decode cL_areChosen 149 = .ok (.iload 7, 2) := by decide +kernel
theorem dL_areChosen_151 : decode cL_areChosen 151 = .ok (.ifCond .eq 46, 3) := by decide +kernel
theorem dL_areChosen_154 : decode cL_areChosen 154 = .ok (.iload 4, 2) := by decide +kernel
theorem dL_areChosen_156 : decode cL_areChosen 156 = .ok (.aload_n 0, 1) := by decide +kernel
theorem dL_areChosen_157 : decode cL_areChosen 157 = .ok (.invokevirtual 37, 3) := by decide +kernel
theorem dL_areChosen_160 : decode cL_areChosen 160 = .ok (.if_icmp .gt 37, 3) := by decide +kernel
theorem dL_areChosen_163 : decode cL_areChosen 163 = .ok (.aload_n 0, 1) := by decide +kernel
theorem dL_areChosen_164 : decode cL_areChosen 164 = .ok (.iload_n 2, 1) := by decide +kernel
theorem dL_areChosen_165 : decode cL_areChosen 165 = .ok (.invokevirtual 119, 3) := by decide +kernel
theorem dL_areChosen_168 : decode cL_areChosen 168 = .ok (.iload 5, 2) := by decide +kernel
theorem dL_areChosen_170 : decode cL_areChosen 170 = .ok (.if_icmp .ne 27, 3) := by decide +kernel
theorem dL_areChosen_173 : decode cL_areChosen 173 = .ok (.aload_n 0, 1) := by decide +kernel
theorem dL_areChosen_174 : decode cL_areChosen 174 = .ok (.invokevirtual 122, 3) := by decide +kernel
theorem dL_areChosen_177 : decode cL_areChosen 177 = .ok (.iload 6, 2) := by decide +kernel
theorem dL_areChosen_179 : decode cL_areChosen 179 = .ok (.if_icmp .lt 18, 3) := by decide +kernel
theorem dL_areChosen_182 : decode cL_areChosen 182 = .ok (.aload_n 0, 1) := by decide +kernel
theorem dL_areChosen_183 : decode cL_areChosen 183 = .ok (.invokevirtual 122, 3) := by decide +kernel
theorem dL_areChosen_186 : decode cL_areChosen 186 = .ok (.aload_n 0, 1) := by decide +kernel
theorem dL_areChosen_187 : decode cL_areChosen 187 = .ok (.invokevirtual 37, 3) := by decide +kernel
theorem dL_areChosen_190 : decode cL_areChosen 190 = .ok (.if_icmp .gt 7, 3) := by decide +kernel
theorem dL_areChosen_193 : decode cL_areChosen 193 = .ok (.iconst 1, 1) := by decide +kernel
theorem dL_areChosen_194 : decode cL_areChosen 194 = .ok (.goto 4, 3) := by decide +kernel
theorem dL_areChosen_197 : decode cL_areChosen 197 = .ok (.iconst 0, 1) := by decide +kernel
theorem dL_areChosen_198 : decode cL_areChosen 198 = .ok (.ireturn, 1) := by decide +kernel
theorem dL_isOccurrence_0 : decode cL_isOccurrence 0 = .ok (.iconst 0, 1) := by decide +kernel
theorem dL_isOccurrence_1 : decode cL_isOccurrence 1 = .ok (.istore_n 3, 1) := by decide +kernel
theorem dL_isOccurrence_2 : decode cL_isOccurrence 2 = .ok (.iconst 0, 1) := by decide +kernel
theorem dL_isOccurrence_3 : decode cL_isOccurrence 3 = .ok (.istore 4, 2) := by decide +kernel
theorem dL_isOccurrence_5 : decode cL_isOccurrence 5 = .ok (.iload 4, 2) := by decide +kernel
theorem dL_isOccurrence_7 : decode cL_isOccurrence 7 = .ok (.aload_n 0, 1) := by decide +kernel
theorem dL_isOccurrence_8 : decode cL_isOccurrence 8 = .ok (.iload_n 1, 1) := by decide +kernel
theorem dL_isOccurrence_9 : decode cL_isOccurrence 9 = .ok (.invokevirtual 84, 3) := by decide +kernel
theorem dL_isOccurrence_12 : decode cL_isOccurrence 12 = .ok (.if_icmp .ge 30, 3) := by decide +kernel
theorem dL_isOccurrence_15 : decode cL_isOccurrence 15 = .ok (.iload_n 3, 1) := by decide +kernel
theorem dL_isOccurrence_16 : decode cL_isOccurrence 16 = .ok (.ifCond .ne 14, 3) := by decide +kernel
theorem dL_isOccurrence_19 : decode cL_isOccurrence 19 = .ok (.aload_n 0, 1) := by decide +kernel
theorem dL_isOccurrence_20 : decode cL_isOccurrence 20 = .ok (.iload_n 1, 1) := by decide +kernel
theorem dL_isOccurrence_21 : decode cL_isOccurrence 21 = .ok (.iload 4, 2) := by decide +kernel
theorem dL_isOccurrence_23 : decode cL_isOccurrence 23 = .ok (.invokevirtual 90, 3) := by decide +kernel
theorem dL_isOccurrence_26 : decode cL_isOccurrence 26 = .ok (.iload_n 2, 1) := by decide +kernel
theorem dL_isOccurrence_27 : decode cL_isOccurrence 27 = .ok (.if_icmp .ne 7, 3) := by decide +kernel
theorem dL_isOccurrence_30 : decode cL_isOccurrence 30 = .ok (.iconst 1, 1) := by decide +kernel
theorem dL_isOccurrence_31 : decode cL_isOccurrence 31 = .ok (.goto 4, 3) := by decide +kernel
theorem dL_isOccurrence_34 : decode cL_isOccurrence 34 = .ok (.iconst 0, 1) := by decide +kernel
theorem dL_isOccurrence_35 : decode cL_isOccurrence 35 = .ok (.istore_n 3, 1) := by decide +kernel
theorem dL_isOccurrence_36 : decode cL_isOccurrence 36 = .ok (.iinc 4 1, 3) := by decide +kernel
theorem dL_isOccurrence_39 : decode cL_isOccurrence 39 = .ok (.goto (-34), 3) := by decide +kernel
theorem dL_isOccurrence_42 : decode cL_isOccurrence 42 = .ok (.iload_n 3, 1) := by decide +kernel
theorem dL_isOccurrence_43 : decode cL_isOccurrence 43 = .ok (.ireturn, 1) := by decide +kernel
