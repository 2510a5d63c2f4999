theorem dX0_init_0 : decode cX0_init 0 = .ok (.aload_n 0, 1) := by decide +kernel
theorem dX0_init_1 : decode cX0_init 1 = .ok (.invokespecial 5, 3) := by decide +kernel
theorem dX0_init_4 : decode cX0_init 4 = .ok (.aload_n 0, 1) := by decide +kernel
theorem dX0_init_5 : decode cX0_init 5 = .ok (.sipush 481, 3) := by decide +kernel
theorem dX0_init_8 : decode cX0_init 8 = .ok (.newarray .int, 2) := by decide +kernel
theorem dX0_init_10 : decode cX0_init 10 = .ok (.putfield 11, 3) := by decide +kernel
theorem dX0_init_13 : decode cX0_init 13 = .ok (.aload_n 0, 1) := by decide +kernel
theorem dX0_init_14 : decode cX0_init 14 = .ok (.bipush 81, 2) := by decide +kernel
theorem dX0_init_16 : decode cX0_init 16 = .ok (.newarray .int, 2) := by decide +kernel
theorem dX0_init_18 : decode cX0_init 18 = .ok (.putfield 15, 3) := by decide +kernel
theorem dX0_init_21 : decode cX0_init 21 = .ok (.aload_n 0, 1) := by decide +kernel
theorem dX0_init_22 : decode cX0_init 22 = .ok (.aload_n 1, 1) := by decide +kernel
theorem dX0_init_23 : decode cX0_init 23 = .ok (.putfield 18, 3) := by decide +kernel
theorem dX0_init_26 : decode cX0_init 26 = .ok (.return_, 1) := by decide +kernel
theorem dX0_forget_0 : decode cX0_forget 0 = .ok (.aload_n 0, 1) := by decide +kernel
theorem dX0_forget_1 : decode cX0_forget 1 = .ok (.iconst 0, 1) := by decide +kernel
theorem dX0_forget_2 : decode cX0_forget 2 = .ok (.putfield 22, 3) := by decide +kernel
theorem dX0_forget_5 : decode cX0_forget 5 = .ok (.return_, 1) := by decide +kernel
theorem dX0_reckon_0 : decode cX0_reckon 0 = .ok (.aload_n 0, 1) := by decide +kernel
theorem dX0_reckon_1 : decode cX0_reckon 1 = .ok (.getfield 22, 3) := by decide +kernel
theorem dX0_reckon_4 : decode cX0_reckon 4 = .ok (.ifCond .eq 20, 3) := by decide +kernel
theorem dX0_reckon_7 : decode cX0_reckon 7 = .ok (.aload_n 0, 1) := by decide +kernel
theorem dX0_reckon_8 : decode cX0_reckon 8 = .ok (.getfield 26, 3) := by decide +kernel
theorem dX0_reckon_11 : decode cX0_reckon 11 = .ok (.iload_n 1, 1) := by decide +kernel
theorem dX0_reckon_12 : decode cX0_reckon 12 = .ok (.if_icmp .ne 12, 3) := by decide +kernel
theorem dX0_reckon_15 : decode cX0_reckon 15 = .ok (.aload_n 0, 1) := by decide +kernel
theorem dX0_reckon_16 : decode cX0_reckon 16 = .ok (.getfield 30, 3) := by decide +kernel
theorem dX0_reckon_19 : decode cX0_reckon 19 = .ok (.iload_n 2, 1) := by decide +kernel
theorem dX0_reckon_20 : decode cX0_reckon 20 = .ok (.if_icmp .ne 4, 3) := by decide +kernel
theorem dX0_reckon_23 : decode cX0_reckon 23 = .ok (.return_, 1) := by decide +kernel
theorem dX0_reckon_24 : decode cX0_reckon 24 = .ok (.aload_n 0, 1) := by decide +kernel
theorem dX0_reckon_25 : decode cX0_reckon 25 = .ok (.iconst 1, 1) := by decide +kernel
theorem dX0_reckon_26 : decode cX0_reckon 26 = .ok (.putfield 22, 3) := by decide +kernel
theorem dX0_reckon_29 : decode cX0_reckon 29 = .ok (.aload_n 0, 1) := by decide +kernel
theorem dX0_reckon_30 : decode cX0_reckon 30 = .ok (.iload_n 1, 1) := by decide +kernel
theorem dX0_reckon_31 : decode cX0_reckon 31 = .ok (.putfield 26, 3) := by decide +kernel
theorem dX0_reckon_34 : decode cX0_reckon 34 = .ok (.aload_n 0, 1) := by decide +kernel
theorem dX0_reckon_35 : decode cX0_reckon 35 = .ok (.iload_n 2, 1) := by decide +kernel
theorem dX0_reckon_36 : decode cX0_reckon 36 = .ok (.putfield 30, 3) := by decide +kernel
theorem dX0_reckon_39 : decode cX0_reckon 39 = .ok (.aload_n 0, 1) := by decide +kernel
theorem dX0_reckon_40 : decode cX0_reckon 40 = .ok (.getfield 11, 3) := by decide +kernel
theorem dX0_reckon_43 : decode cX0_reckon 43 = .ok (.ldc 33, 2) := by decide +kernel
theorem dX0_reckon_45 : decode cX0_reckon 45 = .ok (.invokestatic 34, 3) := by decide +kernel
theorem dX0_reckon_48 : decode cX0_reckon 48 = .ok (.aload_n 0, 1) := by decide +kernel
theorem dX0_reckon_49 : decode cX0_reckon 49 = .ok (.getfield 11, 3) := by decide +kernel
theorem dX0_reckon_52 : decode cX0_reckon 52 = .ok (.iconst 0, 1) := by decide +kernel
theorem dX0_reckon_53 : decode cX0_reckon 53 = .ok (.iconst 0, 1) := by decide +kernel
theorem dX0_reckon_54 : decode cX0_reckon 54 = .ok (.iastore, 1) := by decide +kernel
theorem dX0_reckon_55 : decode cX0_reckon 55 = .ok (.iconst 0, 1) := by decide +kernel
theorem dX0_reckon_56 : decode cX0_reckon 56 = .ok (.istore_n 3, 1) := by decide +kernel
theorem dX0_reckon_57 : decode cX0_reckon 57 = .ok (.iload_n 3, 1) := by decide +kernel
theorem dX0_reckon_58 : decode cX0_reckon 58 = .ok (.aload_n 0, 1) := by decide +kernel
theorem dX0_reckon_59 : decode cX0_reckon 59 = .ok (.getfield 18, 3) := by decide +kernel
theorem dX0_reckon_62 : decode cX0_reckon 62 = .ok (.getfield 40, 3) := by decide +kernel
theorem dX0_reckon_65 : decode cX0_reckon 65 = .ok (.if_icmp .ge 26, 3) := by decide +kernel
theorem dX0_reckon_68 : decode cX0_reckon 68 = .ok (.aload_n 0, 1) := by decide +kernel
theorem dX0_reckon_69 : decode cX0_reckon 69 = .ok (.getfield 26, 3) := by decide +kernel
theorem dX0_reckon_72 : decode cX0_reckon 72 = .ok (.iload_n 3, 1) := by decide +kernel
theorem dX0_reckon_73 : decode cX0_reckon 73 = .ok (.invokestatic 45, 3) := by decide +kernel
theorem dX0_reckon_76 : decode cX0_reckon 76 = .ok (.iconst 1, 1) := by decide +kernel
theorem dX0_reckon_77 : decode cX0_reckon 77 = .ok (.if_icmp .ne 8, 3) := by decide +kernel
theorem dX0_reckon_80 : decode cX0_reckon 80 = .ok (.aload_n 0, 1) := by decide +kernel
theorem dX0_reckon_81 : decode cX0_reckon 81 = .ok (.iload_n 3, 1) := by decide +kernel
theorem dX0_reckon_82 : decode cX0_reckon 82 = .ok (.invokevirtual 49, 3) := by decide +kernel
theorem dX0_reckon_85 : decode cX0_reckon 85 = .ok (.iinc 3 1, 3) := by decide +kernel
theorem dX0_reckon_88 : decode cX0_reckon 88 = .ok (.goto (-31), 3) := by decide +kernel
theorem dX0_reckon_91 : decode cX0_reckon 91 = .ok (.return_, 1) := by decide +kernel
theorem dX0_has_0 : decode cX0_has 0 = .ok (.aload_n 0, 1) := by decide +kernel
theorem dX0_has_1 : decode cX0_has 1 = .ok (.getfield 11, 3) := by decide +kernel
theorem dX0_has_4 : decode cX0_has 4 = .ok (.iload_n 1, 1) := by decide +kernel
theorem dX0_has_5 : decode cX0_has 5 = .ok (.iaload, 1) := by decide +kernel
theorem dX0_has_6 : decode cX0_has 6 = .ok (.ldc 33, 2) := by decide +kernel
theorem dX0_has_8 : decode cX0_has 8 = .ok (.if_icmp .ge 7, 3) := by decide +kernel
theorem dX0_has_11 : decode cX0_has 11 = .ok (.iconst 1, 1) := by decide +kernel
theorem dX0_has_12 : decode cX0_has 12 = .ok (.goto 4, 3) := by decide +kernel
theorem dX0_has_15 : decode cX0_has 15 = .ok (.iconst 0, 1) := by decide +kernel
theorem dX0_has_16 : decode cX0_has 16 = .ok (.ireturn, 1) := by decide +kernel
theorem dX0_setFor_0 : decode cX0_setFor 0 = .ok (.aload_n 0, 1) := by decide +kernel
theorem dX0_setFor_1 : decode cX0_setFor 1 = .ok (.getfield 11, 3) := by decide +kernel
theorem dX0_setFor_4 : decode cX0_setFor 4 = .ok (.iload_n 1, 1) := by decide +kernel
theorem dX0_setFor_5 : decode cX0_setFor 5 = .ok (.iaload, 1) := by decide +kernel
theorem dX0_setFor_6 : decode cX0_setFor 6 = .ok (.bipush 63, 2) := by decide +kernel
theorem dX0_setFor_8 : decode cX0_setFor 8 = .ok (.iand, 1) := by decide +kernel
theorem dX0_setFor_9 : decode cX0_setFor 9 = .ok (.ireturn, 1) := by decide +kernel
theorem dX0_leastPower_0 : decode cX0_leastPower 0 = .ok (.aload_n 0, 1) := by decide +kernel
theorem dX0_leastPower_1 : decode cX0_leastPower 1 = .ok (.getfield 11, 3) := by decide +kernel
theorem dX0_leastPower_4 : decode cX0_leastPower 4 = .ok (.iload_n 1, 1) := by decide +kernel
theorem dX0_leastPower_5 : decode cX0_leastPower 5 = .ok (.iaload, 1) := by decide +kernel
theorem dX0_leastPower_6 : decode cX0_leastPower 6 = .ok (.bipush 9, 2) := by decide +kernel
theorem dX0_leastPower_8 : decode cX0_leastPower 8 = .ok (.ishr, 1) := by decide +kernel
theorem dX0_leastPower_9 : decode cX0_leastPower 9 = .ok (.ireturn, 1) := by decide +kernel
theorem dX0_addMachine_0 : decode cX0_addMachine 0 = .ok (.aload_n 0, 1) := by decide +kernel
theorem dX0_addMachine_1 : decode cX0_addMachine 1 = .ok (.iload_n 1, 1) := by decide +kernel
theorem dX0_addMachine_2 : decode cX0_addMachine 2 = .ok (.invokevirtual 53, 3) := by decide +kernel
theorem dX0_addMachine_5 : decode cX0_addMachine 5 = .ok (.aload_n 0, 1) := by decide +kernel
theorem dX0_addMachine_6 : decode cX0_addMachine 6 = .ok (.getfield 26, 3) := by decide +kernel
theorem dX0_addMachine_9 : decode cX0_addMachine 9 = .ok (.iconst 2, 1) := by decide +kernel
theorem dX0_addMachine_10 : decode cX0_addMachine 10 = .ok (.iload_n 1, 1) := by decide +kernel
theorem dX0_addMachine_11 : decode cX0_addMachine 11 = .ok (.ishl, 1) := by decide +kernel
theorem dX0_addMachine_12 : decode cX0_addMachine 12 = .ok (.iconst 1, 1) := by decide +kernel
theorem dX0_addMachine_13 : decode cX0_addMachine 13 = .ok (.isub, 1) := by decide +kernel
theorem dX0_addMachine_14 : decode cX0_addMachine 14 = .ok (.iand, 1) := by decide +kernel
theorem dX0_addMachine_15 : decode cX0_addMachine 15 = .ok (.istore_n 2, 1) := by decide +kernel
theorem dX0_addMachine_16 : decode cX0_addMachine 16 = .ok (.sipush 480, 3) := by decide +kernel
theorem dX0_addMachine_19 : decode cX0_addMachine 19 = .ok (.aload_n 0, 1) := by decide +kernel
theorem dX0_addMachine_20 : decode cX0_addMachine 20 = .ok (.getfield 18, 3) := by decide +kernel
theorem dX0_addMachine_23 : decode cX0_addMachine 23 = .ok (.iload_n 2, 1) := by decide +kernel
theorem dX0_addMachine_24 : decode cX0_addMachine 24 = .ok (.invokevirtual 56, 3) := by decide +kernel
theorem dX0_addMachine_27 : decode cX0_addMachine 27 = .ok (.invokestatic 60, 3) := by decide +kernel
theorem dX0_addMachine_30 : decode cX0_addMachine 30 = .ok (.istore_n 3, 1) := by decide +kernel
theorem dX0_addMachine_31 : decode cX0_addMachine 31 = .ok (.iload_n 3, 1) := by decide +kernel
theorem dX0_addMachine_32 : decode cX0_addMachine 32 = .ok (.aload_n 0, 1) := by decide +kernel
theorem dX0_addMachine_33 : decode cX0_addMachine 33 = .ok (.getfield 18, 3) := by decide +kernel
theorem dX0_addMachine_36 : decode cX0_addMachine 36 = .ok (.getfield 65, 3) := by decide +kernel
theorem dX0_addMachine_39 : decode cX0_addMachine 39 = .ok (.iload_n 1, 1) := by decide +kernel
theorem dX0_addMachine_40 : decode cX0_addMachine 40 = .ok (.iaload, 1) := by decide +kernel
theorem dX0_addMachine_41 : decode cX0_addMachine 41 = .ok (.if_icmp .lt 30, 3) := by decide +kernel
theorem dX0_addMachine_44 : decode cX0_addMachine 44 = .ok (.aload_n 0, 1) := by decide +kernel
theorem dX0_addMachine_45 : decode cX0_addMachine 45 = .ok (.getfield 11, 3) := by decide +kernel
theorem dX0_addMachine_48 : decode cX0_addMachine 48 = .ok (.iload_n 3, 1) := by decide +kernel
theorem dX0_addMachine_49 : decode cX0_addMachine 49 = .ok (.aload_n 0, 1) := by decide +kernel
theorem dX0_addMachine_50 : decode cX0_addMachine 50 = .ok (.getfield 11, 3) := by decide +kernel
theorem dX0_addMachine_53 : decode cX0_addMachine 53 = .ok (.iload_n 3, 1) := by decide +kernel
theorem dX0_addMachine_54 : decode cX0_addMachine 54 = .ok (.iaload, 1) := by decide +kernel
theorem dX0_addMachine_55 : decode cX0_addMachine 55 = .ok (.aload_n 0, 1) := by decide +kernel
theorem dX0_addMachine_56 : decode cX0_addMachine 56 = .ok (.iload_n 1, 1) := by decide +kernel
theorem dX0_addMachine_57 : decode cX0_addMachine 57 = .ok (.iload_n 3, 1) := by decide +kernel
theorem dX0_addMachine_58 : decode cX0_addMachine 58 = .ok (.invokevirtual 68, 3) := by decide +kernel
theorem dX0_addMachine_61 : decode cX0_addMachine 61 = .ok (.invokestatic 60, 3) := by decide +kernel
theorem dX0_addMachine_64 : decode cX0_addMachine 64 = .ok (.iastore, 1) := by decide +kernel
theorem dX0_addMachine_65 : decode cX0_addMachine 65 = .ok (.iinc 3 (-1), 3) := by decide +kernel
theorem dX0_addMachine_68 : decode cX0_addMachine 68 = .ok (.goto (-37), 3) := by decide +kernel
theorem dX0_addMachine_71 : decode cX0_addMachine 71 = .ok (.return_, 1) := by decide +kernel
theorem dX0_fillRow_0 : decode cX0_fillRow 0 = .ok (.aload_n 0, 1) := by decide +kernel
theorem dX0_fillRow_1 : decode cX0_fillRow 1 = .ok (.getfield 18, 3) := by decide +kernel
theorem dX0_fillRow_4 : decode cX0_fillRow 4 = .ok (.getfield 65, 3) := by decide +kernel
theorem dX0_fillRow_7 : decode cX0_fillRow 7 = .ok (.iload_n 1, 1) := by decide +kernel
theorem dX0_fillRow_8 : decode cX0_fillRow 8 = .ok (.iaload, 1) := by decide +kernel
theorem dX0_fillRow_9 : decode cX0_fillRow 9 = .ok (.istore_n 2, 1) := by decide +kernel
theorem dX0_fillRow_10 : decode cX0_fillRow 10 = .ok (.iload_n 2, 1) := by decide +kernel
theorem dX0_fillRow_11 : decode cX0_fillRow 11 = .ok (.aload_n 0, 1) := by decide +kernel
theorem dX0_fillRow_12 : decode cX0_fillRow 12 = .ok (.getfield 18, 3) := by decide +kernel
theorem dX0_fillRow_15 : decode cX0_fillRow 15 = .ok (.getfield 71, 3) := by decide +kernel
theorem dX0_fillRow_18 : decode cX0_fillRow 18 = .ok (.iload_n 1, 1) := by decide +kernel
theorem dX0_fillRow_19 : decode cX0_fillRow 19 = .ok (.iaload, 1) := by decide +kernel
theorem dX0_fillRow_20 : decode cX0_fillRow 20 = .ok (.if_icmp .gt 38, 3) := by decide +kernel
theorem dX0_fillRow_23 : decode cX0_fillRow 23 = .ok (.aload_n 0, 1) := by decide +kernel
theorem dX0_fillRow_24 : decode cX0_fillRow 24 = .ok (.getfield 15, 3) := by decide +kernel
theorem dX0_fillRow_27 : decode cX0_fillRow 27 = .ok (.iload_n 2, 1) := by decide +kernel
theorem dX0_fillRow_28 : decode cX0_fillRow 28 = .ok (.aload_n 0, 1) := by decide +kernel
theorem dX0_fillRow_29 : decode cX0_fillRow 29 = .ok (.getfield 18, 3) := by decide +kernel
theorem dX0_fillRow_32 : decode cX0_fillRow 32 = .ok (.iload_n 1, 1) := by decide +kernel
theorem dX0_fillRow_33 : decode cX0_fillRow 33 = .ok (.iload_n 2, 1) := by decide +kernel
theorem dX0_fillRow_34 : decode cX0_fillRow 34 = .ok (.aload_n 0, 1) := by decide +kernel
theorem dX0_fillRow_35 : decode cX0_fillRow 35 = .ok (.getfield 30, 3) := by decide +kernel
theorem dX0_fillRow_38 : decode cX0_fillRow 38 = .ok (.invokevirtual 74, 3) := by decide +kernel
theorem dX0_fillRow_41 : decode cX0_fillRow 41 = .ok (.bipush 9, 2) := by decide +kernel
theorem dX0_fillRow_43 : decode cX0_fillRow 43 = .ok (.ishl, 1) := by decide +kernel
theorem dX0_fillRow_44 : decode cX0_fillRow 44 = .ok (.bipush 64, 2) := by decide +kernel
theorem dX0_fillRow_46 : decode cX0_fillRow 46 = .ok (.iadd, 1) := by decide +kernel
theorem dX0_fillRow_47 : decode cX0_fillRow 47 = .ok (.iconst 1, 1) := by decide +kernel
theorem dX0_fillRow_48 : decode cX0_fillRow 48 = .ok (.iload_n 1, 1) := by decide +kernel
theorem dX0_fillRow_49 : decode cX0_fillRow 49 = .ok (.ishl, 1) := by decide +kernel
theorem dX0_fillRow_50 : decode cX0_fillRow 50 = .ok (.iadd, 1) := by decide +kernel
theorem dX0_fillRow_51 : decode cX0_fillRow 51 = .ok (.iastore, 1) := by decide +kernel
theorem dX0_fillRow_52 : decode cX0_fillRow 52 = .ok (.iinc 2 1, 3) := by decide +kernel
theorem dX0_fillRow_55 : decode cX0_fillRow 55 = .ok (.goto (-45), 3) := by decide +kernel
theorem dX0_fillRow_58 : decode cX0_fillRow 58 = .ok (.return_, 1) := by decide +kernel
theorem dX0_leastWith_0 : decode cX0_leastWith 0 = .ok (.aload_n 0, 1) := by decide +kernel
theorem dX0_leastWith_1 : decode cX0_leastWith 1 = .ok (.getfield 18, 3) := by decide +kernel
theorem dX0_leastWith_4 : decode cX0_leastWith 4 = .ok (.getfield 71, 3) := by decide +kernel
theorem dX0_leastWith_7 : decode cX0_leastWith 7 = .ok (.iload_n 1, 1) := by decide +kernel
theorem dX0_leastWith_8 : decode cX0_leastWith 8 = .ok (.iaload, 1) := by decide +kernel
theorem dX0_leastWith_9 : decode cX0_leastWith 9 = .ok (.iload_n 2, 1) := by decide +kernel
theorem dX0_leastWith_10 : decode cX0_leastWith 10 = .ok (.invokestatic 60, 3) := by decide +kernel
theorem dX0_leastWith_13 : decode cX0_leastWith 13 = .ok (.istore_n 3, 1) := by decide +kernel
theorem dX0_leastWith_14 : decode cX0_leastWith 14 = .ok (.ldc 33, 2) := by decide +kernel
theorem dX0_leastWith_16 : decode cX0_leastWith 16 = .ok (.istore 4, 2) := by decide +kernel
theorem dX0_leastWith_18 : decode cX0_leastWith 18 = .ok (.aload_n 0, 1) := by decide +kernel
theorem dX0_leastWith_19 : decode cX0_leastWith 19 = .ok (.getfield 18, 3) := by decide +kernel
theorem dX0_leastWith_22 : decode cX0_leastWith 22 = .ok (.getfield 65, 3) := by decide +kernel
theorem dX0_leastWith_25 : decode cX0_leastWith 25 = .ok (.iload_n 1, 1) := by decide +kernel
theorem dX0_leastWith_26 : decode cX0_leastWith 26 = .ok (.iaload, 1) := by decide +kernel
theorem dX0_leastWith_27 : decode cX0_leastWith 27 = .ok (.istore 5, 2) := by decide +kernel
theorem dX0_leastWith_29 : decode cX0_leastWith 29 = .ok (.iload 5, 2) := by decide +kernel
theorem dX0_leastWith_31 : decode cX0_leastWith 31 = .ok (.iload_n 3, 1) := by decide +kernel
theorem dX0_leastWith_32 : decode cX0_leastWith 32 = .ok (.if_icmp .gt 39, 3) := by decide +kernel
theorem dX0_leastWith_35 : decode cX0_leastWith 35 = .ok (.aload_n 0, 1) := by decide +kernel
theorem dX0_leastWith_36 : decode cX0_leastWith 36 = .ok (.getfield 11, 3) := by decide +kernel
theorem dX0_leastWith_39 : decode cX0_leastWith 39 = .ok (.iload_n 2, 1) := by decide +kernel
theorem dX0_leastWith_40 : decode cX0_leastWith 40 = .ok (.iload 5, 2) := by decide +kernel
theorem dX0_leastWith_42 : decode cX0_leastWith 42 = .ok (.isub, 1) := by decide +kernel
theorem dX0_leastWith_43 : decode cX0_leastWith 43 = .ok (.iaload, 1) := by decide +kernel
theorem dX0_leastWith_44 : decode cX0_leastWith 44 = .ok (.aload_n 0, 1) := by decide +kernel
theorem dX0_leastWith_45 : decode cX0_leastWith 45 = .ok (.getfield 15, 3) := by decide +kernel
theorem dX0_leastWith_48 : decode cX0_leastWith 48 = .ok (.iload 5, 2) := by decide +kernel
theorem dX0_leastWith_50 : decode cX0_leastWith 50 = .ok (.iaload, 1) := by decide +kernel
theorem dX0_leastWith_51 : decode cX0_leastWith 51 = .ok (.iadd, 1) := by decide +kernel
theorem dX0_leastWith_52 : decode cX0_leastWith 52 = .ok (.istore 6, 2) := by decide +kernel
theorem dX0_leastWith_54 : decode cX0_leastWith 54 = .ok (.iload 6, 2) := by decide +kernel
theorem dX0_leastWith_56 : decode cX0_leastWith 56 = .ok (.iload 4, 2) := by decide +kernel
theorem dX0_leastWith_58 : decode cX0_leastWith 58 = .ok (.if_icmp .ge 7, 3) := by decide +kernel
theorem dX0_leastWith_61 : decode cX0_leastWith 61 = .ok (.iload 6, 2) := by decide +kernel
theorem dX0_leastWith_63 : decode cX0_leastWith 63 = .ok (.istore 4, 2) := by decide +kernel
theorem dX0_leastWith_65 : decode cX0_leastWith 65 = .ok (.iinc 5 1, 3) := by decide +kernel
theorem dX0_leastWith_68 : decode cX0_leastWith 68 = .ok (.goto (-39), 3) := by decide +kernel
theorem dX0_leastWith_71 : decode cX0_leastWith 71 = .ok (.iload 4, 2) := by decide +kernel
theorem dX0_leastWith_73 : decode cX0_leastWith 73 = .ok (.ireturn, 1) := by decide +kernel
theorem dX1_init_0 : decode cX1_init 0 = .ok (.aload_n 0, 1) := by decide +kernel
theorem dX1_init_1 : decode cX1_init 1 = .ok (.invokespecial 3, 3) := by decide +kernel
theorem dX1_init_4 : decode cX1_init 4 = .ok (.aload_n 0, 1) := by decide +kernel
theorem dX1_init_5 : decode cX1_init 5 = .ok (.iconst 4, 1) := by decide +kernel
theorem dX1_init_6 : decode cX1_init 6 = .ok (.anewarray 9, 3) := by decide +kernel
theorem dX1_init_9 : decode cX1_init 9 = .ok (.putfield 11, 3) := by decide +kernel
theorem dX1_init_12 : decode cX1_init 12 = .ok (.iconst 0, 1) := by decide +kernel
theorem dX1_init_13 : decode cX1_init 13 = .ok (.istore_n 1, 1) := by decide +kernel
theorem dX1_init_14 : decode cX1_init 14 = .ok (.iload_n 1, 1) := by decide +kernel
theorem dX1_init_15 : decode cX1_init 15 = .ok (.iconst 4, 1) := by decide +kernel
theorem dX1_init_16 : decode cX1_init 16 = .ok (.if_icmp .ge 22, 3) := by decide +kernel
theorem dX1_init_19 : decode cX1_init 19 = .ok (.aload_n 0, 1) := by decide +kernel
theorem dX1_init_20 : decode cX1_init 20 = .ok (.getfield 11, 3) := by decide +kernel
theorem dX1_init_23 : decode cX1_init 23 = .ok (.iload_n 1, 1) := by decide +kernel
theorem dX1_init_24 : decode cX1_init 24 = .ok (.new 9, 3) := by decide +kernel
theorem dX1_init_27 : decode cX1_init 27 = .ok (.dup, 1) := by decide +kernel
theorem dX1_init_28 : decode cX1_init 28 = .ok (.invokespecial 17, 3) := by decide +kernel
theorem dX1_init_31 : decode cX1_init 31 = .ok (.aastore, 1) := by decide +kernel
theorem dX1_init_32 : decode cX1_init 32 = .ok (.iinc 1 1, 3) := by decide +kernel
theorem dX1_init_35 : decode cX1_init 35 = .ok (.goto (-21), 3) := by decide +kernel
theorem dX1_init_38 : decode cX1_init 38 = .ok (.return_, 1) := by decide +kernel
theorem dX1_forget_0 : decode cX1_forget 0 = .ok (.aload_n 0, 1) := by decide +kernel
theorem dX1_forget_1 : decode cX1_forget 1 = .ok (.iconst 0, 1) := by decide +kernel
theorem dX1_forget_2 : decode cX1_forget 2 = .ok (.putfield 18, 3) := by decide +kernel
theorem dX1_forget_5 : decode cX1_forget 5 = .ok (.return_, 1) := by decide +kernel
theorem dX1_keep_0 : decode cX1_keep 0 = .ok (.aload_n 0, 1) := by decide +kernel
theorem dX1_keep_1 : decode cX1_keep 1 = .ok (.getfield 11, 3) := by decide +kernel
theorem dX1_keep_4 : decode cX1_keep 4 = .ok (.aload_n 0, 1) := by decide +kernel
theorem dX1_keep_5 : decode cX1_keep 5 = .ok (.getfield 22, 3) := by decide +kernel
theorem dX1_keep_8 : decode cX1_keep 8 = .ok (.aaload, 1) := by decide +kernel
theorem dX1_keep_9 : decode cX1_keep 9 = .ok (.aload_n 1, 1) := by decide +kernel
theorem dX1_keep_10 : decode cX1_keep 10 = .ok (.invokevirtual 25, 3) := by decide +kernel
theorem dX1_keep_13 : decode cX1_keep 13 = .ok (.aload_n 0, 1) := by decide +kernel
theorem dX1_keep_14 : decode cX1_keep 14 = .ok (.aload_n 0, 1) := by decide +kernel
theorem dX1_keep_15 : decode cX1_keep 15 = .ok (.getfield 22, 3) := by decide +kernel
theorem dX1_keep_18 : decode cX1_keep 18 = .ok (.iconst 1, 1) := by decide +kernel
theorem dX1_keep_19 : decode cX1_keep 19 = .ok (.iadd, 1) := by decide +kernel
theorem dX1_keep_20 : decode cX1_keep 20 = .ok (.iconst 4, 1) := by decide +kernel
theorem dX1_keep_21 : decode cX1_keep 21 = .ok (.irem, 1) := by decide +kernel
theorem dX1_keep_22 : decode cX1_keep 22 = .ok (.putfield 22, 3) := by decide +kernel
theorem dX1_keep_25 : decode cX1_keep 25 = .ok (.aload_n 0, 1) := by decide +kernel
theorem dX1_keep_26 : decode cX1_keep 26 = .ok (.iconst 4, 1) := by decide +kernel
theorem dX1_keep_27 : decode cX1_keep 27 = .ok (.aload_n 0, 1) := by decide +kernel
theorem dX1_keep_28 : decode cX1_keep 28 = .ok (.getfield 18, 3) := by decide +kernel
theorem dX1_keep_31 : decode cX1_keep 31 = .ok (.iconst 1, 1) := by decide +kernel
theorem dX1_keep_32 : decode cX1_keep 32 = .ok (.iadd, 1) := by decide +kernel
theorem dX1_keep_33 : decode cX1_keep 33 = .ok (.invokestatic 29, 3) := by decide +kernel
theorem dX1_keep_36 : decode cX1_keep 36 = .ok (.putfield 18, 3) := by decide +kernel
theorem dX1_keep_39 : decode cX1_keep 39 = .ok (.return_, 1) := by decide +kernel
theorem dX1_giveBack_0 : decode cX1_giveBack 0 = .ok (.aload_n 0, 1) := by decide +kernel
theorem dX1_giveBack_1 : decode cX1_giveBack 1 = .ok (.getfield 18, 3) := by decide +kernel
theorem dX1_giveBack_4 : decode cX1_giveBack 4 = .ok (.ifCond .ne 5, 3) := by decide +kernel
theorem dX1_giveBack_7 : decode cX1_giveBack 7 = .ok (.iconst 0, 1) := by decide +kernel
theorem dX1_giveBack_8 : decode cX1_giveBack 8 = .ok (.ireturn, 1) := by decide +kernel
theorem dX1_giveBack_9 : decode cX1_giveBack 9 = .ok (.aload_n 0, 1) := by decide +kernel
theorem dX1_giveBack_10 : decode cX1_giveBack 10 = .ok (.aload_n 0, 1) := by decide +kernel
theorem dX1_giveBack_11 : decode cX1_giveBack 11 = .ok (.getfield 22, 3) := by decide +kernel
theorem dX1_giveBack_14 : decode cX1_giveBack 14 = .ok (.iconst 4, 1) := by decide +kernel
theorem dX1_giveBack_15 : decode cX1_giveBack 15 = .ok (.iadd, 1) := by decide +kernel
theorem dX1_giveBack_16 : decode cX1_giveBack 16 = .ok (.iconst 1, 1) := by decide +kernel
theorem dX1_giveBack_17 : decode cX1_giveBack 17 = .ok (.isub, 1) := by decide +kernel
theorem dX1_giveBack_18 : decode cX1_giveBack 18 = .ok (.iconst 4, 1) := by decide +kernel
theorem dX1_giveBack_19 : decode cX1_giveBack 19 = .ok (.irem, 1) := by decide +kernel
theorem dX1_giveBack_20 : decode cX1_giveBack 20 = .ok (.putfield 22, 3) := by decide +kernel
theorem dX1_giveBack_23 : decode cX1_giveBack 23 = .ok (.aload_n 0, 1) := by decide +kernel
theorem dX1_giveBack_24 : decode cX1_giveBack 24 = .ok (.dup, 1) := by decide +kernel
theorem dX1_giveBack_25 : decode cX1_giveBack 25 = .ok (.getfield 18, 3) := by decide +kernel
theorem dX1_giveBack_28 : decode cX1_giveBack 28 = .ok (.iconst 1, 1) := by decide +kernel
theorem dX1_giveBack_29 : decode cX1_giveBack 29 = .ok (.isub, 1) := by decide +kernel
theorem dX1_giveBack_30 : decode cX1_giveBack 30 = .ok (.putfield 18, 3) := by decide +kernel
theorem dX1_giveBack_33 : decode cX1_giveBack 33 = .ok (.aload_n 1, 1) := by decide +kernel
theorem dX1_giveBack_34 : decode cX1_giveBack 34 = .ok (.aload_n 0, 1) := by decide +kernel
theorem dX1_giveBack_35 : decode cX1_giveBack 35 = .ok (.getfield 11, 3) := by decide +kernel
theorem dX1_giveBack_38 : decode cX1_giveBack 38 = .ok (.aload_n 0, 1) := by decide +kernel
theorem dX1_giveBack_39 : decode cX1_giveBack 39 = .ok (.getfield 22, 3) := by decide +kernel
theorem dX1_giveBack_42 : decode cX1_giveBack 42 = .ok (.aaload, 1) := by decide +kernel
theorem dX1_giveBack_43 : decode cX1_giveBack 43 = .ok (.invokevirtual 25, 3) := by decide +kernel
theorem dX1_giveBack_46 : decode cX1_giveBack 46 = .ok (.iconst 1, 1) := by decide +kernel
theorem dX1_giveBack_47 : decode cX1_giveBack 47 = .ok (.ireturn, 1) := by decide +kernel
theorem dX2_init_0 : decode cX2_init 0 = .ok (.aload_n 0, 1) := by decide +kernel
theorem dX2_init_1 : decode cX2_init 1 = .ok (.invokespecial 3, 3) := by decide +kernel
theorem dX2_init_4 : decode cX2_init 4 = .ok (.aload_n 0, 1) := by decide +kernel
theorem dX2_init_5 : decode cX2_init 5 = .ok (.bipush 6, 2) := by decide +kernel
theorem dX2_init_7 : decode cX2_init 7 = .ok (.newarray .int, 2) := by decide +kernel
theorem dX2_init_9 : decode cX2_init 9 = .ok (.putfield 9, 3) := by decide +kernel
theorem dX2_init_12 : decode cX2_init 12 = .ok (.aload_n 0, 1) := by decide +kernel
theorem dX2_init_13 : decode cX2_init 13 = .ok (.bipush 6, 2) := by decide +kernel
theorem dX2_init_15 : decode cX2_init 15 = .ok (.newarray .int, 2) := by decide +kernel
theorem dX2_init_17 : decode cX2_init 17 = .ok (.putfield 15, 3) := by decide +kernel
theorem dX2_init_20 : decode cX2_init 20 = .ok (.aload_n 0, 1) := by decide +kernel
theorem dX2_init_21 : decode cX2_init 21 = .ok (.bipush 6, 2) := by decide +kernel
theorem dX2_init_23 : decode cX2_init 23 = .ok (.newarray .int, 2) := by decide +kernel
theorem dX2_init_25 : decode cX2_init 25 = .ok (.putfield 18, 3) := by decide +kernel
theorem dX2_init_28 : decode cX2_init 28 = .ok (.aload_n 0, 1) := by decide +kernel
theorem dX2_init_29 : decode cX2_init 29 = .ok (.bipush 6, 2) := by decide +kernel
theorem dX2_init_31 : decode cX2_init 31 = .ok (.newarray .int, 2) := by decide +kernel
theorem dX2_init_33 : decode cX2_init 33 = .ok (.putfield 21, 3) := by decide +kernel
theorem dX2_init_36 : decode cX2_init 36 = .ok (.aload_n 0, 1) := by decide +kernel
theorem dX2_init_37 : decode cX2_init 37 = .ok (.bipush 6, 2) := by decide +kernel
theorem dX2_init_39 : decode cX2_init 39 = .ok (.newarray .int, 2) := by decide +kernel
theorem dX2_init_41 : decode cX2_init 41 = .ok (.putfield 24, 3) := by decide +kernel
theorem dX2_init_44 : decode cX2_init 44 = .ok (.aload_n 0, 1) := by decide +kernel
theorem dX2_init_45 : decode cX2_init 45 = .ok (.bipush 6, 2) := by decide +kernel
theorem dX2_init_47 : decode cX2_init 47 = .ok (.newarray .int, 2) := by decide +kernel
theorem dX2_init_49 : decode cX2_init 49 = .ok (.putfield 27, 3) := by decide +kernel
theorem dX2_init_52 : decode cX2_init 52 = .ok (.return_, 1) := by decide +kernel
theorem dX2_reset_0 : decode cX2_reset 0 = .ok (.aload_n 0, 1) := by decide +kernel
theorem dX2_reset_1 : decode cX2_reset 1 = .ok (.iconst 0, 1) := by decide +kernel
theorem dX2_reset_2 : decode cX2_reset 2 = .ok (.putfield 30, 3) := by decide +kernel
theorem dX2_reset_5 : decode cX2_reset 5 = .ok (.aload_n 0, 1) := by decide +kernel
theorem dX2_reset_6 : decode cX2_reset 6 = .ok (.iconst 5, 1) := by decide +kernel
theorem dX2_reset_7 : decode cX2_reset 7 = .ok (.putfield 34, 3) := by decide +kernel
theorem dX2_reset_10 : decode cX2_reset 10 = .ok (.aload_n 0, 1) := by decide +kernel
theorem dX2_reset_11 : decode cX2_reset 11 = .ok (.iconst 3, 1) := by decide +kernel
theorem dX2_reset_12 : decode cX2_reset 12 = .ok (.putfield 37, 3) := by decide +kernel
theorem dX2_reset_15 : decode cX2_reset 15 = .ok (.aload_n 0, 1) := by decide +kernel
theorem dX2_reset_16 : decode cX2_reset 16 = .ok (.iconst 3, 1) := by decide +kernel
theorem dX2_reset_17 : decode cX2_reset 17 = .ok (.putfield 40, 3) := by decide +kernel
theorem dX2_reset_20 : decode cX2_reset 20 = .ok (.aload_n 0, 1) := by decide +kernel
theorem dX2_reset_21 : decode cX2_reset 21 = .ok (.iconst 1, 1) := by decide +kernel
theorem dX2_reset_22 : decode cX2_reset 22 = .ok (.putfield 43, 3) := by decide +kernel
theorem dX2_reset_25 : decode cX2_reset 25 = .ok (.aload_n 0, 1) := by decide +kernel
theorem dX2_reset_26 : decode cX2_reset 26 = .ok (.bipush 90, 2) := by decide +kernel
theorem dX2_reset_28 : decode cX2_reset 28 = .ok (.putfield 46, 3) := by decide +kernel
theorem dX2_reset_31 : decode cX2_reset 31 = .ok (.aload_n 0, 1) := by decide +kernel
theorem dX2_reset_32 : decode cX2_reset 32 = .ok (.bipush 60, 2) := by decide +kernel
theorem dX2_reset_34 : decode cX2_reset 34 = .ok (.putfield 49, 3) := by decide +kernel
theorem dX2_reset_37 : decode cX2_reset 37 = .ok (.aload_n 0, 1) := by decide +kernel
theorem dX2_reset_38 : decode cX2_reset 38 = .ok (.iconst 2, 1) := by decide +kernel
theorem dX2_reset_39 : decode cX2_reset 39 = .ok (.putfield 52, 3) := by decide +kernel
theorem dX2_reset_42 : decode cX2_reset 42 = .ok (.return_, 1) := by decide +kernel
theorem dX2_take_0 : decode cX2_take 0 = .ok (.aload_n 2, 1) := by decide +kernel
theorem dX2_take_1 : decode cX2_take 1 = .ok (.arraylength, 1) := by decide +kernel
theorem dX2_take_2 : decode cX2_take 2 = .ok (.getstatic 55, 3) := by decide +kernel
theorem dX2_take_5 : decode cX2_take 5 = .ok (.arraylength, 1) := by decide +kernel
theorem dX2_take_6 : decode cX2_take 6 = .ok (.if_icmp .ge 4, 3) := by decide +kernel
theorem dX2_take_9 : decode cX2_take 9 = .ok (.return_, 1) := by decide +kernel
theorem dX2_take_10 : decode cX2_take 10 = .ok (.iload_n 1, 1) := by decide +kernel
theorem dX2_take_11 : decode cX2_take 11 = .ok (.bipush 99, 2) := by decide +kernel
theorem dX2_take_13 : decode cX2_take 13 = .ok (.if_icmp .ne 11, 3) := by decide +kernel
theorem dX2_take_16 : decode cX2_take 16 = .ok (.aload_n 0, 1) := by decide +kernel
theorem dX2_take_17 : decode cX2_take 17 = .ok (.aload_n 2, 1) := by decide +kernel
theorem dX2_take_18 : decode cX2_take 18 = .ok (.invokevirtual 58, 3) := by decide +kernel
theorem dX2_take_21 : decode cX2_take 21 = .ok (.goto 67, 3) := by decide +kernel
theorem dX2_take_24 : decode cX2_take 24 = .ok (.iload_n 1, 1) := by decide +kernel
theorem dX2_take_25 : decode cX2_take 25 = .ok (.bipush 114, 2) := by decide +kernel
theorem dX2_take_27 : decode cX2_take 27 = .ok (.if_icmp .ne 34, 3) := by decide +kernel
theorem dX2_take_30 : decode cX2_take 30 = .ok (.aload_n 0, 1) := by decide +kernel
theorem dX2_take_31 : decode cX2_take 31 = .ok (.aload_n 2, 1) := by decide +kernel
theorem dX2_take_32 : decode cX2_take 32 = .ok (.iconst 0, 1) := by decide +kernel
theorem dX2_take_33 : decode cX2_take 33 = .ok (.iaload, 1) := by decide +kernel
theorem dX2_take_34 : decode cX2_take 34 = .ok (.putfield 34, 3) := by decide +kernel
theorem dX2_take_37 : decode cX2_take 37 = .ok (.aload_n 0, 1) := by decide +kernel
theorem dX2_take_38 : decode cX2_take 38 = .ok (.aload_n 2, 1) := by decide +kernel
theorem dX2_take_39 : decode cX2_take 39 = .ok (.iconst 1, 1) := by decide +kernel
theorem dX2_take_40 : decode cX2_take 40 = .ok (.iaload, 1) := by decide +kernel
theorem dX2_take_41 : decode cX2_take 41 = .ok (.putfield 37, 3) := by decide +kernel
theorem dX2_take_44 : decode cX2_take 44 = .ok (.aload_n 0, 1) := by decide +kernel
theorem dX2_take_45 : decode cX2_take 45 = .ok (.aload_n 2, 1) := by decide +kernel
theorem dX2_take_46 : decode cX2_take 46 = .ok (.iconst 2, 1) := by decide +kernel
theorem dX2_take_47 : decode cX2_take 47 = .ok (.iaload, 1) := by decide +kernel
theorem dX2_take_48 : decode cX2_take 48 = .ok (.putfield 40, 3) := by decide +kernel
theorem dX2_take_51 : decode cX2_take 51 = .ok (.aload_n 0, 1) := by decide +kernel
theorem dX2_take_52 : decode cX2_take 52 = .ok (.aload_n 2, 1) := by decide +kernel
theorem dX2_take_53 : decode cX2_take 53 = .ok (.iconst 3, 1) := by decide +kernel
theorem dX2_take_54 : decode cX2_take 54 = .ok (.iaload, 1) := by decide +kernel
theorem dX2_take_55 : decode cX2_take 55 = .ok (.putfield 43, 3) := by decide +kernel
theorem dX2_take_58 : decode cX2_take 58 = .ok (.goto 30, 3) := by decide +kernel
theorem dX2_take_61 : decode cX2_take 61 = .ok (.iload_n 1, 1) := by decide +kernel
theorem dX2_take_62 : decode cX2_take 62 = .ok (.bipush 104, 2) := by decide +kernel
theorem dX2_take_64 : decode cX2_take 64 = .ok (.if_icmp .ne 24, 3) := by decide +kernel
theorem dX2_take_67 : decode cX2_take 67 = .ok (.aload_n 0, 1) := by decide +kernel
theorem dX2_take_68 : decode cX2_take 68 = .ok (.aload_n 2, 1) := by decide +kernel
theorem dX2_take_69 : decode cX2_take 69 = .ok (.iconst 0, 1) := by decide +kernel
theorem dX2_take_70 : decode cX2_take 70 = .ok (.iaload, 1) := by decide +kernel
theorem dX2_take_71 : decode cX2_take 71 = .ok (.putfield 46, 3) := by decide +kernel
theorem dX2_take_74 : decode cX2_take 74 = .ok (.aload_n 0, 1) := by decide +kernel
theorem dX2_take_75 : decode cX2_take 75 = .ok (.aload_n 2, 1) := by decide +kernel
theorem dX2_take_76 : decode cX2_take 76 = .ok (.iconst 1, 1) := by decide +kernel
theorem dX2_take_77 : decode cX2_take 77 = .ok (.iaload, 1) := by decide +kernel
theorem dX2_take_78 : decode cX2_take 78 = .ok (.putfield 49, 3) := by decide +kernel
theorem dX2_take_81 : decode cX2_take 81 = .ok (.aload_n 0, 1) := by decide +kernel
theorem dX2_take_82 : decode cX2_take 82 = .ok (.aload_n 2, 1) := by decide +kernel
theorem dX2_take_83 : decode cX2_take 83 = .ok (.iconst 2, 1) := by decide +kernel
theorem dX2_take_84 : decode cX2_take 84 = .ok (.iaload, 1) := by decide +kernel
theorem dX2_take_85 : decode cX2_take 85 = .ok (.putfield 52, 3) := by decide +kernel
theorem dX2_take_88 : decode cX2_take 88 = .ok (.return_, 1) := by decide +kernel
theorem dX2_takeMachine_0 : decode cX2_takeMachine 0 = .ok (.aload_n 0, 1) := by decide +kernel
theorem dX2_takeMachine_1 : decode cX2_takeMachine 1 = .ok (.getfield 30, 3) := by decide +kernel
theorem dX2_takeMachine_4 : decode cX2_takeMachine 4 = .ok (.bipush 6, 2) := by decide +kernel
theorem dX2_takeMachine_6 : decode cX2_takeMachine 6 = .ok (.if_icmp .lt 4, 3) := by decide +kernel
theorem dX2_takeMachine_9 : decode cX2_takeMachine 9 = .ok (.return_, 1) := by decide +kernel
theorem dX2_takeMachine_10 : decode cX2_takeMachine 10 = .ok (.aload_n 0, 1) := by decide +kernel
theorem dX2_takeMachine_11 : decode cX2_takeMachine 11 = .ok (.getfield 9, 3) := by decide +kernel
theorem dX2_takeMachine_14 : decode cX2_takeMachine 14 = .ok (.aload_n 0, 1) := by decide +kernel
theorem dX2_takeMachine_15 : decode cX2_takeMachine 15 = .ok (.getfield 30, 3) := by decide +kernel
theorem dX2_takeMachine_18 : decode cX2_takeMachine 18 = .ok (.aload_n 1, 1) := by decide +kernel
theorem dX2_takeMachine_19 : decode cX2_takeMachine 19 = .ok (.iconst 0, 1) := by decide +kernel
theorem dX2_takeMachine_20 : decode cX2_takeMachine 20 = .ok (.iaload, 1) := by decide +kernel
theorem dX2_takeMachine_21 : decode cX2_takeMachine 21 = .ok (.iastore, 1) := by decide +kernel
theorem dX2_takeMachine_22 : decode cX2_takeMachine 22 = .ok (.aload_n 0, 1) := by decide +kernel
theorem dX2_takeMachine_23 : decode cX2_takeMachine 23 = .ok (.getfield 15, 3) := by decide +kernel
theorem dX2_takeMachine_26 : decode cX2_takeMachine 26 = .ok (.aload_n 0, 1) := by decide +kernel
theorem dX2_takeMachine_27 : decode cX2_takeMachine 27 = .ok (.getfield 30, 3) := by decide +kernel
theorem dX2_takeMachine_30 : decode cX2_takeMachine 30 = .ok (.aload_n 1, 1) := by decide +kernel
theorem dX2_takeMachine_31 : decode cX2_takeMachine 31 = .ok (.iconst 1, 1) := by decide +kernel
theorem dX2_takeMachine_32 : decode cX2_takeMachine 32 = .ok (.iaload, 1) := by decide +kernel
theorem dX2_takeMachine_33 : decode cX2_takeMachine 33 = .ok (.iastore, 1) := by decide +kernel
theorem dX2_takeMachine_34 : decode cX2_takeMachine 34 = .ok (.aload_n 0, 1) := by decide +kernel
theorem dX2_takeMachine_35 : decode cX2_takeMachine 35 = .ok (.getfield 18, 3) := by decide +kernel
theorem dX2_takeMachine_38 : decode cX2_takeMachine 38 = .ok (.aload_n 0, 1) := by decide +kernel
theorem dX2_takeMachine_39 : decode cX2_takeMachine 39 = .ok (.getfield 30, 3) := by decide +kernel
theorem dX2_takeMachine_42 : decode cX2_takeMachine 42 = .ok (.aload_n 1, 1) := by decide +kernel
theorem dX2_takeMachine_43 : decode cX2_takeMachine 43 = .ok (.iconst 2, 1) := by decide +kernel
theorem dX2_takeMachine_44 : decode cX2_takeMachine 44 = .ok (.iaload, 1) := by decide +kernel
theorem dX2_takeMachine_45 : decode cX2_takeMachine 45 = .ok (.iastore, 1) := by decide +kernel
theorem dX2_takeMachine_46 : decode cX2_takeMachine 46 = .ok (.aload_n 0, 1) := by decide +kernel
theorem dX2_takeMachine_47 : decode cX2_takeMachine 47 = .ok (.getfield 21, 3) := by decide +kernel
theorem dX2_takeMachine_50 : decode cX2_takeMachine 50 = .ok (.aload_n 0, 1) := by decide +kernel
theorem dX2_takeMachine_51 : decode cX2_takeMachine 51 = .ok (.getfield 30, 3) := by decide +kernel
theorem dX2_takeMachine_54 : decode cX2_takeMachine 54 = .ok (.aload_n 1, 1) := by decide +kernel
theorem dX2_takeMachine_55 : decode cX2_takeMachine 55 = .ok (.iconst 3, 1) := by decide +kernel
theorem dX2_takeMachine_56 : decode cX2_takeMachine 56 = .ok (.iaload, 1) := by decide +kernel
theorem dX2_takeMachine_57 : decode cX2_takeMachine 57 = .ok (.iastore, 1) := by decide +kernel
theorem dX2_takeMachine_58 : decode cX2_takeMachine 58 = .ok (.aload_n 0, 1) := by decide +kernel
theorem dX2_takeMachine_59 : decode cX2_takeMachine 59 = .ok (.getfield 24, 3) := by decide +kernel
theorem dX2_takeMachine_62 : decode cX2_takeMachine 62 = .ok (.aload_n 0, 1) := by decide +kernel
theorem dX2_takeMachine_63 : decode cX2_takeMachine 63 = .ok (.getfield 30, 3) := by decide +kernel
theorem dX2_takeMachine_66 : decode cX2_takeMachine 66 = .ok (.aload_n 1, 1) := by decide +kernel
theorem dX2_takeMachine_67 : decode cX2_takeMachine 67 = .ok (.iconst 4, 1) := by decide +kernel
theorem dX2_takeMachine_68 : decode cX2_takeMachine 68 = .ok (.iaload, 1) := by decide +kernel
theorem dX2_takeMachine_69 : decode cX2_takeMachine 69 = .ok (.iastore, 1) := by decide +kernel
theorem dX2_takeMachine_70 : decode cX2_takeMachine 70 = .ok (.aload_n 0, 1) := by decide +kernel
theorem dX2_takeMachine_71 : decode cX2_takeMachine 71 = .ok (.getfield 27, 3) := by decide +kernel
theorem dX2_takeMachine_74 : decode cX2_takeMachine 74 = .ok (.aload_n 0, 1) := by decide +kernel
theorem dX2_takeMachine_75 : decode cX2_takeMachine 75 = .ok (.getfield 30, 3) := by decide +kernel
theorem dX2_takeMachine_78 : decode cX2_takeMachine 78 = .ok (.aload_n 1, 1) := by decide +kernel
theorem dX2_takeMachine_79 : decode cX2_takeMachine 79 = .ok (.iconst 5, 1) := by decide +kernel
theorem dX2_takeMachine_80 : decode cX2_takeMachine 80 = .ok (.iaload, 1) := by decide +kernel
theorem dX2_takeMachine_81 : decode cX2_takeMachine 81 = .ok (.iastore, 1) := by decide +kernel
theorem dX2_takeMachine_82 : decode cX2_takeMachine 82 = .ok (.aload_n 0, 1) := by decide +kernel
theorem dX2_takeMachine_83 : decode cX2_takeMachine 83 = .ok (.dup, 1) := by decide +kernel
theorem dX2_takeMachine_84 : decode cX2_takeMachine 84 = .ok (.getfield 30, 3) := by decide +kernel
theorem dX2_takeMachine_87 : decode cX2_takeMachine 87 = .ok (.iconst 1, 1) := by decide +kernel
theorem dX2_takeMachine_88 : decode cX2_takeMachine 88 = .ok (.iadd, 1) := by decide +kernel
theorem dX2_takeMachine_89 : decode cX2_takeMachine 89 = .ok (.putfield 30, 3) := by decide +kernel
theorem dX2_takeMachine_92 : decode cX2_takeMachine 92 = .ok (.return_, 1) := by decide +kernel
theorem dX2_all_0 : decode cX2_all 0 = .ok (.iconst 1, 1) := by decide +kernel
theorem dX2_all_1 : decode cX2_all 1 = .ok (.aload_n 0, 1) := by decide +kernel
theorem dX2_all_2 : decode cX2_all 2 = .ok (.getfield 30, 3) := by decide +kernel
theorem dX2_all_5 : decode cX2_all 5 = .ok (.ishl, 1) := by decide +kernel
theorem dX2_all_6 : decode cX2_all 6 = .ok (.iconst 1, 1) := by decide +kernel
theorem dX2_all_7 : decode cX2_all 7 = .ok (.isub, 1) := by decide +kernel
theorem dX2_all_8 : decode cX2_all 8 = .ok (.ireturn, 1) := by decide +kernel
theorem dX2_powerAt_0 : decode cX2_powerAt 0 = .ok (.aload_n 0, 1) := by decide +kernel
theorem dX2_powerAt_1 : decode cX2_powerAt 1 = .ok (.getfield 18, 3) := by decide +kernel
theorem dX2_powerAt_4 : decode cX2_powerAt 4 = .ok (.iload_n 1, 1) := by decide +kernel
theorem dX2_powerAt_5 : decode cX2_powerAt 5 = .ok (.iaload, 1) := by decide +kernel
theorem dX2_powerAt_6 : decode cX2_powerAt 6 = .ok (.bipush 100, 2) := by decide +kernel
theorem dX2_powerAt_8 : decode cX2_powerAt 8 = .ok (.aload_n 0, 1) := by decide +kernel
theorem dX2_powerAt_9 : decode cX2_powerAt 9 = .ok (.getfield 21, 3) := by decide +kernel
theorem dX2_powerAt_12 : decode cX2_powerAt 12 = .ok (.iload_n 1, 1) := by decide +kernel
theorem dX2_powerAt_13 : decode cX2_powerAt 13 = .ok (.iaload, 1) := by decide +kernel
theorem dX2_powerAt_14 : decode cX2_powerAt 14 = .ok (.imul, 1) := by decide +kernel
theorem dX2_powerAt_15 : decode cX2_powerAt 15 = .ok (.aload_n 0, 1) := by decide +kernel
theorem dX2_powerAt_16 : decode cX2_powerAt 16 = .ok (.getfield 24, 3) := by decide +kernel
theorem dX2_powerAt_19 : decode cX2_powerAt 19 = .ok (.iload_n 1, 1) := by decide +kernel
theorem dX2_powerAt_20 : decode cX2_powerAt 20 = .ok (.iaload, 1) := by decide +kernel
theorem dX2_powerAt_21 : decode cX2_powerAt 21 = .ok (.iload_n 2, 1) := by decide +kernel
theorem dX2_powerAt_22 : decode cX2_powerAt 22 = .ok (.imul, 1) := by decide +kernel
theorem dX2_powerAt_23 : decode cX2_powerAt 23 = .ok (.iadd, 1) := by decide +kernel
theorem dX2_powerAt_24 : decode cX2_powerAt 24 = .ok (.iload_n 2, 1) := by decide +kernel
theorem dX2_powerAt_25 : decode cX2_powerAt 25 = .ok (.imul, 1) := by decide +kernel
theorem dX2_powerAt_26 : decode cX2_powerAt 26 = .ok (.bipush 60, 2) := by decide +kernel
theorem dX2_powerAt_28 : decode cX2_powerAt 28 = .ok (.iload_n 3, 1) := by decide +kernel
theorem dX2_powerAt_29 : decode cX2_powerAt 29 = .ok (.iadd, 1) := by decide +kernel
theorem dX2_powerAt_30 : decode cX2_powerAt 30 = .ok (.imul, 1) := by decide +kernel
theorem dX2_powerAt_31 : decode cX2_powerAt 31 = .ok (.sipush 10000, 3) := by decide +kernel
theorem dX2_powerAt_34 : decode cX2_powerAt 34 = .ok (.idiv, 1) := by decide +kernel
theorem dX2_powerAt_35 : decode cX2_powerAt 35 = .ok (.iadd, 1) := by decide +kernel
theorem dX2_powerAt_36 : decode cX2_powerAt 36 = .ok (.ireturn, 1) := by decide +kernel
theorem dX2_can_0 : decode cX2_can 0 = .ok (.aload_n 0, 1) := by decide +kernel
theorem dX2_can_1 : decode cX2_can 1 = .ok (.iload_n 1, 1) := by decide +kernel
theorem dX2_can_2 : decode cX2_can 2 = .ok (.invokevirtual 62, 3) := by decide +kernel
theorem dX2_can_5 : decode cX2_can 5 = .ok (.iload_n 2, 1) := by decide +kernel
theorem dX2_can_6 : decode cX2_can 6 = .ok (.if_icmp .gt 16, 3) := by decide +kernel
theorem dX2_can_9 : decode cX2_can 9 = .ok (.iload_n 2, 1) := by decide +kernel
theorem dX2_can_10 : decode cX2_can 10 = .ok (.aload_n 0, 1) := by decide +kernel
theorem dX2_can_11 : decode cX2_can 11 = .ok (.iload_n 1, 1) := by decide +kernel
theorem dX2_can_12 : decode cX2_can 12 = .ok (.invokevirtual 66, 3) := by decide +kernel
theorem dX2_can_15 : decode cX2_can 15 = .ok (.if_icmp .gt 7, 3) := by decide +kernel
theorem dX2_can_18 : decode cX2_can 18 = .ok (.iconst 1, 1) := by decide +kernel
theorem dX2_can_19 : decode cX2_can 19 = .ok (.goto 4, 3) := by decide +kernel
theorem dX2_can_22 : decode cX2_can 22 = .ok (.iconst 0, 1) := by decide +kernel
theorem dX2_can_23 : decode cX2_can 23 = .ok (.ireturn, 1) := by decide +kernel
theorem dX2_leasts_0 : decode cX2_leasts 0 = .ok (.aload_n 0, 1) := by decide +kernel
theorem dX2_leasts_1 : decode cX2_leasts 1 = .ok (.iload_n 1, 1) := by decide +kernel
theorem dX2_leasts_2 : decode cX2_leasts 2 = .ok (.aload_n 0, 1) := by decide +kernel
theorem dX2_leasts_3 : decode cX2_leasts 3 = .ok (.getfield 9, 3) := by decide +kernel
theorem dX2_leasts_6 : decode cX2_leasts 6 = .ok (.invokevirtual 69, 3) := by decide +kernel
theorem dX2_leasts_9 : decode cX2_leasts 9 = .ok (.ireturn, 1) := by decide +kernel
theorem dX2_mosts_0 : decode cX2_mosts 0 = .ok (.aload_n 0, 1) := by decide +kernel
theorem dX2_mosts_1 : decode cX2_mosts 1 = .ok (.iload_n 1, 1) := by decide +kernel
theorem dX2_mosts_2 : decode cX2_mosts 2 = .ok (.aload_n 0, 1) := by decide +kernel
theorem dX2_mosts_3 : decode cX2_mosts 3 = .ok (.getfield 15, 3) := by decide +kernel
theorem dX2_mosts_6 : decode cX2_mosts 6 = .ok (.invokevirtual 69, 3) := by decide +kernel
theorem dX2_mosts_9 : decode cX2_mosts 9 = .ok (.ireturn, 1) := by decide +kernel
theorem dX2_flows_0 : decode cX2_flows 0 = .ok (.aload_n 0, 1) := by decide +kernel
theorem dX2_flows_1 : decode cX2_flows 1 = .ok (.iload_n 1, 1) := by decide +kernel
theorem dX2_flows_2 : decode cX2_flows 2 = .ok (.aload_n 0, 1) := by decide +kernel
theorem dX2_flows_3 : decode cX2_flows 3 = .ok (.getfield 27, 3) := by decide +kernel
theorem dX2_flows_6 : decode cX2_flows 6 = .ok (.invokevirtual 69, 3) := by decide +kernel
theorem dX2_flows_9 : decode cX2_flows 9 = .ok (.ireturn, 1) := by decide +kernel
theorem dX2_sumOver_0 : decode cX2_sumOver 0 = .ok (.iconst 0, 1) := by decide +kernel
theorem dX2_sumOver_1 : decode cX2_sumOver 1 = .ok (.istore_n 3, 1) := by decide +kernel
theorem dX2_sumOver_2 : decode cX2_sumOver 2 = .ok (.iconst 0, 1) := by decide +kernel
theorem dX2_sumOver_3 : decode cX2_sumOver 3 = .ok (.istore 4, 2) := by decide +kernel
theorem dX2_sumOver_5 : decode cX2_sumOver 5 = .ok (.iload 4, 2) := by decide +kernel
theorem dX2_sumOver_7 : decode cX2_sumOver 7 = .ok (.aload_n 0, 1) := by decide +kernel
theorem dX2_sumOver_8 : decode cX2_sumOver 8 = .ok (.getfield 30, 3) := by decide +kernel
theorem dX2_sumOver_11 : decode cX2_sumOver 11 = .ok (.if_icmp .ge 32, 3) := by decide +kernel
theorem dX2_sumOver_14 : decode cX2_sumOver 14 = .ok (.iload 4, 2) := by decide +kernel
theorem dX2_sumOver_16 : decode cX2_sumOver 16 = .ok (.aload_n 2, 1) := by decide +kernel
theorem dX2_sumOver_17 : decode cX2_sumOver 17 = .ok (.arraylength, 1) := by decide +kernel
theorem dX2_sumOver_18 : decode cX2_sumOver 18 = .ok (.if_icmp .ge 25, 3) := by decide +kernel
theorem dX2_sumOver_21 : decode cX2_sumOver 21 = .ok (.iload_n 1, 1) := by decide +kernel
theorem dX2_sumOver_22 : decode cX2_sumOver 22 = .ok (.iconst 1, 1) := by decide +kernel
theorem dX2_sumOver_23 : decode cX2_sumOver 23 = .ok (.iload 4, 2) := by decide +kernel
theorem dX2_sumOver_25 : decode cX2_sumOver 25 = .ok (.ishl, 1) := by decide +kernel
theorem dX2_sumOver_26 : decode cX2_sumOver 26 = .ok (.iand, 1) := by decide +kernel
theorem dX2_sumOver_27 : decode cX2_sumOver 27 = .ok (.ifCond .eq 10, 3) := by decide +kernel
theorem dX2_sumOver_30 : decode cX2_sumOver 30 = .ok (.iload_n 3, 1) := by decide +kernel
theorem dX2_sumOver_31 : decode cX2_sumOver 31 = .ok (.aload_n 2, 1) := by decide +kernel
theorem dX2_sumOver_32 : decode cX2_sumOver 32 = .ok (.iload 4, 2) := by decide +kernel
theorem dX2_sumOver_34 : decode cX2_sumOver 34 = .ok (.iaload, 1) := by decide +kernel
theorem dX2_sumOver_35 : decode cX2_sumOver 35 = .ok (.iadd, 1) := by decide +kernel
theorem dX2_sumOver_36 : decode cX2_sumOver 36 = .ok (.istore_n 3, 1) := by decide +kernel
theorem dX2_sumOver_37 : decode cX2_sumOver 37 = .ok (.iinc 4 1, 3) := by decide +kernel
theorem dX2_sumOver_40 : decode cX2_sumOver 40 = .ok (.goto (-35), 3) := by decide +kernel
theorem dX2_sumOver_43 : decode cX2_sumOver 43 = .ok (.iload_n 3, 1) := by decide +kernel
theorem dX2_sumOver_44 : decode cX2_sumOver 44 = .ok (.ireturn, 1) := by decide +kernel
theorem dX3_init_0 : decode cX3_init 0 = .ok (.aload_n 0, 1) := by decide +kernel
theorem dX3_init_1 : decode cX3_init 1 = .ok (.invokespecial 3, 3) := by decide +kernel
theorem dX3_init_4 : decode cX3_init 4 = .ok (.aload_n 0, 1) := by decide +kernel
theorem dX3_init_5 : decode cX3_init 5 = .ok (.sipush 200, 3) := by decide +kernel
theorem dX3_init_8 : decode cX3_init 8 = .ok (.newarray .char, 2) := by decide +kernel
theorem dX3_init_10 : decode cX3_init 10 = .ok (.putfield 9, 3) := by decide +kernel
theorem dX3_init_13 : decode cX3_init 13 = .ok (.aload_n 0, 1) := by decide +kernel
theorem dX3_init_14 : decode cX3_init 14 = .ok (.getstatic 15, 3) := by decide +kernel
theorem dX3_init_17 : decode cX3_init 17 = .ok (.arraylength, 1) := by decide +kernel
theorem dX3_init_18 : decode cX3_init 18 = .ok (.newarray .int, 2) := by decide +kernel
theorem dX3_init_20 : decode cX3_init 20 = .ok (.putfield 19, 3) := by decide +kernel
theorem dX3_init_23 : decode cX3_init 23 = .ok (.return_, 1) := by decide +kernel
theorem dX3_add_0 : decode cX3_add 0 = .ok (.aload_n 0, 1) := by decide +kernel
theorem dX3_add_1 : decode cX3_add 1 = .ok (.getfield 22, 3) := by decide +kernel
theorem dX3_add_4 : decode cX3_add 4 = .ok (.sipush 200, 3) := by decide +kernel
theorem dX3_add_7 : decode cX3_add 7 = .ok (.if_icmp .lt 5, 3) := by decide +kernel
theorem dX3_add_10 : decode cX3_add 10 = .ok (.iconst 0, 1) := by decide +kernel
theorem dX3_add_11 : decode cX3_add 11 = .ok (.ireturn, 1) := by decide +kernel
theorem dX3_add_12 : decode cX3_add 12 = .ok (.aload_n 0, 1) := by decide +kernel
theorem dX3_add_13 : decode cX3_add 13 = .ok (.getfield 9, 3) := by decide +kernel
theorem dX3_add_16 : decode cX3_add 16 = .ok (.aload_n 0, 1) := by decide +kernel
theorem dX3_add_17 : decode cX3_add 17 = .ok (.getfield 22, 3) := by decide +kernel
theorem dX3_add_20 : decode cX3_add 20 = .ok (.iload_n 1, 1) := by decide +kernel
theorem dX3_add_21 : decode cX3_add 21 = .ok (.castore, 1) := by decide +kernel
theorem dX3_add_22 : decode cX3_add 22 = .ok (.aload_n 0, 1) := by decide +kernel
theorem dX3_add_23 : decode cX3_add 23 = .ok (.dup, 1) := by decide +kernel
theorem dX3_add_24 : decode cX3_add 24 = .ok (.getfield 22, 3) := by decide +kernel
theorem dX3_add_27 : decode cX3_add 27 = .ok (.iconst 1, 1) := by decide +kernel
theorem dX3_add_28 : decode cX3_add 28 = .ok (.iadd, 1) := by decide +kernel
theorem dX3_add_29 : decode cX3_add 29 = .ok (.putfield 22, 3) := by decide +kernel
theorem dX3_add_32 : decode cX3_add 32 = .ok (.iconst 1, 1) := by decide +kernel
theorem dX3_add_33 : decode cX3_add 33 = .ok (.ireturn, 1) := by decide +kernel
theorem dX3_empty_0 : decode cX3_empty 0 = .ok (.aload_n 0, 1) := by decide +kernel
theorem dX3_empty_1 : decode cX3_empty 1 = .ok (.iconst 0, 1) := by decide +kernel
theorem dX3_empty_2 : decode cX3_empty 2 = .ok (.putfield 22, 3) := by decide +kernel
theorem dX3_empty_5 : decode cX3_empty 5 = .ok (.return_, 1) := by decide +kernel
theorem dX3_firstFault_0 : decode cX3_firstFault 0 = .ok (.iconst 0, 1) := by decide +kernel
theorem dX3_firstFault_1 : decode cX3_firstFault 1 = .ok (.istore_n 1, 1) := by decide +kernel
theorem dX3_firstFault_2 : decode cX3_firstFault 2 = .ok (.iconst 0, 1) := by decide +kernel
theorem dX3_firstFault_3 : decode cX3_firstFault 3 = .ok (.istore_n 2, 1) := by decide +kernel
theorem dX3_firstFault_4 : decode cX3_firstFault 4 = .ok (.iconst 0, 1) := by decide +kernel
theorem dX3_firstFault_5 : decode cX3_firstFault 5 = .ok (.istore_n 3, 1) := by decide +kernel
theorem dX3_firstFault_6 : decode cX3_firstFault 6 = .ok (.iload_n 3, 1) := by decide +kernel
theorem dX3_firstFault_7 : decode cX3_firstFault 7 = .ok (.sipush 200, 3) := by decide +kernel
theorem dX3_firstFault_10 : decode cX3_firstFault 10 = .ok (.if_icmp .ge 58, 3) := by decide +kernel
theorem dX3_firstFault_13 : decode cX3_firstFault 13 = .ok (.iload_n 1, 1) := by decide +kernel
theorem dX3_firstFault_14 : decode cX3_firstFault 14 = .ok (.aload_n 0, 1) := by decide +kernel
theorem dX3_firstFault_15 : decode cX3_firstFault 15 = .ok (.getfield 22, 3) := by decide +kernel
theorem dX3_firstFault_18 : decode cX3_firstFault 18 = .ok (.if_icmp .ge 50, 3) := by decide +kernel
theorem dX3_firstFault_21 : decode cX3_firstFault 21 = .ok (.aload_n 0, 1) := by decide +kernel
theorem dX3_firstFault_22 : decode cX3_firstFault 22 = .ok (.iload_n 1, 1) := by decide +kernel
theorem dX3_firstFault_23 : decode cX3_firstFault 23 = .ok (.invokevirtual 26, 3) := by decide +kernel
theorem dX3_firstFault_26 : decode cX3_firstFault 26 = .ok (.istore 4, 2) := by decide +kernel
theorem dX3_firstFault_28 : decode cX3_firstFault 28 = .ok (.iload 4, 2) := by decide +kernel
theorem dX3_firstFault_30 : decode cX3_firstFault 30 = .ok (.bipush (-4), 2) := by decide +kernel
theorem dX3_firstFault_32 : decode cX3_firstFault 32 = .ok (.if_icmp .ne 5, 3) := by decide +kernel
theorem dX3_firstFault_35 : decode cX3_firstFault 35 = .ok (.iload_n 1, 1) := by decide +kernel
theorem dX3_firstFault_36 : decode cX3_firstFault 36 = .ok (.ireturn, 1) := by decide +kernel
theorem dX3_firstFault_37 : decode cX3_firstFault 37 = .ok (.aload_n 0, 1) := by decide +kernel
theorem dX3_firstFault_38 : decode cX3_firstFault 38 = .ok (.getfield 9, 3) := by decide +kernel
theorem dX3_firstFault_41 : decode cX3_firstFault 41 = .ok (.iload_n 1, 1) := by decide +kernel
theorem dX3_firstFault_42 : decode cX3_firstFault 42 = .ok (.caload, 1) := by decide +kernel
theorem dX3_firstFault_43 : decode cX3_firstFault 43 = .ok (.bipush 99, 2) := by decide +kernel
theorem dX3_firstFault_45 : decode cX3_firstFault 45 = .ok (.if_icmp .ne 6, 3) := by decide +kernel
theorem dX3_firstFault_48 : decode cX3_firstFault 48 = .ok (.iinc 2 1, 3) := by decide +kernel
theorem dX3_firstFault_51 : decode cX3_firstFault 51 = .ok (.iload_n 2, 1) := by decide +kernel
theorem dX3_firstFault_52 : decode cX3_firstFault 52 = .ok (.bipush 6, 2) := by decide +kernel
theorem dX3_firstFault_54 : decode cX3_firstFault 54 = .ok (.if_icmp .le 5, 3) := by decide +kernel
theorem dX3_firstFault_57 : decode cX3_firstFault 57 = .ok (.iload_n 1, 1) := by decide +kernel
theorem dX3_firstFault_58 : decode cX3_firstFault 58 = .ok (.ireturn, 1) := by decide +kernel
theorem dX3_firstFault_59 : decode cX3_firstFault 59 = .ok (.iload 4, 2) := by decide +kernel
theorem dX3_firstFault_61 : decode cX3_firstFault 61 = .ok (.istore_n 1, 1) := by decide +kernel
theorem dX3_firstFault_62 : decode cX3_firstFault 62 = .ok (.iinc 3 1, 3) := by decide +kernel
theorem dX3_firstFault_65 : decode cX3_firstFault 65 = .ok (.goto (-59), 3) := by decide +kernel
theorem dX3_firstFault_68 : decode cX3_firstFault 68 = .ok (.bipush (-4), 2) := by decide +kernel
theorem dX3_firstFault_70 : decode cX3_firstFault 70 = .ok (.ireturn, 1) := by decide +kernel
theorem dX3_machines_0 : decode cX3_machines 0 = .ok (.iconst 0, 1) := by decide +kernel
theorem dX3_machines_1 : decode cX3_machines 1 = .ok (.istore_n 1, 1) := by decide +kernel
theorem dX3_machines_2 : decode cX3_machines 2 = .ok (.iconst 0, 1) := by decide +kernel
theorem dX3_machines_3 : decode cX3_machines 3 = .ok (.istore_n 2, 1) := by decide +kernel
theorem dX3_machines_4 : decode cX3_machines 4 = .ok (.iload_n 2, 1) := by decide +kernel
theorem dX3_machines_5 : decode cX3_machines 5 = .ok (.aload_n 0, 1) := by decide +kernel
theorem dX3_machines_6 : decode cX3_machines 6 = .ok (.getfield 22, 3) := by decide +kernel
theorem dX3_machines_9 : decode cX3_machines 9 = .ok (.if_icmp .ge 23, 3) := by decide +kernel
theorem dX3_machines_12 : decode cX3_machines 12 = .ok (.aload_n 0, 1) := by decide +kernel
theorem dX3_machines_13 : decode cX3_machines 13 = .ok (.getfield 9, 3) := by decide +kernel
theorem dX3_machines_16 : decode cX3_machines 16 = .ok (.iload_n 2, 1) := by decide +kernel
theorem dX3_machines_17 : decode cX3_machines 17 = .ok (.caload, 1) := by decide +kernel
theorem dX3_machines_18 : decode cX3_machines 18 = .ok (.bipush 99, 2) := by decide +kernel
theorem dX3_machines_20 : decode cX3_machines 20 = .ok (.if_icmp .ne 6, 3) := by decide +kernel
theorem dX3_machines_23 : decode cX3_machines 23 = .ok (.iinc 1 1, 3) := by decide +kernel
theorem dX3_machines_26 : decode cX3_machines 26 = .ok (.iinc 2 1, 3) := by decide +kernel
theorem dX3_machines_29 : decode cX3_machines 29 = .ok (.goto (-25), 3) := by decide +kernel
theorem dX3_machines_32 : decode cX3_machines 32 = .ok (.iload_n 1, 1) := by decide +kernel
theorem dX3_machines_33 : decode cX3_machines 33 = .ok (.ireturn, 1) := by decide +kernel
theorem dX3_layInto_0 : decode cX3_layInto 0 = .ok (.aload_n 1, 1) := by decide +kernel
theorem dX3_layInto_1 : decode cX3_layInto 1 = .ok (.invokevirtual 30, 3) := by decide +kernel
theorem dX3_layInto_4 : decode cX3_layInto 4 = .ok (.iconst 0, 1) := by decide +kernel
theorem dX3_layInto_5 : decode cX3_layInto 5 = .ok (.istore_n 2, 1) := by decide +kernel
theorem dX3_layInto_6 : decode cX3_layInto 6 = .ok (.iconst 0, 1) := by decide +kernel
theorem dX3_layInto_7 : decode cX3_layInto 7 = .ok (.istore_n 3, 1) := by decide +kernel
theorem dX3_layInto_8 : decode cX3_layInto 8 = .ok (.iload_n 3, 1) := by decide +kernel
theorem dX3_layInto_9 : decode cX3_layInto 9 = .ok (.sipush 200, 3) := by decide +kernel
theorem dX3_layInto_12 : decode cX3_layInto 12 = .ok (.if_icmp .ge 49, 3) := by decide +kernel
theorem dX3_layInto_15 : decode cX3_layInto 15 = .ok (.iload_n 2, 1) := by decide +kernel
theorem dX3_layInto_16 : decode cX3_layInto 16 = .ok (.aload_n 0, 1) := by decide +kernel
theorem dX3_layInto_17 : decode cX3_layInto 17 = .ok (.getfield 22, 3) := by decide +kernel
theorem dX3_layInto_20 : decode cX3_layInto 20 = .ok (.if_icmp .ge 41, 3) := by decide +kernel
theorem dX3_layInto_23 : decode cX3_layInto 23 = .ok (.aload_n 0, 1) := by decide +kernel
theorem dX3_layInto_24 : decode cX3_layInto 24 = .ok (.iload_n 2, 1) := by decide +kernel
theorem dX3_layInto_25 : decode cX3_layInto 25 = .ok (.invokevirtual 26, 3) := by decide +kernel
theorem dX3_layInto_28 : decode cX3_layInto 28 = .ok (.istore 4, 2) := by decide +kernel
theorem dX3_layInto_30 : decode cX3_layInto 30 = .ok (.iload 4, 2) := by decide +kernel
theorem dX3_layInto_32 : decode cX3_layInto 32 = .ok (.bipush (-4), 2) := by decide +kernel
theorem dX3_layInto_34 : decode cX3_layInto 34 = .ok (.if_icmp .ne 4, 3) := by decide +kernel
theorem dX3_layInto_37 : decode cX3_layInto 37 = .ok (.return_, 1) := by decide +kernel
theorem dX3_layInto_38 : decode cX3_layInto 38 = .ok (.aload_n 1, 1) := by decide +kernel
theorem dX3_layInto_39 : decode cX3_layInto 39 = .ok (.aload_n 0, 1) := by decide +kernel
theorem dX3_layInto_40 : decode cX3_layInto 40 = .ok (.getfield 9, 3) := by decide +kernel
theorem dX3_layInto_43 : decode cX3_layInto 43 = .ok (.iload_n 2, 1) := by decide +kernel
theorem dX3_layInto_44 : decode cX3_layInto 44 = .ok (.caload, 1) := by decide +kernel
theorem dX3_layInto_45 : decode cX3_layInto 45 = .ok (.aload_n 0, 1) := by decide +kernel
theorem dX3_layInto_46 : decode cX3_layInto 46 = .ok (.getfield 19, 3) := by decide +kernel
theorem dX3_layInto_49 : decode cX3_layInto 49 = .ok (.invokevirtual 35, 3) := by decide +kernel
theorem dX3_layInto_52 : decode cX3_layInto 52 = .ok (.iload 4, 2) := by decide +kernel
theorem dX3_layInto_54 : decode cX3_layInto 54 = .ok (.istore_n 2, 1) := by decide +kernel
theorem dX3_layInto_55 : decode cX3_layInto 55 = .ok (.iinc 3 1, 3) := by decide +kernel
theorem dX3_layInto_58 : decode cX3_layInto 58 = .ok (.goto (-50), 3) := by decide +kernel
theorem dX3_layInto_61 : decode cX3_layInto 61 = .ok (.return_, 1) := by decide +kernel
theorem dX3_readItem_0 : decode cX3_readItem 0 = .ok (.aload_n 0, 1) := by decide +kernel
theorem dX3_readItem_1 : decode cX3_readItem 1 = .ok (.iload_n 1, 1) := by decide +kernel
theorem dX3_readItem_2 : decode cX3_readItem 2 = .ok (.invokevirtual 39, 3) := by decide +kernel
theorem dX3_readItem_5 : decode cX3_readItem 5 = .ok (.istore_n 2, 1) := by decide +kernel
theorem dX3_readItem_6 : decode cX3_readItem 6 = .ok (.iload_n 2, 1) := by decide +kernel
theorem dX3_readItem_7 : decode cX3_readItem 7 = .ok (.bipush 99, 2) := by decide +kernel
theorem dX3_readItem_9 : decode cX3_readItem 9 = .ok (.if_icmp .ne 39, 3) := by decide +kernel
theorem dX3_readItem_12 : decode cX3_readItem 12 = .ok (.aload_n 0, 1) := by decide +kernel
theorem dX3_readItem_13 : decode cX3_readItem 13 = .ok (.iload_n 1, 1) := by decide +kernel
theorem dX3_readItem_14 : decode cX3_readItem 14 = .ok (.iconst 1, 1) := by decide +kernel
theorem dX3_readItem_15 : decode cX3_readItem 15 = .ok (.iadd, 1) := by decide +kernel
theorem dX3_readItem_16 : decode cX3_readItem 16 = .ok (.getstatic 43, 3) := by decide +kernel
theorem dX3_readItem_19 : decode cX3_readItem 19 = .ok (.getstatic 15, 3) := by decide +kernel
theorem dX3_readItem_22 : decode cX3_readItem 22 = .ok (.invokevirtual 46, 3) := by decide +kernel
theorem dX3_readItem_25 : decode cX3_readItem 25 = .ok (.istore_n 3, 1) := by decide +kernel
theorem dX3_readItem_26 : decode cX3_readItem 26 = .ok (.aload_n 0, 1) := by decide +kernel
theorem dX3_readItem_27 : decode cX3_readItem 27 = .ok (.getfield 19, 3) := by decide +kernel
theorem dX3_readItem_30 : decode cX3_readItem 30 = .ok (.iconst 0, 1) := by decide +kernel
theorem dX3_readItem_31 : decode cX3_readItem 31 = .ok (.iaload, 1) := by decide +kernel
theorem dX3_readItem_32 : decode cX3_readItem 32 = .ok (.aload_n 0, 1) := by decide +kernel
theorem dX3_readItem_33 : decode cX3_readItem 33 = .ok (.getfield 19, 3) := by decide +kernel
theorem dX3_readItem_36 : decode cX3_readItem 36 = .ok (.iconst 1, 1) := by decide +kernel
theorem dX3_readItem_37 : decode cX3_readItem 37 = .ok (.iaload, 1) := by decide +kernel
theorem dX3_readItem_38 : decode cX3_readItem 38 = .ok (.if_icmp .gt 7, 3) := by decide +kernel
theorem dX3_readItem_41 : decode cX3_readItem 41 = .ok (.iload_n 3, 1) := by decide +kernel
theorem dX3_readItem_42 : decode cX3_readItem 42 = .ok (.goto 5, 3) := by decide +kernel
theorem dX3_readItem_45 : decode cX3_readItem 45 = .ok (.bipush (-4), 2) := by decide +kernel
theorem dX3_readItem_47 : decode cX3_readItem 47 = .ok (.ireturn, 1) := by decide +kernel
theorem dX3_readItem_48 : decode cX3_readItem 48 = .ok (.iload_n 2, 1) := by decide +kernel
theorem dX3_readItem_49 : decode cX3_readItem 49 = .ok (.bipush 114, 2) := by decide +kernel
theorem dX3_readItem_51 : decode cX3_readItem 51 = .ok (.if_icmp .ne 17, 3) := by decide +kernel
theorem dX3_readItem_54 : decode cX3_readItem 54 = .ok (.aload_n 0, 1) := by decide +kernel
theorem dX3_readItem_55 : decode cX3_readItem 55 = .ok (.iload_n 1, 1) := by decide +kernel
theorem dX3_readItem_56 : decode cX3_readItem 56 = .ok (.iconst 1, 1) := by decide +kernel
theorem dX3_readItem_57 : decode cX3_readItem 57 = .ok (.iadd, 1) := by decide +kernel
theorem dX3_readItem_58 : decode cX3_readItem 58 = .ok (.getstatic 50, 3) := by decide +kernel
theorem dX3_readItem_61 : decode cX3_readItem 61 = .ok (.getstatic 53, 3) := by decide +kernel
theorem dX3_readItem_64 : decode cX3_readItem 64 = .ok (.invokevirtual 46, 3) := by decide +kernel
theorem dX3_readItem_67 : decode cX3_readItem 67 = .ok (.ireturn, 1) := by decide +kernel
theorem dX3_readItem_68 : decode cX3_readItem 68 = .ok (.iload_n 2, 1) := by decide +kernel
theorem dX3_readItem_69 : decode cX3_readItem 69 = .ok (.bipush 104, 2) := by decide +kernel
theorem dX3_readItem_71 : decode cX3_readItem 71 = .ok (.if_icmp .ne 17, 3) := by decide +kernel
theorem dX3_readItem_74 : decode cX3_readItem 74 = .ok (.aload_n 0, 1) := by decide +kernel
theorem dX3_readItem_75 : decode cX3_readItem 75 = .ok (.iload_n 1, 1) := by decide +kernel
theorem dX3_readItem_76 : decode cX3_readItem 76 = .ok (.iconst 1, 1) := by decide +kernel
theorem dX3_readItem_77 : decode cX3_readItem 77 = .ok (.iadd, 1) := by decide +kernel
theorem dX3_readItem_78 : decode cX3_readItem 78 = .ok (.getstatic 56, 3) := by decide +kernel
theorem dX3_readItem_81 : decode cX3_readItem 81 = .ok (.getstatic 59, 3) := by decide +kernel
theorem dX3_readItem_84 : decode cX3_readItem 84 = .ok (.invokevirtual 46, 3) := by decide +kernel
theorem dX3_readItem_87 : decode cX3_readItem 87 = .ok (.ireturn, 1) := by decide +kernel
theorem dX3_readItem_88 : decode cX3_readItem 88 = .ok (.bipush (-4), 2) := by decide +kernel
theorem dX3_readItem_90 : decode cX3_readItem 90 = .ok (.ireturn, 1) := by decide +kernel
theorem dX3_readNumbers_0 : decode cX3_readNumbers 0 = .ok (.iload_n 1, 1) := by decide +kernel
theorem dX3_readNumbers_1 : decode cX3_readNumbers 1 = .ok (.istore 4, 2) := by decide +kernel
theorem dX3_readNumbers_3 : decode cX3_readNumbers 3 = .ok (.aload_n 0, 1) := by decide +kernel
theorem dX3_readNumbers_4 : decode cX3_readNumbers 4 = .ok (.getfield 19, 3) := by decide +kernel
theorem dX3_readNumbers_7 : decode cX3_readNumbers 7 = .ok (.arraylength, 1) := by decide +kernel
theorem dX3_readNumbers_8 : decode cX3_readNumbers 8 = .ok (.aload_n 2, 1) := by decide +kernel
theorem dX3_readNumbers_9 : decode cX3_readNumbers 9 = .ok (.arraylength, 1) := by decide +kernel
theorem dX3_readNumbers_10 : decode cX3_readNumbers 10 = .ok (.aload_n 3, 1) := by decide +kernel
theorem dX3_readNumbers_11 : decode cX3_readNumbers 11 = .ok (.arraylength, 1) := by decide +kernel
theorem dX3_readNumbers_12 : decode cX3_readNumbers 12 = .ok (.invokestatic 62, 3) := by decide +kernel
theorem dX3_readNumbers_15 : decode cX3_readNumbers 15 = .ok (.invokestatic 62, 3) := by decide +kernel
theorem dX3_readNumbers_18 : decode cX3_readNumbers 18 = .ok (.istore 5, 2) := by decide +kernel
theorem dX3_readNumbers_20 : decode cX3_readNumbers 20 = .ok (.iconst 0, 1) := by decide +kernel
theorem dX3_readNumbers_21 : decode cX3_readNumbers 21 = .ok (.istore 6, 2) := by decide +kernel
theorem dX3_readNumbers_23 : decode cX3_readNumbers 23 = .ok (.iload 6, 2) := by decide +kernel
theorem dX3_readNumbers_25 : decode cX3_readNumbers 25 = .ok (.iload 5, 2) := by decide +kernel
theorem dX3_readNumbers_27 : decode cX3_readNumbers 27 = .ok (.if_icmp .ge 126, 3) := by decide +kernel
theorem dX3_readNumbers_30 : decode cX3_readNumbers 30 = .ok (.aload_n 0, 1) := by decide +kernel
theorem dX3_readNumbers_31 : decode cX3_readNumbers 31 = .ok (.iload 4, 2) := by decide +kernel
theorem dX3_readNumbers_33 : decode cX3_readNumbers 33 = .ok (.invokevirtual 68, 3) := by decide +kernel
theorem dX3_readNumbers_36 : decode cX3_readNumbers 36 = .ok (.ifCond .ne 6, 3) := by decide +kernel
theorem dX3_readNumbers_39 : decode cX3_readNumbers 39 = .ok (.bipush (-4), 2) := by decide +kernel
theorem dX3_readNumbers_41 : decode cX3_readNumbers 41 = .ok (.ireturn, 1) := by decide +kernel
theorem dX3_readNumbers_42 : decode cX3_readNumbers 42 = .ok (.aload_n 0, 1) := by decide +kernel
theorem dX3_readNumbers_43 : decode cX3_readNumbers 43 = .ok (.iload 4, 2) := by decide +kernel
theorem dX3_readNumbers_45 : decode cX3_readNumbers 45 = .ok (.invokevirtual 39, 3) := by decide +kernel
theorem dX3_readNumbers_48 : decode cX3_readNumbers 48 = .ok (.bipush 48, 2) := by decide +kernel
theorem dX3_readNumbers_50 : decode cX3_readNumbers 50 = .ok (.isub, 1) := by decide +kernel
theorem dX3_readNumbers_51 : decode cX3_readNumbers 51 = .ok (.istore 7, 2) := by decide +kernel
theorem dX3_readNumbers_53 : decode cX3_readNumbers 53 = .ok (.iinc 4 1, 3) := by decide +kernel
theorem dX3_readNumbers_56 : decode cX3_readNumbers 56 = .ok (.aload_n 0, 1) := by decide +kernel
theorem dX3_readNumbers_57 : decode cX3_readNumbers 57 = .ok (.iload 4, 2) := by decide +kernel
theorem dX3_readNumbers_59 : decode cX3_readNumbers 59 = .ok (.invokevirtual 68, 3) := by decide +kernel
theorem dX3_readNumbers_62 : decode cX3_readNumbers 62 = .ok (.ifCond .eq 23, 3) := by decide +kernel
theorem dX3_readNumbers_65 : decode cX3_readNumbers 65 = .ok (.iload 7, 2) := by decide +kernel
theorem dX3_readNumbers_67 : decode cX3_readNumbers 67 = .ok (.bipush 10, 2) := by decide +kernel
theorem dX3_readNumbers_69 : decode cX3_readNumbers 69 = .ok (.imul, 1) := by decide +kernel
theorem dX3_readNumbers_70 : decode cX3_readNumbers 70 = .ok (.aload_n 0, 1) := by decide +kernel
theorem dX3_readNumbers_71 : decode cX3_readNumbers 71 = .ok (.iload 4, 2) := by decide +kernel
theorem dX3_readNumbers_73 : decode cX3_readNumbers 73 = .ok (.invokevirtual 39, 3) := by decide +kernel
theorem dX3_readNumbers_76 : decode cX3_readNumbers 76 = .ok (.iadd, 1) := by decide +kernel
theorem dX3_readNumbers_77 : decode cX3_readNumbers 77 = .ok (.bipush 48, 2) := by decide +kernel
theorem dX3_readNumbers_79 : decode cX3_readNumbers 79 = .ok (.isub, 1) := by decide +kernel
theorem dX3_readNumbers_80 : decode cX3_readNumbers 80 = .ok (.istore 7, 2) := by decide +kernel
theorem dX3_readNumbers_82 : decode cX3_readNumbers 82 = .ok (.iinc 4 1, 3) := by decide +kernel
theorem dX3_readNumbers_85 : decode cX3_readNumbers 85 = .ok (.iload 6, 2) := by decide +kernel
theorem dX3_readNumbers_87 : decode cX3_readNumbers 87 = .ok (.iload 5, 2) := by decide +kernel
theorem dX3_readNumbers_89 : decode cX3_readNumbers 89 = .ok (.iconst 1, 1) := by decide +kernel
theorem dX3_readNumbers_90 : decode cX3_readNumbers 90 = .ok (.isub, 1) := by decide +kernel
theorem dX3_readNumbers_91 : decode cX3_readNumbers 91 = .ok (.if_icmp .ge 8, 3) := by decide +kernel
theorem dX3_readNumbers_94 : decode cX3_readNumbers 94 = .ok (.bipush 44, 2) := by decide +kernel
theorem dX3_readNumbers_96 : decode cX3_readNumbers 96 = .ok (.goto 5, 3) := by decide +kernel
theorem dX3_readNumbers_99 : decode cX3_readNumbers 99 = .ok (.bipush 59, 2) := by decide +kernel
theorem dX3_readNumbers_101 : decode cX3_readNumbers 101 = .ok (.istore 8, 2) := by decide +kernel
theorem dX3_readNumbers_103 : decode cX3_readNumbers 103 = .ok (.aload_n 0, 1) := by decide +kernel
theorem dX3_readNumbers_104 : decode cX3_readNumbers 104 = .ok (.iload 4, 2) := by decide +kernel
theorem dX3_readNumbers_106 : decode cX3_readNumbers 106 = .ok (.invokevirtual 39, 3) := by decide +kernel
theorem dX3_readNumbers_109 : decode cX3_readNumbers 109 = .ok (.iload 8, 2) := by decide +kernel
theorem dX3_readNumbers_111 : decode cX3_readNumbers 111 = .ok (.if_icmp .ne 21, 3) := by decide +kernel
theorem dX3_readNumbers_114 : decode cX3_readNumbers 114 = .ok (.iload 7, 2) := by decide +kernel
theorem dX3_readNumbers_116 : decode cX3_readNumbers 116 = .ok (.aload_n 2, 1) := by decide +kernel
theorem dX3_readNumbers_117 : decode cX3_readNumbers 117 = .ok (.iload 6, 2) := by decide +kernel
theorem dX3_readNumbers_119 : decode cX3_readNumbers 119 = .ok (.iaload, 1) := by decide +kernel
theorem dX3_readNumbers_120 : decode cX3_readNumbers 120 = .ok (.if_icmp .lt 12, 3) := by decide +kernel
theorem dX3_readNumbers_123 : decode cX3_readNumbers 123 = .ok (.iload 7, 2) := by decide +kernel
theorem dX3_readNumbers_125 : decode cX3_readNumbers 125 = .ok (.aload_n 3, 1) := by decide +kernel
theorem dX3_readNumbers_126 : decode cX3_readNumbers 126 = .ok (.iload 6, 2) := by decide +kernel
theorem dX3_readNumbers_128 : decode cX3_readNumbers 128 = .ok (.iaload, 1) := by decide +kernel
theorem dX3_readNumbers_129 : decode cX3_readNumbers 129 = .ok (.if_icmp .le 6, 3) := by decide +kernel
theorem dX3_readNumbers_132 : decode cX3_readNumbers 132 = .ok (.bipush (-4), 2) := by decide +kernel
theorem dX3_readNumbers_134 : decode cX3_readNumbers 134 = .ok (.ireturn, 1) := by decide +kernel
theorem dX3_readNumbers_135 : decode cX3_readNumbers 135 = .ok (.aload_n 0, 1) := by decide +kernel
theorem dX3_readNumbers_136 : decode cX3_readNumbers 136 = .ok (.getfield 19, 3) := by decide +kernel
theorem dX3_readNumbers_139 : decode cX3_readNumbers 139 = .ok (.iload 6, 2) := by decide +kernel
theorem dX3_readNumbers_141 : decode cX3_readNumbers 141 = .ok (.iload 7, 2) := by decide +kernel
theorem dX3_readNumbers_143 : decode cX3_readNumbers 143 = .ok (.iastore, 1) := by decide +kernel
theorem dX3_readNumbers_144 : decode cX3_readNumbers 144 = .ok (.iinc 4 1, 3) := by decide +kernel
theorem dX3_readNumbers_147 : decode cX3_readNumbers 147 = .ok (.iinc 6 1, 3) := by decide +kernel
theorem dX3_readNumbers_150 : decode cX3_readNumbers 150 = .ok (.goto (-127), 3) := by decide +kernel
theorem dX3_readNumbers_153 : decode cX3_readNumbers 153 = .ok (.iload 4, 2) := by decide +kernel
theorem dX3_readNumbers_155 : decode cX3_readNumbers 155 = .ok (.ireturn, 1) := by decide +kernel
theorem dX3_isFigure_0 : decode cX3_isFigure 0 = .ok (.aload_n 0, 1) := by decide +kernel
theorem dX3_isFigure_1 : decode cX3_isFigure 1 = .ok (.iload_n 1, 1) := by decide +kernel
theorem dX3_isFigure_2 : decode cX3_isFigure 2 = .ok (.invokevirtual 39, 3) := by decide +kernel
theorem dX3_isFigure_5 : decode cX3_isFigure 5 = .ok (.istore_n 2, 1) := by decide +kernel
theorem dX3_isFigure_6 : decode cX3_isFigure 6 = .ok (.iload_n 2, 1) := by decide +kernel
theorem dX3_isFigure_7 : decode cX3_isFigure 7 = .ok (.bipush 48, 2) := by decide +kernel
theorem dX3_isFigure_9 : decode cX3_isFigure 9 = .ok (.if_icmp .lt 13, 3) := by decide +kernel
theorem dX3_isFigure_12 : decode cX3_isFigure 12 = .ok (.iload_n 2, 1) := by decide +kernel
theorem dX3_isFigure_13 : decode cX3_isFigure 13 = .ok (.bipush 57, 2) := by decide +kernel
theorem dX3_isFigure_15 : decode cX3_isFigure 15 = .ok (.if_icmp .gt 7, 3) := by decide +kernel
theorem dX3_isFigure_18 : decode cX3_isFigure 18 = .ok (.iconst 1, 1) := by decide +kernel
theorem dX3_isFigure_19 : decode cX3_isFigure 19 = .ok (.goto 4, 3) := by decide +kernel
theorem dX3_isFigure_22 : decode cX3_isFigure 22 = .ok (.iconst 0, 1) := by decide +kernel
theorem dX3_isFigure_23 : decode cX3_isFigure 23 = .ok (.ireturn, 1) := by decide +kernel
theorem dX3_letterAt_0 : decode cX3_letterAt 0 = .ok (.iload_n 1, 1) := by decide +kernel
theorem dX3_letterAt_1 : decode cX3_letterAt 1 = .ok (.ifCond .lt 27, 3) := by decide +kernel
theorem dX3_letterAt_4 : decode cX3_letterAt 4 = .ok (.iload_n 1, 1) := by decide +kernel
theorem dX3_letterAt_5 : decode cX3_letterAt 5 = .ok (.aload_n 0, 1) := by decide +kernel
theorem dX3_letterAt_6 : decode cX3_letterAt 6 = .ok (.getfield 22, 3) := by decide +kernel
theorem dX3_letterAt_9 : decode cX3_letterAt 9 = .ok (.if_icmp .ge 19, 3) := by decide +kernel
theorem dX3_letterAt_12 : decode cX3_letterAt 12 = .ok (.iload_n 1, 1) := by decide +kernel
theorem dX3_letterAt_13 : decode cX3_letterAt 13 = .ok (.sipush 200, 3) := by decide +kernel
theorem dX3_letterAt_16 : decode cX3_letterAt 16 = .ok (.if_icmp .ge 12, 3) := by decide +kernel
theorem dX3_letterAt_19 : decode cX3_letterAt 19 = .ok (.aload_n 0, 1) := by decide +kernel
theorem dX3_letterAt_20 : decode cX3_letterAt 20 = .ok (.getfield 9, 3) := by decide +kernel
theorem dX3_letterAt_23 : decode cX3_letterAt 23 = .ok (.iload_n 1, 1) := by decide +kernel
theorem dX3_letterAt_24 : decode cX3_letterAt 24 = .ok (.caload, 1) := by decide +kernel
theorem dX3_letterAt_25 : decode cX3_letterAt 25 = .ok (.goto 5, 3) := by decide +kernel
theorem dX3_letterAt_28 : decode cX3_letterAt 28 = .ok (.bipush 32, 2) := by decide +kernel
theorem dX3_letterAt_30 : decode cX3_letterAt 30 = .ok (.ireturn, 1) := by decide +kernel
theorem dX4_init_0 : decode cX4_init 0 = .ok (.aload_n 0, 1) := by decide +kernel
theorem dX4_init_1 : decode cX4_init 1 = .ok (.invokespecial 5, 3) := by decide +kernel
theorem dX4_init_4 : decode cX4_init 4 = .ok (.aload_n 0, 1) := by decide +kernel
theorem dX4_init_5 : decode cX4_init 5 = .ok (.sipush 481, 3) := by decide +kernel
theorem dX4_init_8 : decode cX4_init 8 = .ok (.newarray .long, 2) := by decide +kernel
theorem dX4_init_10 : decode cX4_init 10 = .ok (.putfield 11, 3) := by decide +kernel
theorem dX4_init_13 : decode cX4_init 13 = .ok (.aload_n 0, 1) := by decide +kernel
theorem dX4_init_14 : decode cX4_init 14 = .ok (.bipush 81, 2) := by decide +kernel
theorem dX4_init_16 : decode cX4_init 16 = .ok (.newarray .long, 2) := by decide +kernel
theorem dX4_init_18 : decode cX4_init 18 = .ok (.putfield 15, 3) := by decide +kernel
theorem dX4_init_21 : decode cX4_init 21 = .ok (.aload_n 0, 1) := by decide +kernel
theorem dX4_init_22 : decode cX4_init 22 = .ok (.aload_n 1, 1) := by decide +kernel
theorem dX4_init_23 : decode cX4_init 23 = .ok (.putfield 18, 3) := by decide +kernel
theorem dX4_init_26 : decode cX4_init 26 = .ok (.return_, 1) := by decide +kernel
theorem dX4_forget_0 : decode cX4_forget 0 = .ok (.aload_n 0, 1) := by decide +kernel
theorem dX4_forget_1 : decode cX4_forget 1 = .ok (.iconst 0, 1) := by decide +kernel
theorem dX4_forget_2 : decode cX4_forget 2 = .ok (.putfield 22, 3) := by decide +kernel
theorem dX4_forget_5 : decode cX4_forget 5 = .ok (.return_, 1) := by decide +kernel
theorem dX4_find_0 : decode cX4_find 0 = .ok (.aload_n 0, 1) := by decide +kernel
theorem dX4_find_1 : decode cX4_find 1 = .ok (.getfield 22, 3) := by decide +kernel
theorem dX4_find_4 : decode cX4_find 4 = .ok (.ifCond .eq 29, 3) := by decide +kernel
theorem dX4_find_7 : decode cX4_find 7 = .ok (.aload_n 0, 1) := by decide +kernel
theorem dX4_find_8 : decode cX4_find 8 = .ok (.getfield 26, 3) := by decide +kernel
theorem dX4_find_11 : decode cX4_find 11 = .ok (.iload_n 1, 1) := by decide +kernel
theorem dX4_find_12 : decode cX4_find 12 = .ok (.if_icmp .ne 21, 3) := by decide +kernel
theorem dX4_find_15 : decode cX4_find 15 = .ok (.aload_n 0, 1) := by decide +kernel
theorem dX4_find_16 : decode cX4_find 16 = .ok (.getfield 30, 3) := by decide +kernel
theorem dX4_find_19 : decode cX4_find 19 = .ok (.iload_n 2, 1) := by decide +kernel
theorem dX4_find_20 : decode cX4_find 20 = .ok (.if_icmp .ne 13, 3) := by decide +kernel
theorem dX4_find_23 : decode cX4_find 23 = .ok (.aload_n 0, 1) := by decide +kernel
theorem dX4_find_24 : decode cX4_find 24 = .ok (.getfield 33, 3) := by decide +kernel
theorem dX4_find_27 : decode cX4_find 27 = .ok (.iload_n 3, 1) := by decide +kernel
theorem dX4_find_28 : decode cX4_find 28 = .ok (.if_icmp .ne 5, 3) := by decide +kernel
theorem dX4_find_31 : decode cX4_find 31 = .ok (.iconst 1, 1) := by decide +kernel
theorem dX4_find_32 : decode cX4_find 32 = .ok (.ireturn, 1) := by decide +kernel
theorem dX4_find_33 : decode cX4_find 33 = .ok (.iload_n 2, 1) := by decide +kernel
theorem dX4_find_34 : decode cX4_find 34 = .ok (.ifCond .lt 22, 3) := by decide +kernel
theorem dX4_find_37 : decode cX4_find 37 = .ok (.iload_n 2, 1) := by decide +kernel
theorem dX4_find_38 : decode cX4_find 38 = .ok (.sipush 480, 3) := by decide +kernel
theorem dX4_find_41 : decode cX4_find 41 = .ok (.if_icmp .gt 15, 3) := by decide +kernel
theorem dX4_find_44 : decode cX4_find 44 = .ok (.aload_n 0, 1) := by decide +kernel
theorem dX4_find_45 : decode cX4_find 45 = .ok (.getfield 18, 3) := by decide +kernel
theorem dX4_find_48 : decode cX4_find 48 = .ok (.iload_n 1, 1) := by decide +kernel
theorem dX4_find_49 : decode cX4_find 49 = .ok (.iload_n 2, 1) := by decide +kernel
theorem dX4_find_50 : decode cX4_find 50 = .ok (.invokevirtual 36, 3) := by decide +kernel
theorem dX4_find_53 : decode cX4_find 53 = .ok (.ifCond .ne 5, 3) := by decide +kernel
theorem dX4_find_56 : decode cX4_find 56 = .ok (.iconst 0, 1) := by decide +kernel
theorem dX4_find_57 : decode cX4_find 57 = .ok (.ireturn, 1) := by decide +kernel
theorem dX4_find_58 : decode cX4_find 58 = .ok (.aload_n 0, 1) := by decide +kernel
theorem dX4_find_59 : decode cX4_find 59 = .ok (.iconst 1, 1) := by decide +kernel
theorem dX4_find_60 : decode cX4_find 60 = .ok (.putfield 22, 3) := by decide +kernel
theorem dX4_find_63 : decode cX4_find 63 = .ok (.aload_n 0, 1) := by decide +kernel
theorem dX4_find_64 : decode cX4_find 64 = .ok (.iload_n 1, 1) := by decide +kernel
theorem dX4_find_65 : decode cX4_find 65 = .ok (.putfield 26, 3) := by decide +kernel
theorem dX4_find_68 : decode cX4_find 68 = .ok (.aload_n 0, 1) := by decide +kernel
theorem dX4_find_69 : decode cX4_find 69 = .ok (.iload_n 2, 1) := by decide +kernel
theorem dX4_find_70 : decode cX4_find 70 = .ok (.putfield 30, 3) := by decide +kernel
theorem dX4_find_73 : decode cX4_find 73 = .ok (.aload_n 0, 1) := by decide +kernel
theorem dX4_find_74 : decode cX4_find 74 = .ok (.iload_n 3, 1) := by decide +kernel
theorem dX4_find_75 : decode cX4_find 75 = .ok (.putfield 33, 3) := by decide +kernel
theorem dX4_find_78 : decode cX4_find 78 = .ok (.aload_n 0, 1) := by decide +kernel
theorem dX4_find_79 : decode cX4_find 79 = .ok (.iconst 0, 1) := by decide +kernel
theorem dX4_find_80 : decode cX4_find 80 = .ok (.putfield 42, 3) := by decide +kernel
theorem dX4_find_83 : decode cX4_find 83 = .ok (.aload_n 0, 1) := by decide +kernel
theorem dX4_find_84 : decode cX4_find 84 = .ok (.iconst 0, 1) := by decide +kernel
theorem dX4_find_85 : decode cX4_find 85 = .ok (.putfield 45, 3) := by decide +kernel
theorem dX4_find_88 : decode cX4_find 88 = .ok (.aload_n 0, 1) := by decide +kernel
theorem dX4_find_89 : decode cX4_find 89 = .ok (.getfield 11, 3) := by decide +kernel
theorem dX4_find_92 : decode cX4_find 92 = .ok (.iconst 0, 1) := by decide +kernel
theorem dX4_find_93 : decode cX4_find 93 = .ok (.lconst 0, 1) := by decide +kernel
theorem dX4_find_94 : decode cX4_find 94 = .ok (.lastore, 1) := by decide +kernel
theorem dX4_find_95 : decode cX4_find 95 = .ok (.iconst 0, 1) := by decide +kernel
theorem dX4_find_96 : decode cX4_find 96 = .ok (.istore 4, 2) := by decide +kernel
theorem dX4_find_98 : decode cX4_find 98 = .ok (.iload 4, 2) := by decide +kernel
theorem dX4_find_100 : decode cX4_find 100 = .ok (.aload_n 0, 1) := by decide +kernel
theorem dX4_find_101 : decode cX4_find 101 = .ok (.getfield 18, 3) := by decide +kernel
theorem dX4_find_104 : decode cX4_find 104 = .ok (.getfield 48, 3) := by decide +kernel
theorem dX4_find_107 : decode cX4_find 107 = .ok (.if_icmp .ge 38, 3) := by decide +kernel
theorem dX4_find_110 : decode cX4_find 110 = .ok (.aload_n 0, 1) := by decide +kernel
theorem dX4_find_111 : decode cX4_find 111 = .ok (.getfield 26, 3) := by decide +kernel
theorem dX4_find_114 : decode cX4_find 114 = .ok (.iload 4, 2) := by decide +kernel
theorem dX4_find_116 : decode cX4_find 116 = .ok (.invokestatic 51, 3) := by decide +kernel
theorem dX4_find_119 : decode cX4_find 119 = .ok (.iconst 1, 1) := by decide +kernel
theorem dX4_find_120 : decode cX4_find 120 = .ok (.if_icmp .ne 19, 3) := by decide +kernel
theorem dX4_find_123 : decode cX4_find 123 = .ok (.aload_n 0, 1) := by decide +kernel
theorem dX4_find_124 : decode cX4_find 124 = .ok (.iload 4, 2) := by decide +kernel
theorem dX4_find_126 : decode cX4_find 126 = .ok (.aload_n 0, 1) := by decide +kernel
theorem dX4_find_127 : decode cX4_find 127 = .ok (.getfield 26, 3) := by decide +kernel
theorem dX4_find_130 : decode cX4_find 130 = .ok (.iconst 2, 1) := by decide +kernel
theorem dX4_find_131 : decode cX4_find 131 = .ok (.iload 4, 2) := by decide +kernel
theorem dX4_find_133 : decode cX4_find 133 = .ok (.ishl, 1) := by decide +kernel
theorem dX4_find_134 : decode cX4_find 134 = .ok (.ineg, 1) := by decide +kernel
theorem dX4_find_135 : decode cX4_find 135 = .ok (.iand, 1) := by decide +kernel
theorem dX4_find_136 : decode cX4_find 136 = .ok (.invokevirtual 55, 3) := by decide +kernel
theorem dX4_find_139 : decode cX4_find 139 = .ok (.iinc 4 1, 3) := by decide +kernel
theorem dX4_find_142 : decode cX4_find 142 = .ok (.goto (-44), 3) := by decide +kernel
theorem dX4_find_145 : decode cX4_find 145 = .ok (.iconst 1, 1) := by decide +kernel
theorem dX4_find_146 : decode cX4_find 146 = .ok (.ireturn, 1) := by decide +kernel
theorem dX4_leastPower_0 : decode cX4_leastPower 0 = .ok (.aload_n 0, 1) := by decide +kernel
theorem dX4_leastPower_1 : decode cX4_leastPower 1 = .ok (.getfield 11, 3) := by decide +kernel
theorem dX4_leastPower_4 : decode cX4_leastPower 4 = .ok (.aload_n 0, 1) := by decide +kernel
theorem dX4_leastPower_5 : decode cX4_leastPower 5 = .ok (.getfield 30, 3) := by decide +kernel
theorem dX4_leastPower_8 : decode cX4_leastPower 8 = .ok (.laload, 1) := by decide +kernel
theorem dX4_leastPower_9 : decode cX4_leastPower 9 = .ok (.bipush 42, 2) := by decide +kernel
theorem dX4_leastPower_11 : decode cX4_leastPower 11 = .ok (.lshr, 1) := by decide +kernel
theorem dX4_leastPower_12 : decode cX4_leastPower 12 = .ok (.l2i, 1) := by decide +kernel
theorem dX4_leastPower_13 : decode cX4_leastPower 13 = .ok (.ireturn, 1) := by decide +kernel
theorem dX4_part_0 : decode cX4_part 0 = .ok (.aload_n 0, 1) := by decide +kernel
theorem dX4_part_1 : decode cX4_part 1 = .ok (.getfield 11, 3) := by decide +kernel
theorem dX4_part_4 : decode cX4_part 4 = .ok (.aload_n 0, 1) := by decide +kernel
theorem dX4_part_5 : decode cX4_part 5 = .ok (.getfield 30, 3) := by decide +kernel
theorem dX4_part_8 : decode cX4_part 8 = .ok (.laload, 1) := by decide +kernel
theorem dX4_part_9 : decode cX4_part 9 = .ok (.iload_n 1, 1) := by decide +kernel
theorem dX4_part_10 : decode cX4_part 10 = .ok (.invokestatic 59, 3) := by decide +kernel
theorem dX4_part_13 : decode cX4_part 13 = .ok (.lshr, 1) := by decide +kernel
theorem dX4_part_14 : decode cX4_part 14 = .ok (.l2i, 1) := by decide +kernel
theorem dX4_part_15 : decode cX4_part 15 = .ok (.bipush 127, 2) := by decide +kernel
theorem dX4_part_17 : decode cX4_part 17 = .ok (.iand, 1) := by decide +kernel
theorem dX4_part_18 : decode cX4_part 18 = .ok (.ireturn, 1) := by decide +kernel
theorem dX4_shiftOf_0 : decode cX4_shiftOf 0 = .ok (.bipush 7, 2) := by decide +kernel
theorem dX4_shiftOf_2 : decode cX4_shiftOf 2 = .ok (.iconst 5, 1) := by decide +kernel
theorem dX4_shiftOf_3 : decode cX4_shiftOf 3 = .ok (.iload_n 0, 1) := by decide +kernel
theorem dX4_shiftOf_4 : decode cX4_shiftOf 4 = .ok (.isub, 1) := by decide +kernel
theorem dX4_shiftOf_5 : decode cX4_shiftOf 5 = .ok (.imul, 1) := by decide +kernel
theorem dX4_shiftOf_6 : decode cX4_shiftOf 6 = .ok (.ireturn, 1) := by decide +kernel
theorem dX4_addMachine_0 : decode cX4_addMachine 0 = .ok (.aload_n 0, 1) := by decide +kernel
theorem dX4_addMachine_1 : decode cX4_addMachine 1 = .ok (.iload_n 1, 1) := by decide +kernel
theorem dX4_addMachine_2 : decode cX4_addMachine 2 = .ok (.invokevirtual 63, 3) := by decide +kernel
theorem dX4_addMachine_5 : decode cX4_addMachine 5 = .ok (.aload_n 0, 1) := by decide +kernel
theorem dX4_addMachine_6 : decode cX4_addMachine 6 = .ok (.getfield 42, 3) := by decide +kernel
theorem dX4_addMachine_9 : decode cX4_addMachine 9 = .ok (.aload_n 0, 1) := by decide +kernel
theorem dX4_addMachine_10 : decode cX4_addMachine 10 = .ok (.getfield 18, 3) := by decide +kernel
theorem dX4_addMachine_13 : decode cX4_addMachine 13 = .ok (.getfield 67, 3) := by decide +kernel
theorem dX4_addMachine_16 : decode cX4_addMachine 16 = .ok (.iload_n 1, 1) := by decide +kernel
theorem dX4_addMachine_17 : decode cX4_addMachine 17 = .ok (.iaload, 1) := by decide +kernel
theorem dX4_addMachine_18 : decode cX4_addMachine 18 = .ok (.iadd, 1) := by decide +kernel
theorem dX4_addMachine_19 : decode cX4_addMachine 19 = .ok (.aload_n 0, 1) := by decide +kernel
theorem dX4_addMachine_20 : decode cX4_addMachine 20 = .ok (.getfield 30, 3) := by decide +kernel
theorem dX4_addMachine_23 : decode cX4_addMachine 23 = .ok (.aload_n 0, 1) := by decide +kernel
theorem dX4_addMachine_24 : decode cX4_addMachine 24 = .ok (.getfield 18, 3) := by decide +kernel
theorem dX4_addMachine_27 : decode cX4_addMachine 27 = .ok (.iload_n 2, 1) := by decide +kernel
theorem dX4_addMachine_28 : decode cX4_addMachine 28 = .ok (.invokevirtual 71, 3) := by decide +kernel
theorem dX4_addMachine_31 : decode cX4_addMachine 31 = .ok (.isub, 1) := by decide +kernel
theorem dX4_addMachine_32 : decode cX4_addMachine 32 = .ok (.invokestatic 74, 3) := by decide +kernel
theorem dX4_addMachine_35 : decode cX4_addMachine 35 = .ok (.istore_n 3, 1) := by decide +kernel
theorem dX4_addMachine_36 : decode cX4_addMachine 36 = .ok (.aload_n 0, 1) := by decide +kernel
theorem dX4_addMachine_37 : decode cX4_addMachine 37 = .ok (.getfield 45, 3) := by decide +kernel
theorem dX4_addMachine_40 : decode cX4_addMachine 40 = .ok (.aload_n 0, 1) := by decide +kernel
theorem dX4_addMachine_41 : decode cX4_addMachine 41 = .ok (.getfield 18, 3) := by decide +kernel
theorem dX4_addMachine_44 : decode cX4_addMachine 44 = .ok (.getfield 79, 3) := by decide +kernel
theorem dX4_addMachine_47 : decode cX4_addMachine 47 = .ok (.iload_n 1, 1) := by decide +kernel
theorem dX4_addMachine_48 : decode cX4_addMachine 48 = .ok (.iaload, 1) := by decide +kernel
theorem dX4_addMachine_49 : decode cX4_addMachine 49 = .ok (.iadd, 1) := by decide +kernel
theorem dX4_addMachine_50 : decode cX4_addMachine 50 = .ok (.aload_n 0, 1) := by decide +kernel
theorem dX4_addMachine_51 : decode cX4_addMachine 51 = .ok (.getfield 30, 3) := by decide +kernel
theorem dX4_addMachine_54 : decode cX4_addMachine 54 = .ok (.aload_n 0, 1) := by decide +kernel
theorem dX4_addMachine_55 : decode cX4_addMachine 55 = .ok (.getfield 18, 3) := by decide +kernel
theorem dX4_addMachine_58 : decode cX4_addMachine 58 = .ok (.iload_n 2, 1) := by decide +kernel
theorem dX4_addMachine_59 : decode cX4_addMachine 59 = .ok (.invokevirtual 82, 3) := by decide +kernel
theorem dX4_addMachine_62 : decode cX4_addMachine 62 = .ok (.isub, 1) := by decide +kernel
theorem dX4_addMachine_63 : decode cX4_addMachine 63 = .ok (.invokestatic 85, 3) := by decide +kernel
theorem dX4_addMachine_66 : decode cX4_addMachine 66 = .ok (.istore 4, 2) := by decide +kernel
theorem dX4_addMachine_68 : decode cX4_addMachine 68 = .ok (.iload 4, 2) := by decide +kernel
theorem dX4_addMachine_70 : decode cX4_addMachine 70 = .ok (.istore 5, 2) := by decide +kernel
theorem dX4_addMachine_72 : decode cX4_addMachine 72 = .ok (.iload 5, 2) := by decide +kernel
theorem dX4_addMachine_74 : decode cX4_addMachine 74 = .ok (.iload_n 3, 1) := by decide +kernel
theorem dX4_addMachine_75 : decode cX4_addMachine 75 = .ok (.if_icmp .lt 23, 3) := by decide +kernel
theorem dX4_addMachine_78 : decode cX4_addMachine 78 = .ok (.aload_n 0, 1) := by decide +kernel
theorem dX4_addMachine_79 : decode cX4_addMachine 79 = .ok (.getfield 11, 3) := by decide +kernel
theorem dX4_addMachine_82 : decode cX4_addMachine 82 = .ok (.iload 5, 2) := by decide +kernel
theorem dX4_addMachine_84 : decode cX4_addMachine 84 = .ok (.aload_n 0, 1) := by decide +kernel
theorem dX4_addMachine_85 : decode cX4_addMachine 85 = .ok (.iload_n 1, 1) := by decide +kernel
theorem dX4_addMachine_86 : decode cX4_addMachine 86 = .ok (.iload 5, 2) := by decide +kernel
theorem dX4_addMachine_88 : decode cX4_addMachine 88 = .ok (.invokevirtual 88, 3) := by decide +kernel
theorem dX4_addMachine_91 : decode cX4_addMachine 91 = .ok (.lastore, 1) := by decide +kernel
theorem dX4_addMachine_92 : decode cX4_addMachine 92 = .ok (.iinc 5 (-1), 3) := by decide +kernel
theorem dX4_addMachine_95 : decode cX4_addMachine 95 = .ok (.goto (-23), 3) := by decide +kernel
theorem dX4_addMachine_98 : decode cX4_addMachine 98 = .ok (.aload_n 0, 1) := by decide +kernel
theorem dX4_addMachine_99 : decode cX4_addMachine 99 = .ok (.iload_n 3, 1) := by decide +kernel
theorem dX4_addMachine_100 : decode cX4_addMachine 100 = .ok (.putfield 42, 3) := by decide +kernel
theorem dX4_addMachine_103 : decode cX4_addMachine 103 = .ok (.aload_n 0, 1) := by decide +kernel
theorem dX4_addMachine_104 : decode cX4_addMachine 104 = .ok (.iload 4, 2) := by decide +kernel
theorem dX4_addMachine_106 : decode cX4_addMachine 106 = .ok (.putfield 45, 3) := by decide +kernel
theorem dX4_addMachine_109 : decode cX4_addMachine 109 = .ok (.return_, 1) := by decide +kernel
theorem dX4_fillRow_0 : decode cX4_fillRow 0 = .ok (.aload_n 0, 1) := by decide +kernel
theorem dX4_fillRow_1 : decode cX4_fillRow 1 = .ok (.getfield 18, 3) := by decide +kernel
theorem dX4_fillRow_4 : decode cX4_fillRow 4 = .ok (.getfield 67, 3) := by decide +kernel
theorem dX4_fillRow_7 : decode cX4_fillRow 7 = .ok (.iload_n 1, 1) := by decide +kernel
theorem dX4_fillRow_8 : decode cX4_fillRow 8 = .ok (.iaload, 1) := by decide +kernel
theorem dX4_fillRow_9 : decode cX4_fillRow 9 = .ok (.istore_n 2, 1) := by decide +kernel
theorem dX4_fillRow_10 : decode cX4_fillRow 10 = .ok (.iload_n 2, 1) := by decide +kernel
theorem dX4_fillRow_11 : decode cX4_fillRow 11 = .ok (.aload_n 0, 1) := by decide +kernel
theorem dX4_fillRow_12 : decode cX4_fillRow 12 = .ok (.getfield 18, 3) := by decide +kernel
theorem dX4_fillRow_15 : decode cX4_fillRow 15 = .ok (.getfield 79, 3) := by decide +kernel
theorem dX4_fillRow_18 : decode cX4_fillRow 18 = .ok (.iload_n 1, 1) := by decide +kernel
theorem dX4_fillRow_19 : decode cX4_fillRow 19 = .ok (.iaload, 1) := by decide +kernel
theorem dX4_fillRow_20 : decode cX4_fillRow 20 = .ok (.if_icmp .gt 40, 3) := by decide +kernel
theorem dX4_fillRow_23 : decode cX4_fillRow 23 = .ok (.aload_n 0, 1) := by decide +kernel
theorem dX4_fillRow_24 : decode cX4_fillRow 24 = .ok (.getfield 15, 3) := by decide +kernel
theorem dX4_fillRow_27 : decode cX4_fillRow 27 = .ok (.iload_n 2, 1) := by decide +kernel
theorem dX4_fillRow_28 : decode cX4_fillRow 28 = .ok (.aload_n 0, 1) := by decide +kernel
theorem dX4_fillRow_29 : decode cX4_fillRow 29 = .ok (.getfield 18, 3) := by decide +kernel
theorem dX4_fillRow_32 : decode cX4_fillRow 32 = .ok (.iload_n 1, 1) := by decide +kernel
theorem dX4_fillRow_33 : decode cX4_fillRow 33 = .ok (.iload_n 2, 1) := by decide +kernel
theorem dX4_fillRow_34 : decode cX4_fillRow 34 = .ok (.aload_n 0, 1) := by decide +kernel
theorem dX4_fillRow_35 : decode cX4_fillRow 35 = .ok (.getfield 33, 3) := by decide +kernel
theorem dX4_fillRow_38 : decode cX4_fillRow 38 = .ok (.invokevirtual 92, 3) := by decide +kernel
theorem dX4_fillRow_41 : decode cX4_fillRow 41 = .ok (.i2l, 1) := by decide +kernel
theorem dX4_fillRow_42 : decode cX4_fillRow 42 = .ok (.bipush 42, 2) := by decide +kernel
theorem dX4_fillRow_44 : decode cX4_fillRow 44 = .ok (.lshl, 1) := by decide +kernel
theorem dX4_fillRow_45 : decode cX4_fillRow 45 = .ok (.iload_n 2, 1) := by decide +kernel
theorem dX4_fillRow_46 : decode cX4_fillRow 46 = .ok (.i2l, 1) := by decide +kernel
theorem dX4_fillRow_47 : decode cX4_fillRow 47 = .ok (.iload_n 1, 1) := by decide +kernel
theorem dX4_fillRow_48 : decode cX4_fillRow 48 = .ok (.invokestatic 59, 3) := by decide +kernel
theorem dX4_fillRow_51 : decode cX4_fillRow 51 = .ok (.lshl, 1) := by decide +kernel
theorem dX4_fillRow_52 : decode cX4_fillRow 52 = .ok (.ladd, 1) := by decide +kernel
theorem dX4_fillRow_53 : decode cX4_fillRow 53 = .ok (.lastore, 1) := by decide +kernel
theorem dX4_fillRow_54 : decode cX4_fillRow 54 = .ok (.iinc 2 1, 3) := by decide +kernel
theorem dX4_fillRow_57 : decode cX4_fillRow 57 = .ok (.goto (-47), 3) := by decide +kernel
theorem dX4_fillRow_60 : decode cX4_fillRow 60 = .ok (.return_, 1) := by decide +kernel
theorem dX4_leastWith_0 : decode cX4_leastWith 0 = .ok (.aload_n 0, 1) := by decide +kernel
theorem dX4_leastWith_1 : decode cX4_leastWith 1 = .ok (.getfield 18, 3) := by decide +kernel
theorem dX4_leastWith_4 : decode cX4_leastWith 4 = .ok (.getfield 79, 3) := by decide +kernel
theorem dX4_leastWith_7 : decode cX4_leastWith 7 = .ok (.iload_n 1, 1) := by decide +kernel
theorem dX4_leastWith_8 : decode cX4_leastWith 8 = .ok (.iaload, 1) := by decide +kernel
theorem dX4_leastWith_9 : decode cX4_leastWith 9 = .ok (.iload_n 2, 1) := by decide +kernel
theorem dX4_leastWith_10 : decode cX4_leastWith 10 = .ok (.aload_n 0, 1) := by decide +kernel
theorem dX4_leastWith_11 : decode cX4_leastWith 11 = .ok (.getfield 42, 3) := by decide +kernel
theorem dX4_leastWith_14 : decode cX4_leastWith 14 = .ok (.isub, 1) := by decide +kernel
theorem dX4_leastWith_15 : decode cX4_leastWith 15 = .ok (.invokestatic 85, 3) := by decide +kernel
theorem dX4_leastWith_18 : decode cX4_leastWith 18 = .ok (.istore_n 3, 1) := by decide +kernel
theorem dX4_leastWith_19 : decode cX4_leastWith 19 = .ok (.ldc2_w 98, 3) := by decide +kernel
theorem dX4_leastWith_22 : decode cX4_leastWith 22 = .ok (.lstore 4, 2) := by decide +kernel
theorem dX4_leastWith_24 : decode cX4_leastWith 24 = .ok (.aload_n 0, 1) := by decide +kernel
theorem dX4_leastWith_25 : decode cX4_leastWith 25 = .ok (.getfield 18, 3) := by decide +kernel
theorem dX4_leastWith_28 : decode cX4_leastWith 28 = .ok (.getfield 67, 3) := by decide +kernel
theorem dX4_leastWith_31 : decode cX4_leastWith 31 = .ok (.iload_n 1, 1) := by decide +kernel
theorem dX4_leastWith_32 : decode cX4_leastWith 32 = .ok (.iaload, 1) := by decide +kernel
theorem dX4_leastWith_33 : decode cX4_leastWith 33 = .ok (.iload_n 2, 1) := by decide +kernel
theorem dX4_leastWith_34 : decode cX4_leastWith 34 = .ok (.aload_n 0, 1) := by decide +kernel
theorem dX4_leastWith_35 : decode cX4_leastWith 35 = .ok (.getfield 45, 3) := by decide +kernel
theorem dX4_leastWith_38 : decode cX4_leastWith 38 = .ok (.isub, 1) := by decide +kernel
theorem dX4_leastWith_39 : decode cX4_leastWith 39 = .ok (.invokestatic 74, 3) := by decide +kernel
theorem dX4_leastWith_42 : decode cX4_leastWith 42 = .ok (.istore 6, 2) := by decide +kernel
theorem dX4_leastWith_44 : decode cX4_leastWith 44 = .ok (.iload 6, 2) := by decide +kernel
theorem dX4_leastWith_46 : decode cX4_leastWith 46 = .ok (.iload_n 3, 1) := by decide +kernel
theorem dX4_leastWith_47 : decode cX4_leastWith 47 = .ok (.if_icmp .gt 40, 3) := by decide +kernel
theorem dX4_leastWith_50 : decode cX4_leastWith 50 = .ok (.aload_n 0, 1) := by decide +kernel
theorem dX4_leastWith_51 : decode cX4_leastWith 51 = .ok (.getfield 11, 3) := by decide +kernel
theorem dX4_leastWith_54 : decode cX4_leastWith 54 = .ok (.iload_n 2, 1) := by decide +kernel
theorem dX4_leastWith_55 : decode cX4_leastWith 55 = .ok (.iload 6, 2) := by decide +kernel
theorem dX4_leastWith_57 : decode cX4_leastWith 57 = .ok (.isub, 1) := by decide +kernel
theorem dX4_leastWith_58 : decode cX4_leastWith 58 = .ok (.laload, 1) := by decide +kernel
theorem dX4_leastWith_59 : decode cX4_leastWith 59 = .ok (.aload_n 0, 1) := by decide +kernel
theorem dX4_leastWith_60 : decode cX4_leastWith 60 = .ok (.getfield 15, 3) := by decide +kernel
theorem dX4_leastWith_63 : decode cX4_leastWith 63 = .ok (.iload 6, 2) := by decide +kernel
theorem dX4_leastWith_65 : decode cX4_leastWith 65 = .ok (.laload, 1) := by decide +kernel
theorem dX4_leastWith_66 : decode cX4_leastWith 66 = .ok (.ladd, 1) := by decide +kernel
theorem dX4_leastWith_67 : decode cX4_leastWith 67 = .ok (.lstore 7, 2) := by decide +kernel
theorem dX4_leastWith_69 : decode cX4_leastWith 69 = .ok (.lload 7, 2) := by decide +kernel
theorem dX4_leastWith_71 : decode cX4_leastWith 71 = .ok (.lload 4, 2) := by decide +kernel
theorem dX4_leastWith_73 : decode cX4_leastWith 73 = .ok (.lcmp, 1) := by decide +kernel
theorem dX4_leastWith_74 : decode cX4_leastWith 74 = .ok (.ifCond .ge 7, 3) := by decide +kernel
theorem dX4_leastWith_77 : decode cX4_leastWith 77 = .ok (.lload 7, 2) := by decide +kernel
theorem dX4_leastWith_79 : decode cX4_leastWith 79 = .ok (.lstore 4, 2) := by decide +kernel
theorem dX4_leastWith_81 : decode cX4_leastWith 81 = .ok (.iinc 6 1, 3) := by decide +kernel
theorem dX4_leastWith_84 : decode cX4_leastWith 84 = .ok (.goto (-40), 3) := by decide +kernel
theorem dX4_leastWith_87 : decode cX4_leastWith 87 = .ok (.lload 4, 2) := by decide +kernel
theorem dX4_leastWith_89 : decode cX4_leastWith 89 = .ok (.lreturn, 1) := by decide +kernel
theorem dX5_init_0 : decode cX5_init 0 = .ok (.aload_n 0, 1) := by decide +kernel
theorem dX5_init_1 : decode cX5_init 1 = .ok (.invokespecial 3, 3) := by decide +kernel
theorem dX5_init_4 : decode cX5_init 4 = .ok (.aload_n 0, 1) := by decide +kernel
theorem dX5_init_5 : decode cX5_init 5 = .ok (.aload_n 1, 1) := by decide +kernel
theorem dX5_init_6 : decode cX5_init 6 = .ok (.putfield 9, 3) := by decide +kernel
theorem dX5_init_9 : decode cX5_init 9 = .ok (.aload_n 0, 1) := by decide +kernel
theorem dX5_init_10 : decode cX5_init 10 = .ok (.new 15, 3) := by decide +kernel
theorem dX5_init_13 : decode cX5_init 13 = .ok (.dup, 1) := by decide +kernel
theorem dX5_init_14 : decode cX5_init 14 = .ok (.aload_n 1, 1) := by decide +kernel
theorem dX5_init_15 : decode cX5_init 15 = .ok (.invokespecial 17, 3) := by decide +kernel
theorem dX5_init_18 : decode cX5_init 18 = .ok (.putfield 20, 3) := by decide +kernel
theorem dX5_init_21 : decode cX5_init 21 = .ok (.return_, 1) := by decide +kernel
theorem dX5_made_0 : decode cX5_made 0 = .ok (.aload_n 0, 1) := by decide +kernel
theorem dX5_made_1 : decode cX5_made 1 = .ok (.getfield 9, 3) := by decide +kernel
theorem dX5_made_4 : decode cX5_made 4 = .ok (.aload_n 1, 1) := by decide +kernel
theorem dX5_made_5 : decode cX5_made 5 = .ok (.getfield 24, 3) := by decide +kernel
theorem dX5_made_8 : decode cX5_made 8 = .ok (.invokevirtual 30, 3) := by decide +kernel
theorem dX5_made_11 : decode cX5_made 11 = .ok (.aload_n 0, 1) := by decide +kernel
theorem dX5_made_12 : decode cX5_made 12 = .ok (.getfield 9, 3) := by decide +kernel
theorem dX5_made_15 : decode cX5_made 15 = .ok (.aload_n 1, 1) := by decide +kernel
theorem dX5_made_16 : decode cX5_made 16 = .ok (.getfield 24, 3) := by decide +kernel
theorem dX5_made_19 : decode cX5_made 19 = .ok (.invokevirtual 36, 3) := by decide +kernel
theorem dX5_made_22 : decode cX5_made 22 = .ok (.aload_n 1, 1) := by decide +kernel
theorem dX5_made_23 : decode cX5_made 23 = .ok (.getfield 39, 3) := by decide +kernel
theorem dX5_made_26 : decode cX5_made 26 = .ok (.iconst 0, 1) := by decide +kernel
theorem dX5_made_27 : decode cX5_made 27 = .ok (.iaload, 1) := by decide +kernel
theorem dX5_made_28 : decode cX5_made 28 = .ok (.invokestatic 43, 3) := by decide +kernel
theorem dX5_made_31 : decode cX5_made 31 = .ok (.invokestatic 49, 3) := by decide +kernel
theorem dX5_made_34 : decode cX5_made 34 = .ok (.ireturn, 1) := by decide +kernel
theorem dX5_powerNow_0 : decode cX5_powerNow 0 = .ok (.aload_n 0, 1) := by decide +kernel
theorem dX5_powerNow_1 : decode cX5_powerNow 1 = .ok (.getfield 20, 3) := by decide +kernel
theorem dX5_powerNow_4 : decode cX5_powerNow 4 = .ok (.aload_n 1, 1) := by decide +kernel
theorem dX5_powerNow_5 : decode cX5_powerNow 5 = .ok (.getfield 24, 3) := by decide +kernel
theorem dX5_powerNow_8 : decode cX5_powerNow 8 = .ok (.aload_n 0, 1) := by decide +kernel
theorem dX5_powerNow_9 : decode cX5_powerNow 9 = .ok (.aload_n 1, 1) := by decide +kernel
theorem dX5_powerNow_10 : decode cX5_powerNow 10 = .ok (.invokevirtual 52, 3) := by decide +kernel
theorem dX5_powerNow_13 : decode cX5_powerNow 13 = .ok (.aload_n 1, 1) := by decide +kernel
theorem dX5_powerNow_14 : decode cX5_powerNow 14 = .ok (.invokevirtual 56, 3) := by decide +kernel
theorem dX5_powerNow_17 : decode cX5_powerNow 17 = .ok (.invokevirtual 60, 3) := by decide +kernel
theorem dX5_powerNow_20 : decode cX5_powerNow 20 = .ok (.ifCond .eq 13, 3) := by decide +kernel
theorem dX5_powerNow_23 : decode cX5_powerNow 23 = .ok (.aload_n 0, 1) := by decide +kernel
theorem dX5_powerNow_24 : decode cX5_powerNow 24 = .ok (.getfield 20, 3) := by decide +kernel
theorem dX5_powerNow_27 : decode cX5_powerNow 27 = .ok (.invokevirtual 64, 3) := by decide +kernel
theorem dX5_powerNow_30 : decode cX5_powerNow 30 = .ok (.goto 4, 3) := by decide +kernel
theorem dX5_powerNow_33 : decode cX5_powerNow 33 = .ok (.iconst 0, 1) := by decide +kernel
theorem dX5_powerNow_34 : decode cX5_powerNow 34 = .ok (.ireturn, 1) := by decide +kernel
theorem dX5_madeBy_0 : decode cX5_madeBy 0 = .ok (.aload_n 0, 1) := by decide +kernel
theorem dX5_madeBy_1 : decode cX5_madeBy 1 = .ok (.getfield 20, 3) := by decide +kernel
theorem dX5_madeBy_4 : decode cX5_madeBy 4 = .ok (.aload_n 1, 1) := by decide +kernel
theorem dX5_madeBy_5 : decode cX5_madeBy 5 = .ok (.getfield 24, 3) := by decide +kernel
theorem dX5_madeBy_8 : decode cX5_madeBy 8 = .ok (.aload_n 0, 1) := by decide +kernel
theorem dX5_madeBy_9 : decode cX5_madeBy 9 = .ok (.aload_n 1, 1) := by decide +kernel
theorem dX5_madeBy_10 : decode cX5_madeBy 10 = .ok (.invokevirtual 52, 3) := by decide +kernel
theorem dX5_madeBy_13 : decode cX5_madeBy 13 = .ok (.aload_n 1, 1) := by decide +kernel
theorem dX5_madeBy_14 : decode cX5_madeBy 14 = .ok (.invokevirtual 56, 3) := by decide +kernel
theorem dX5_madeBy_17 : decode cX5_madeBy 17 = .ok (.invokevirtual 60, 3) := by decide +kernel
theorem dX5_madeBy_20 : decode cX5_madeBy 20 = .ok (.ifCond .eq 14, 3) := by decide +kernel
theorem dX5_madeBy_23 : decode cX5_madeBy 23 = .ok (.aload_n 0, 1) := by decide +kernel
theorem dX5_madeBy_24 : decode cX5_madeBy 24 = .ok (.getfield 20, 3) := by decide +kernel
theorem dX5_madeBy_27 : decode cX5_madeBy 27 = .ok (.iload_n 2, 1) := by decide +kernel
theorem dX5_madeBy_28 : decode cX5_madeBy 28 = .ok (.invokevirtual 67, 3) := by decide +kernel
theorem dX5_madeBy_31 : decode cX5_madeBy 31 = .ok (.goto 4, 3) := by decide +kernel
theorem dX5_madeBy_34 : decode cX5_madeBy 34 = .ok (.iconst 0, 1) := by decide +kernel
theorem dX5_madeBy_35 : decode cX5_madeBy 35 = .ok (.ireturn, 1) := by decide +kernel
theorem dX5_pass_0 : decode cX5_pass 0 = .ok (.aload_n 1, 1) := by decide +kernel
theorem dX5_pass_1 : decode cX5_pass 1 = .ok (.dup, 1) := by decide +kernel
theorem dX5_pass_2 : decode cX5_pass 2 = .ok (.getfield 70, 3) := by decide +kernel
theorem dX5_pass_5 : decode cX5_pass 5 = .ok (.aload_n 0, 1) := by decide +kernel
theorem dX5_pass_6 : decode cX5_pass 6 = .ok (.aload_n 1, 1) := by decide +kernel
theorem dX5_pass_7 : decode cX5_pass 7 = .ok (.invokevirtual 73, 3) := by decide +kernel
theorem dX5_pass_10 : decode cX5_pass 10 = .ok (.iadd, 1) := by decide +kernel
theorem dX5_pass_11 : decode cX5_pass 11 = .ok (.putfield 70, 3) := by decide +kernel
theorem dX5_pass_14 : decode cX5_pass 14 = .ok (.aload_n 1, 1) := by decide +kernel
theorem dX5_pass_15 : decode cX5_pass 15 = .ok (.dup, 1) := by decide +kernel
theorem dX5_pass_16 : decode cX5_pass 16 = .ok (.getfield 76, 3) := by decide +kernel
theorem dX5_pass_19 : decode cX5_pass 19 = .ok (.iconst 1, 1) := by decide +kernel
theorem dX5_pass_20 : decode cX5_pass 20 = .ok (.iadd, 1) := by decide +kernel
theorem dX5_pass_21 : decode cX5_pass 21 = .ok (.putfield 76, 3) := by decide +kernel
theorem dX5_pass_24 : decode cX5_pass 24 = .ok (.iconst 0, 1) := by decide +kernel
theorem dX5_pass_25 : decode cX5_pass 25 = .ok (.istore_n 2, 1) := by decide +kernel
theorem dX5_pass_26 : decode cX5_pass 26 = .ok (.iload_n 2, 1) := by decide +kernel
theorem dX5_pass_27 : decode cX5_pass 27 = .ok (.aload_n 0, 1) := by decide +kernel
theorem dX5_pass_28 : decode cX5_pass 28 = .ok (.getfield 9, 3) := by decide +kernel
theorem dX5_pass_31 : decode cX5_pass 31 = .ok (.getfield 79, 3) := by decide +kernel
theorem dX5_pass_34 : decode cX5_pass 34 = .ok (.if_icmp .ge 32, 3) := by decide +kernel
theorem dX5_pass_37 : decode cX5_pass 37 = .ok (.aload_n 1, 1) := by decide +kernel
theorem dX5_pass_38 : decode cX5_pass 38 = .ok (.getfield 82, 3) := by decide +kernel
theorem dX5_pass_41 : decode cX5_pass 41 = .ok (.iload_n 2, 1) := by decide +kernel
theorem dX5_pass_42 : decode cX5_pass 42 = .ok (.dup2, 1) := by decide +kernel
theorem dX5_pass_43 : decode cX5_pass 43 = .ok (.iaload, 1) := by decide +kernel
theorem dX5_pass_44 : decode cX5_pass 44 = .ok (.aload_n 1, 1) := by decide +kernel
theorem dX5_pass_45 : decode cX5_pass 45 = .ok (.invokevirtual 85, 3) := by decide +kernel
theorem dX5_pass_48 : decode cX5_pass 48 = .ok (.iload_n 2, 1) := by decide +kernel
theorem dX5_pass_49 : decode cX5_pass 49 = .ok (.invokestatic 88, 3) := by decide +kernel
theorem dX5_pass_52 : decode cX5_pass 52 = .ok (.iadd, 1) := by decide +kernel
theorem dX5_pass_53 : decode cX5_pass 53 = .ok (.iastore, 1) := by decide +kernel
theorem dX5_pass_54 : decode cX5_pass 54 = .ok (.aload_n 0, 1) := by decide +kernel
theorem dX5_pass_55 : decode cX5_pass 55 = .ok (.aload_n 1, 1) := by decide +kernel
theorem dX5_pass_56 : decode cX5_pass 56 = .ok (.iload_n 2, 1) := by decide +kernel
theorem dX5_pass_57 : decode cX5_pass 57 = .ok (.invokevirtual 91, 3) := by decide +kernel
theorem dX5_pass_60 : decode cX5_pass 60 = .ok (.iinc 2 1, 3) := by decide +kernel
theorem dX5_pass_63 : decode cX5_pass 63 = .ok (.goto (-37), 3) := by decide +kernel
theorem dX5_pass_66 : decode cX5_pass 66 = .ok (.aload_n 1, 1) := by decide +kernel
theorem dX5_pass_67 : decode cX5_pass 67 = .ok (.getfield 95, 3) := by decide +kernel
theorem dX5_pass_70 : decode cX5_pass 70 = .ok (.ifCond .le 11, 3) := by decide +kernel
theorem dX5_pass_73 : decode cX5_pass 73 = .ok (.aload_n 0, 1) := by decide +kernel
theorem dX5_pass_74 : decode cX5_pass 74 = .ok (.aload_n 1, 1) := by decide +kernel
theorem dX5_pass_75 : decode cX5_pass 75 = .ok (.invokevirtual 98, 3) := by decide +kernel
theorem dX5_pass_78 : decode cX5_pass 78 = .ok (.goto 47, 3) := by decide +kernel
theorem dX5_pass_81 : decode cX5_pass 81 = .ok (.bipush 100, 2) := by decide +kernel
theorem dX5_pass_83 : decode cX5_pass 83 = .ok (.aload_n 1, 1) := by decide +kernel
theorem dX5_pass_84 : decode cX5_pass 84 = .ok (.getfield 39, 3) := by decide +kernel
theorem dX5_pass_87 : decode cX5_pass 87 = .ok (.iconst 0, 1) := by decide +kernel
theorem dX5_pass_88 : decode cX5_pass 88 = .ok (.iaload, 1) := by decide +kernel
theorem dX5_pass_89 : decode cX5_pass 89 = .ok (.imul, 1) := by decide +kernel
theorem dX5_pass_90 : decode cX5_pass 90 = .ok (.aload_n 0, 1) := by decide +kernel
theorem dX5_pass_91 : decode cX5_pass 91 = .ok (.getfield 9, 3) := by decide +kernel
theorem dX5_pass_94 : decode cX5_pass 94 = .ok (.getfield 102, 3) := by decide +kernel
theorem dX5_pass_97 : decode cX5_pass 97 = .ok (.aload_n 0, 1) := by decide +kernel
theorem dX5_pass_98 : decode cX5_pass 98 = .ok (.getfield 9, 3) := by decide +kernel
theorem dX5_pass_101 : decode cX5_pass 101 = .ok (.aload_n 1, 1) := by decide +kernel
theorem dX5_pass_102 : decode cX5_pass 102 = .ok (.invokevirtual 85, 3) := by decide +kernel
theorem dX5_pass_105 : decode cX5_pass 105 = .ok (.invokevirtual 36, 3) := by decide +kernel
theorem dX5_pass_108 : decode cX5_pass 108 = .ok (.imul, 1) := by decide +kernel
theorem dX5_pass_109 : decode cX5_pass 109 = .ok (.if_icmp .le 11, 3) := by decide +kernel
theorem dX5_pass_112 : decode cX5_pass 112 = .ok (.aload_n 0, 1) := by decide +kernel
theorem dX5_pass_113 : decode cX5_pass 113 = .ok (.aload_n 1, 1) := by decide +kernel
theorem dX5_pass_114 : decode cX5_pass 114 = .ok (.invokevirtual 105, 3) := by decide +kernel
theorem dX5_pass_117 : decode cX5_pass 117 = .ok (.goto 8, 3) := by decide +kernel
theorem dX5_pass_120 : decode cX5_pass 120 = .ok (.aload_n 0, 1) := by decide +kernel
theorem dX5_pass_121 : decode cX5_pass 121 = .ok (.aload_n 1, 1) := by decide +kernel
theorem dX5_pass_122 : decode cX5_pass 122 = .ok (.invokevirtual 108, 3) := by decide +kernel
theorem dX5_pass_125 : decode cX5_pass 125 = .ok (.return_, 1) := by decide +kernel
theorem dX5_comeOn_0 : decode cX5_comeOn 0 = .ok (.aload_n 1, 1) := by decide +kernel
theorem dX5_comeOn_1 : decode cX5_comeOn 1 = .ok (.getfield 111, 3) := by decide +kernel
theorem dX5_comeOn_4 : decode cX5_comeOn 4 = .ok (.iload_n 2, 1) := by decide +kernel
theorem dX5_comeOn_5 : decode cX5_comeOn 5 = .ok (.invokestatic 88, 3) := by decide +kernel
theorem dX5_comeOn_8 : decode cX5_comeOn 8 = .ok (.iconst 1, 1) := by decide +kernel
theorem dX5_comeOn_9 : decode cX5_comeOn 9 = .ok (.if_icmp .ne 42, 3) := by decide +kernel
theorem dX5_comeOn_12 : decode cX5_comeOn 12 = .ok (.aload_n 1, 1) := by decide +kernel
theorem dX5_comeOn_13 : decode cX5_comeOn 13 = .ok (.iload_n 2, 1) := by decide +kernel
theorem dX5_comeOn_14 : decode cX5_comeOn 14 = .ok (.aload_n 1, 1) := by decide +kernel
theorem dX5_comeOn_15 : decode cX5_comeOn 15 = .ok (.getfield 76, 3) := by decide +kernel
theorem dX5_comeOn_18 : decode cX5_comeOn 18 = .ok (.invokevirtual 114, 3) := by decide +kernel
theorem dX5_comeOn_21 : decode cX5_comeOn 21 = .ok (.iconst 3, 1) := by decide +kernel
theorem dX5_comeOn_22 : decode cX5_comeOn 22 = .ok (.if_icmp .lt 29, 3) := by decide +kernel
theorem dX5_comeOn_25 : decode cX5_comeOn 25 = .ok (.aload_n 1, 1) := by decide +kernel
theorem dX5_comeOn_26 : decode cX5_comeOn 26 = .ok (.dup, 1) := by decide +kernel
theorem dX5_comeOn_27 : decode cX5_comeOn 27 = .ok (.getfield 111, 3) := by decide +kernel
theorem dX5_comeOn_30 : decode cX5_comeOn 30 = .ok (.iconst 1, 1) := by decide +kernel
theorem dX5_comeOn_31 : decode cX5_comeOn 31 = .ok (.iload_n 2, 1) := by decide +kernel
theorem dX5_comeOn_32 : decode cX5_comeOn 32 = .ok (.ishl, 1) := by decide +kernel
theorem dX5_comeOn_33 : decode cX5_comeOn 33 = .ok (.iconst (-1), 1) := by decide +kernel
theorem dX5_comeOn_34 : decode cX5_comeOn 34 = .ok (.ixor, 1) := by decide +kernel
theorem dX5_comeOn_35 : decode cX5_comeOn 35 = .ok (.iand, 1) := by decide +kernel
theorem dX5_comeOn_36 : decode cX5_comeOn 36 = .ok (.putfield 111, 3) := by decide +kernel
theorem dX5_comeOn_39 : decode cX5_comeOn 39 = .ok (.aload_n 1, 1) := by decide +kernel
theorem dX5_comeOn_40 : decode cX5_comeOn 40 = .ok (.dup, 1) := by decide +kernel
theorem dX5_comeOn_41 : decode cX5_comeOn 41 = .ok (.getfield 24, 3) := by decide +kernel
theorem dX5_comeOn_44 : decode cX5_comeOn 44 = .ok (.iconst 1, 1) := by decide +kernel
theorem dX5_comeOn_45 : decode cX5_comeOn 45 = .ok (.iload_n 2, 1) := by decide +kernel
theorem dX5_comeOn_46 : decode cX5_comeOn 46 = .ok (.ishl, 1) := by decide +kernel
theorem dX5_comeOn_47 : decode cX5_comeOn 47 = .ok (.ior, 1) := by decide +kernel
theorem dX5_comeOn_48 : decode cX5_comeOn 48 = .ok (.putfield 24, 3) := by decide +kernel
theorem dX5_comeOn_51 : decode cX5_comeOn 51 = .ok (.return_, 1) := by decide +kernel
theorem dX5_comeBack_0 : decode cX5_comeBack 0 = .ok (.aload_n 0, 1) := by decide +kernel
theorem dX5_comeBack_1 : decode cX5_comeBack 1 = .ok (.aload_n 1, 1) := by decide +kernel
theorem dX5_comeBack_2 : decode cX5_comeBack 2 = .ok (.aload_n 1, 1) := by decide +kernel
theorem dX5_comeBack_3 : decode cX5_comeBack 3 = .ok (.getfield 76, 3) := by decide +kernel
theorem dX5_comeBack_6 : decode cX5_comeBack 6 = .ok (.invokevirtual 117, 3) := by decide +kernel
theorem dX5_comeBack_9 : decode cX5_comeBack 9 = .ok (.ifCond .eq 18, 3) := by decide +kernel
theorem dX5_comeBack_12 : decode cX5_comeBack 12 = .ok (.aload_n 1, 1) := by decide +kernel
theorem dX5_comeBack_13 : decode cX5_comeBack 13 = .ok (.invokevirtual 121, 3) := by decide +kernel
theorem dX5_comeBack_16 : decode cX5_comeBack 16 = .ok (.istore_n 2, 1) := by decide +kernel
theorem dX5_comeBack_17 : decode cX5_comeBack 17 = .ok (.aload_n 1, 1) := by decide +kernel
theorem dX5_comeBack_18 : decode cX5_comeBack 18 = .ok (.iload_n 2, 1) := by decide +kernel
theorem dX5_comeBack_19 : decode cX5_comeBack 19 = .ok (.invokevirtual 124, 3) := by decide +kernel
theorem dX5_comeBack_22 : decode cX5_comeBack 22 = .ok (.aload_n 1, 1) := by decide +kernel
theorem dX5_comeBack_23 : decode cX5_comeBack 23 = .ok (.iload_n 2, 1) := by decide +kernel
theorem dX5_comeBack_24 : decode cX5_comeBack 24 = .ok (.invokevirtual 128, 3) := by decide +kernel
theorem dX5_comeBack_27 : decode cX5_comeBack 27 = .ok (.return_, 1) := by decide +kernel
theorem dX5_stageUp_0 : decode cX5_stageUp 0 = .ok (.aload_n 1, 1) := by decide +kernel
theorem dX5_stageUp_1 : decode cX5_stageUp 1 = .ok (.dup, 1) := by decide +kernel
theorem dX5_stageUp_2 : decode cX5_stageUp 2 = .ok (.getfield 131, 3) := by decide +kernel
theorem dX5_stageUp_5 : decode cX5_stageUp 5 = .ok (.iconst 1, 1) := by decide +kernel
theorem dX5_stageUp_6 : decode cX5_stageUp 6 = .ok (.iadd, 1) := by decide +kernel
theorem dX5_stageUp_7 : decode cX5_stageUp 7 = .ok (.putfield 131, 3) := by decide +kernel
theorem dX5_stageUp_10 : decode cX5_stageUp 10 = .ok (.aload_n 1, 1) := by decide +kernel
theorem dX5_stageUp_11 : decode cX5_stageUp 11 = .ok (.iconst 0, 1) := by decide +kernel
theorem dX5_stageUp_12 : decode cX5_stageUp 12 = .ok (.putfield 134, 3) := by decide +kernel
theorem dX5_stageUp_15 : decode cX5_stageUp 15 = .ok (.aload_n 1, 1) := by decide +kernel
theorem dX5_stageUp_16 : decode cX5_stageUp 16 = .ok (.getfield 131, 3) := by decide +kernel
theorem dX5_stageUp_19 : decode cX5_stageUp 19 = .ok (.aload_n 0, 1) := by decide +kernel
theorem dX5_stageUp_20 : decode cX5_stageUp 20 = .ok (.getfield 9, 3) := by decide +kernel
theorem dX5_stageUp_23 : decode cX5_stageUp 23 = .ok (.getfield 137, 3) := by decide +kernel
theorem dX5_stageUp_26 : decode cX5_stageUp 26 = .ok (.if_icmp .le 11, 3) := by decide +kernel
theorem dX5_stageUp_29 : decode cX5_stageUp 29 = .ok (.aload_n 0, 1) := by decide +kernel
theorem dX5_stageUp_30 : decode cX5_stageUp 30 = .ok (.aload_n 1, 1) := by decide +kernel
theorem dX5_stageUp_31 : decode cX5_stageUp 31 = .ok (.invokevirtual 140, 3) := by decide +kernel
theorem dX5_stageUp_34 : decode cX5_stageUp 34 = .ok (.goto 5, 3) := by decide +kernel
theorem dX5_stageUp_37 : decode cX5_stageUp 37 = .ok (.bipush (-4), 2) := by decide +kernel
theorem dX5_stageUp_39 : decode cX5_stageUp 39 = .ok (.istore_n 2, 1) := by decide +kernel
theorem dX5_stageUp_40 : decode cX5_stageUp 40 = .ok (.iload_n 2, 1) := by decide +kernel
theorem dX5_stageUp_41 : decode cX5_stageUp 41 = .ok (.bipush (-4), 2) := by decide +kernel
theorem dX5_stageUp_43 : decode cX5_stageUp 43 = .ok (.if_icmp .eq 13, 3) := by decide +kernel
theorem dX5_stageUp_46 : decode cX5_stageUp 46 = .ok (.aload_n 1, 1) := by decide +kernel
theorem dX5_stageUp_47 : decode cX5_stageUp 47 = .ok (.iload_n 2, 1) := by decide +kernel
theorem dX5_stageUp_48 : decode cX5_stageUp 48 = .ok (.invokevirtual 128, 3) := by decide +kernel
theorem dX5_stageUp_51 : decode cX5_stageUp 51 = .ok (.aload_n 1, 1) := by decide +kernel
theorem dX5_stageUp_52 : decode cX5_stageUp 52 = .ok (.iconst 0, 1) := by decide +kernel
theorem dX5_stageUp_53 : decode cX5_stageUp 53 = .ok (.putfield 131, 3) := by decide +kernel
theorem dX5_stageUp_56 : decode cX5_stageUp 56 = .ok (.return_, 1) := by decide +kernel
theorem dX5_stageDown_0 : decode cX5_stageDown 0 = .ok (.aload_n 0, 1) := by decide +kernel
theorem dX5_stageDown_1 : decode cX5_stageDown 1 = .ok (.aload_n 1, 1) := by decide +kernel
theorem dX5_stageDown_2 : decode cX5_stageDown 2 = .ok (.invokevirtual 143, 3) := by decide +kernel
theorem dX5_stageDown_5 : decode cX5_stageDown 5 = .ok (.istore_n 2, 1) := by decide +kernel
theorem dX5_stageDown_6 : decode cX5_stageDown 6 = .ok (.aload_n 1, 1) := by decide +kernel
theorem dX5_stageDown_7 : decode cX5_stageDown 7 = .ok (.iconst 0, 1) := by decide +kernel
theorem dX5_stageDown_8 : decode cX5_stageDown 8 = .ok (.putfield 131, 3) := by decide +kernel
theorem dX5_stageDown_11 : decode cX5_stageDown 11 = .ok (.iload_n 2, 1) := by decide +kernel
theorem dX5_stageDown_12 : decode cX5_stageDown 12 = .ok (.bipush (-4), 2) := by decide +kernel
theorem dX5_stageDown_14 : decode cX5_stageDown 14 = .ok (.if_icmp .eq 40, 3) := by decide +kernel
theorem dX5_stageDown_17 : decode cX5_stageDown 17 = .ok (.bipush 100, 2) := by decide +kernel
theorem dX5_stageDown_19 : decode cX5_stageDown 19 = .ok (.aload_n 1, 1) := by decide +kernel
theorem dX5_stageDown_20 : decode cX5_stageDown 20 = .ok (.getfield 39, 3) := by decide +kernel
theorem dX5_stageDown_23 : decode cX5_stageDown 23 = .ok (.iconst 0, 1) := by decide +kernel
theorem dX5_stageDown_24 : decode cX5_stageDown 24 = .ok (.iaload, 1) := by decide +kernel
theorem dX5_stageDown_25 : decode cX5_stageDown 25 = .ok (.imul, 1) := by decide +kernel
theorem dX5_stageDown_26 : decode cX5_stageDown 26 = .ok (.aload_n 0, 1) := by decide +kernel
theorem dX5_stageDown_27 : decode cX5_stageDown 27 = .ok (.getfield 9, 3) := by decide +kernel
theorem dX5_stageDown_30 : decode cX5_stageDown 30 = .ok (.getfield 146, 3) := by decide +kernel
theorem dX5_stageDown_33 : decode cX5_stageDown 33 = .ok (.aload_n 0, 1) := by decide +kernel
theorem dX5_stageDown_34 : decode cX5_stageDown 34 = .ok (.getfield 9, 3) := by decide +kernel
theorem dX5_stageDown_37 : decode cX5_stageDown 37 = .ok (.aload_n 1, 1) := by decide +kernel
theorem dX5_stageDown_38 : decode cX5_stageDown 38 = .ok (.invokevirtual 85, 3) := by decide +kernel
theorem dX5_stageDown_41 : decode cX5_stageDown 41 = .ok (.iconst 1, 1) := by decide +kernel
theorem dX5_stageDown_42 : decode cX5_stageDown 42 = .ok (.iload_n 2, 1) := by decide +kernel
theorem dX5_stageDown_43 : decode cX5_stageDown 43 = .ok (.ishl, 1) := by decide +kernel
theorem dX5_stageDown_44 : decode cX5_stageDown 44 = .ok (.iconst (-1), 1) := by decide +kernel
theorem dX5_stageDown_45 : decode cX5_stageDown 45 = .ok (.ixor, 1) := by decide +kernel
theorem dX5_stageDown_46 : decode cX5_stageDown 46 = .ok (.iand, 1) := by decide +kernel
theorem dX5_stageDown_47 : decode cX5_stageDown 47 = .ok (.invokevirtual 36, 3) := by decide +kernel
theorem dX5_stageDown_50 : decode cX5_stageDown 50 = .ok (.imul, 1) := by decide +kernel
theorem dX5_stageDown_51 : decode cX5_stageDown 51 = .ok (.if_icmp .lt 9, 3) := by decide +kernel
theorem dX5_stageDown_54 : decode cX5_stageDown 54 = .ok (.aload_n 1, 1) := by decide +kernel
theorem dX5_stageDown_55 : decode cX5_stageDown 55 = .ok (.iconst 0, 1) := by decide +kernel
theorem dX5_stageDown_56 : decode cX5_stageDown 56 = .ok (.putfield 134, 3) := by decide +kernel
theorem dX5_stageDown_59 : decode cX5_stageDown 59 = .ok (.return_, 1) := by decide +kernel
theorem dX5_stageDown_60 : decode cX5_stageDown 60 = .ok (.aload_n 1, 1) := by decide +kernel
theorem dX5_stageDown_61 : decode cX5_stageDown 61 = .ok (.dup, 1) := by decide +kernel
theorem dX5_stageDown_62 : decode cX5_stageDown 62 = .ok (.getfield 134, 3) := by decide +kernel
theorem dX5_stageDown_65 : decode cX5_stageDown 65 = .ok (.iconst 1, 1) := by decide +kernel
theorem dX5_stageDown_66 : decode cX5_stageDown 66 = .ok (.iadd, 1) := by decide +kernel
theorem dX5_stageDown_67 : decode cX5_stageDown 67 = .ok (.putfield 134, 3) := by decide +kernel
theorem dX5_stageDown_70 : decode cX5_stageDown 70 = .ok (.aload_n 1, 1) := by decide +kernel
theorem dX5_stageDown_71 : decode cX5_stageDown 71 = .ok (.getfield 134, 3) := by decide +kernel
theorem dX5_stageDown_74 : decode cX5_stageDown 74 = .ok (.aload_n 0, 1) := by decide +kernel
theorem dX5_stageDown_75 : decode cX5_stageDown 75 = .ok (.getfield 9, 3) := by decide +kernel
theorem dX5_stageDown_78 : decode cX5_stageDown 78 = .ok (.getfield 137, 3) := by decide +kernel
theorem dX5_stageDown_81 : decode cX5_stageDown 81 = .ok (.if_icmp .le 13, 3) := by decide +kernel
theorem dX5_stageDown_84 : decode cX5_stageDown 84 = .ok (.aload_n 1, 1) := by decide +kernel
theorem dX5_stageDown_85 : decode cX5_stageDown 85 = .ok (.iload_n 2, 1) := by decide +kernel
theorem dX5_stageDown_86 : decode cX5_stageDown 86 = .ok (.invokevirtual 149, 3) := by decide +kernel
theorem dX5_stageDown_89 : decode cX5_stageDown 89 = .ok (.aload_n 1, 1) := by decide +kernel
theorem dX5_stageDown_90 : decode cX5_stageDown 90 = .ok (.iconst 0, 1) := by decide +kernel
theorem dX5_stageDown_91 : decode cX5_stageDown 91 = .ok (.putfield 134, 3) := by decide +kernel
theorem dX5_stageDown_94 : decode cX5_stageDown 94 = .ok (.return_, 1) := by decide +kernel
theorem dX5_gapIsOver_0 : decode cX5_gapIsOver 0 = .ok (.iload_n 2, 1) := by decide +kernel
theorem dX5_gapIsOver_1 : decode cX5_gapIsOver 1 = .ok (.aload_n 1, 1) := by decide +kernel
theorem dX5_gapIsOver_2 : decode cX5_gapIsOver 2 = .ok (.getfield 152, 3) := by decide +kernel
theorem dX5_gapIsOver_5 : decode cX5_gapIsOver 5 = .ok (.isub, 1) := by decide +kernel
theorem dX5_gapIsOver_6 : decode cX5_gapIsOver 6 = .ok (.aload_n 0, 1) := by decide +kernel
theorem dX5_gapIsOver_7 : decode cX5_gapIsOver 7 = .ok (.getfield 9, 3) := by decide +kernel
theorem dX5_gapIsOver_10 : decode cX5_gapIsOver 10 = .ok (.getfield 155, 3) := by decide +kernel
theorem dX5_gapIsOver_13 : decode cX5_gapIsOver 13 = .ok (.if_icmp .le 7, 3) := by decide +kernel
theorem dX5_gapIsOver_16 : decode cX5_gapIsOver 16 = .ok (.iconst 1, 1) := by decide +kernel
theorem dX5_gapIsOver_17 : decode cX5_gapIsOver 17 = .ok (.goto 4, 3) := by decide +kernel
theorem dX5_gapIsOver_20 : decode cX5_gapIsOver 20 = .ok (.iconst 0, 1) := by decide +kernel
theorem dX5_gapIsOver_21 : decode cX5_gapIsOver 21 = .ok (.ireturn, 1) := by decide +kernel
theorem dX5_mayStart_0 : decode cX5_mayStart 0 = .ok (.aload_n 1, 1) := by decide +kernel
theorem dX5_mayStart_1 : decode cX5_mayStart 1 = .ok (.invokevirtual 85, 3) := by decide +kernel
theorem dX5_mayStart_4 : decode cX5_mayStart 4 = .ok (.aload_n 1, 1) := by decide +kernel
theorem dX5_mayStart_5 : decode cX5_mayStart 5 = .ok (.getfield 158, 3) := by decide +kernel
theorem dX5_mayStart_8 : decode cX5_mayStart 8 = .ok (.ior, 1) := by decide +kernel
theorem dX5_mayStart_9 : decode cX5_mayStart 9 = .ok (.iload_n 2, 1) := by decide +kernel
theorem dX5_mayStart_10 : decode cX5_mayStart 10 = .ok (.invokestatic 88, 3) := by decide +kernel
theorem dX5_mayStart_13 : decode cX5_mayStart 13 = .ok (.ifCond .ne 51, 3) := by decide +kernel
theorem dX5_mayStart_16 : decode cX5_mayStart 16 = .ok (.aload_n 1, 1) := by decide +kernel
theorem dX5_mayStart_17 : decode cX5_mayStart 17 = .ok (.iload_n 2, 1) := by decide +kernel
theorem dX5_mayStart_18 : decode cX5_mayStart 18 = .ok (.iload_n 3, 1) := by decide +kernel
theorem dX5_mayStart_19 : decode cX5_mayStart 19 = .ok (.invokevirtual 161, 3) := by decide +kernel
theorem dX5_mayStart_22 : decode cX5_mayStart 22 = .ok (.aload_n 0, 1) := by decide +kernel
theorem dX5_mayStart_23 : decode cX5_mayStart 23 = .ok (.getfield 9, 3) := by decide +kernel
theorem dX5_mayStart_26 : decode cX5_mayStart 26 = .ok (.getfield 164, 3) := by decide +kernel
theorem dX5_mayStart_29 : decode cX5_mayStart 29 = .ok (.if_icmp .le 35, 3) := by decide +kernel
theorem dX5_mayStart_32 : decode cX5_mayStart 32 = .ok (.iload_n 3, 1) := by decide +kernel
theorem dX5_mayStart_33 : decode cX5_mayStart 33 = .ok (.aload_n 1, 1) := by decide +kernel
theorem dX5_mayStart_34 : decode cX5_mayStart 34 = .ok (.iload_n 2, 1) := by decide +kernel
theorem dX5_mayStart_35 : decode cX5_mayStart 35 = .ok (.aload_n 0, 1) := by decide +kernel
theorem dX5_mayStart_36 : decode cX5_mayStart 36 = .ok (.getfield 9, 3) := by decide +kernel
theorem dX5_mayStart_39 : decode cX5_mayStart 39 = .ok (.getfield 167, 3) := by decide +kernel
theorem dX5_mayStart_42 : decode cX5_mayStart 42 = .ok (.invokevirtual 170, 3) := by decide +kernel
theorem dX5_mayStart_45 : decode cX5_mayStart 45 = .ok (.isub, 1) := by decide +kernel
theorem dX5_mayStart_46 : decode cX5_mayStart 46 = .ok (.bipush 60, 2) := by decide +kernel
theorem dX5_mayStart_48 : decode cX5_mayStart 48 = .ok (.if_icmp .lt 16, 3) := by decide +kernel
theorem dX5_mayStart_51 : decode cX5_mayStart 51 = .ok (.aload_n 0, 1) := by decide +kernel
theorem dX5_mayStart_52 : decode cX5_mayStart 52 = .ok (.aload_n 1, 1) := by decide +kernel
theorem dX5_mayStart_53 : decode cX5_mayStart 53 = .ok (.iload_n 3, 1) := by decide +kernel
theorem dX5_mayStart_54 : decode cX5_mayStart 54 = .ok (.invokevirtual 117, 3) := by decide +kernel
theorem dX5_mayStart_57 : decode cX5_mayStart 57 = .ok (.ifCond .eq 7, 3) := by decide +kernel
theorem dX5_mayStart_60 : decode cX5_mayStart 60 = .ok (.iconst 1, 1) := by decide +kernel
theorem dX5_mayStart_61 : decode cX5_mayStart 61 = .ok (.goto 4, 3) := by decide +kernel
theorem dX5_mayStart_64 : decode cX5_mayStart 64 = .ok (.iconst 0, 1) := by decide +kernel
theorem dX5_mayStart_65 : decode cX5_mayStart 65 = .ok (.ireturn, 1) := by decide +kernel
theorem dX5_nextToStart_0 : decode cX5_nextToStart 0 = .ok (.bipush (-4), 2) := by decide +kernel
theorem dX5_nextToStart_2 : decode cX5_nextToStart 2 = .ok (.istore_n 2, 1) := by decide +kernel
theorem dX5_nextToStart_3 : decode cX5_nextToStart 3 = .ok (.iconst 0, 1) := by decide +kernel
theorem dX5_nextToStart_4 : decode cX5_nextToStart 4 = .ok (.istore_n 3, 1) := by decide +kernel
theorem dX5_nextToStart_5 : decode cX5_nextToStart 5 = .ok (.iload_n 3, 1) := by decide +kernel
theorem dX5_nextToStart_6 : decode cX5_nextToStart 6 = .ok (.aload_n 0, 1) := by decide +kernel
theorem dX5_nextToStart_7 : decode cX5_nextToStart 7 = .ok (.getfield 9, 3) := by decide +kernel
theorem dX5_nextToStart_10 : decode cX5_nextToStart 10 = .ok (.getfield 79, 3) := by decide +kernel
theorem dX5_nextToStart_13 : decode cX5_nextToStart 13 = .ok (.if_icmp .ge 45, 3) := by decide +kernel
theorem dX5_nextToStart_16 : decode cX5_nextToStart 16 = .ok (.aload_n 0, 1) := by decide +kernel
theorem dX5_nextToStart_17 : decode cX5_nextToStart 17 = .ok (.aload_n 1, 1) := by decide +kernel
theorem dX5_nextToStart_18 : decode cX5_nextToStart 18 = .ok (.iload_n 3, 1) := by decide +kernel
theorem dX5_nextToStart_19 : decode cX5_nextToStart 19 = .ok (.aload_n 1, 1) := by decide +kernel
theorem dX5_nextToStart_20 : decode cX5_nextToStart 20 = .ok (.getfield 76, 3) := by decide +kernel
theorem dX5_nextToStart_23 : decode cX5_nextToStart 23 = .ok (.invokevirtual 173, 3) := by decide +kernel
theorem dX5_nextToStart_26 : decode cX5_nextToStart 26 = .ok (.ifCond .eq 26, 3) := by decide +kernel
theorem dX5_nextToStart_29 : decode cX5_nextToStart 29 = .ok (.iload_n 2, 1) := by decide +kernel
theorem dX5_nextToStart_30 : decode cX5_nextToStart 30 = .ok (.bipush (-4), 2) := by decide +kernel
theorem dX5_nextToStart_32 : decode cX5_nextToStart 32 = .ok (.if_icmp .eq 18, 3) := by decide +kernel
theorem dX5_nextToStart_35 : decode cX5_nextToStart 35 = .ok (.aload_n 1, 1) := by decide +kernel
theorem dX5_nextToStart_36 : decode cX5_nextToStart 36 = .ok (.getfield 82, 3) := by decide +kernel
theorem dX5_nextToStart_39 : decode cX5_nextToStart 39 = .ok (.iload_n 3, 1) := by decide +kernel
theorem dX5_nextToStart_40 : decode cX5_nextToStart 40 = .ok (.iaload, 1) := by decide +kernel
theorem dX5_nextToStart_41 : decode cX5_nextToStart 41 = .ok (.aload_n 1, 1) := by decide +kernel
theorem dX5_nextToStart_42 : decode cX5_nextToStart 42 = .ok (.getfield 82, 3) := by decide +kernel
theorem dX5_nextToStart_45 : decode cX5_nextToStart 45 = .ok (.iload_n 2, 1) := by decide +kernel
theorem dX5_nextToStart_46 : decode cX5_nextToStart 46 = .ok (.iaload, 1) := by decide +kernel
theorem dX5_nextToStart_47 : decode cX5_nextToStart 47 = .ok (.if_icmp .ge 5, 3) := by decide +kernel
theorem dX5_nextToStart_50 : decode cX5_nextToStart 50 = .ok (.iload_n 3, 1) := by decide +kernel
theorem dX5_nextToStart_51 : decode cX5_nextToStart 51 = .ok (.istore_n 2, 1) := by decide +kernel
theorem dX5_nextToStart_52 : decode cX5_nextToStart 52 = .ok (.iinc 3 1, 3) := by decide +kernel
theorem dX5_nextToStart_55 : decode cX5_nextToStart 55 = .ok (.goto (-50), 3) := by decide +kernel
theorem dX5_nextToStart_58 : decode cX5_nextToStart 58 = .ok (.iload_n 2, 1) := by decide +kernel
theorem dX5_nextToStart_59 : decode cX5_nextToStart 59 = .ok (.ireturn, 1) := by decide +kernel
theorem dX5_nextToStop_0 : decode cX5_nextToStop 0 = .ok (.bipush (-4), 2) := by decide +kernel
theorem dX5_nextToStop_2 : decode cX5_nextToStop 2 = .ok (.istore_n 2, 1) := by decide +kernel
theorem dX5_nextToStop_3 : decode cX5_nextToStop 3 = .ok (.iconst 0, 1) := by decide +kernel
theorem dX5_nextToStop_4 : decode cX5_nextToStop 4 = .ok (.istore_n 3, 1) := by decide +kernel
theorem dX5_nextToStop_5 : decode cX5_nextToStop 5 = .ok (.iload_n 3, 1) := by decide +kernel
theorem dX5_nextToStop_6 : decode cX5_nextToStop 6 = .ok (.aload_n 0, 1) := by decide +kernel
theorem dX5_nextToStop_7 : decode cX5_nextToStop 7 = .ok (.getfield 9, 3) := by decide +kernel
theorem dX5_nextToStop_10 : decode cX5_nextToStop 10 = .ok (.getfield 79, 3) := by decide +kernel
theorem dX5_nextToStop_13 : decode cX5_nextToStop 13 = .ok (.if_icmp .ge 63, 3) := by decide +kernel
theorem dX5_nextToStop_16 : decode cX5_nextToStop 16 = .ok (.aload_n 1, 1) := by decide +kernel
theorem dX5_nextToStop_17 : decode cX5_nextToStop 17 = .ok (.getfield 24, 3) := by decide +kernel
theorem dX5_nextToStop_20 : decode cX5_nextToStop 20 = .ok (.iload_n 3, 1) := by decide +kernel
theorem dX5_nextToStop_21 : decode cX5_nextToStop 21 = .ok (.invokestatic 88, 3) := by decide +kernel
theorem dX5_nextToStop_24 : decode cX5_nextToStop 24 = .ok (.iconst 1, 1) := by decide +kernel
theorem dX5_nextToStop_25 : decode cX5_nextToStop 25 = .ok (.if_icmp .ne 45, 3) := by decide +kernel
theorem dX5_nextToStop_28 : decode cX5_nextToStop 28 = .ok (.aload_n 1, 1) := by decide +kernel
theorem dX5_nextToStop_29 : decode cX5_nextToStop 29 = .ok (.iload_n 3, 1) := by decide +kernel
theorem dX5_nextToStop_30 : decode cX5_nextToStop 30 = .ok (.aload_n 1, 1) := by decide +kernel
theorem dX5_nextToStop_31 : decode cX5_nextToStop 31 = .ok (.getfield 76, 3) := by decide +kernel
theorem dX5_nextToStop_34 : decode cX5_nextToStop 34 = .ok (.invokevirtual 114, 3) := by decide +kernel
theorem dX5_nextToStop_37 : decode cX5_nextToStop 37 = .ok (.aload_n 0, 1) := by decide +kernel
theorem dX5_nextToStop_38 : decode cX5_nextToStop 38 = .ok (.getfield 9, 3) := by decide +kernel
theorem dX5_nextToStop_41 : decode cX5_nextToStop 41 = .ok (.getfield 177, 3) := by decide +kernel
theorem dX5_nextToStop_44 : decode cX5_nextToStop 44 = .ok (.if_icmp .le 26, 3) := by decide +kernel
theorem dX5_nextToStop_47 : decode cX5_nextToStop 47 = .ok (.iload_n 2, 1) := by decide +kernel
theorem dX5_nextToStop_48 : decode cX5_nextToStop 48 = .ok (.bipush (-4), 2) := by decide +kernel
theorem dX5_nextToStop_50 : decode cX5_nextToStop 50 = .ok (.if_icmp .eq 18, 3) := by decide +kernel
theorem dX5_nextToStop_53 : decode cX5_nextToStop 53 = .ok (.aload_n 1, 1) := by decide +kernel
theorem dX5_nextToStop_54 : decode cX5_nextToStop 54 = .ok (.getfield 82, 3) := by decide +kernel
theorem dX5_nextToStop_57 : decode cX5_nextToStop 57 = .ok (.iload_n 3, 1) := by decide +kernel
theorem dX5_nextToStop_58 : decode cX5_nextToStop 58 = .ok (.iaload, 1) := by decide +kernel
theorem dX5_nextToStop_59 : decode cX5_nextToStop 59 = .ok (.aload_n 1, 1) := by decide +kernel
theorem dX5_nextToStop_60 : decode cX5_nextToStop 60 = .ok (.getfield 82, 3) := by decide +kernel
theorem dX5_nextToStop_63 : decode cX5_nextToStop 63 = .ok (.iload_n 2, 1) := by decide +kernel
theorem dX5_nextToStop_64 : decode cX5_nextToStop 64 = .ok (.iaload, 1) := by decide +kernel
theorem dX5_nextToStop_65 : decode cX5_nextToStop 65 = .ok (.if_icmp .lt 5, 3) := by decide +kernel
theorem dX5_nextToStop_68 : decode cX5_nextToStop 68 = .ok (.iload_n 3, 1) := by decide +kernel
theorem dX5_nextToStop_69 : decode cX5_nextToStop 69 = .ok (.istore_n 2, 1) := by decide +kernel
theorem dX5_nextToStop_70 : decode cX5_nextToStop 70 = .ok (.iinc 3 1, 3) := by decide +kernel
theorem dX5_nextToStop_73 : decode cX5_nextToStop 73 = .ok (.goto (-68), 3) := by decide +kernel
theorem dX5_nextToStop_76 : decode cX5_nextToStop 76 = .ok (.iload_n 2, 1) := by decide +kernel
theorem dX5_nextToStop_77 : decode cX5_nextToStop 77 = .ok (.ireturn, 1) := by decide +kernel
theorem dX5_fall_0 : decode cX5_fall 0 = .ok (.aload_n 1, 1) := by decide +kernel
theorem dX5_fall_1 : decode cX5_fall 1 = .ok (.invokevirtual 85, 3) := by decide +kernel
theorem dX5_fall_4 : decode cX5_fall 4 = .ok (.istore_n 2, 1) := by decide +kernel
theorem dX5_fall_5 : decode cX5_fall 5 = .ok (.iconst 0, 1) := by decide +kernel
theorem dX5_fall_6 : decode cX5_fall 6 = .ok (.istore_n 3, 1) := by decide +kernel
theorem dX5_fall_7 : decode cX5_fall 7 = .ok (.iload_n 3, 1) := by decide +kernel
theorem dX5_fall_8 : decode cX5_fall 8 = .ok (.bipush 6, 2) := by decide +kernel
theorem dX5_fall_10 : decode cX5_fall 10 = .ok (.if_icmp .ge 41, 3) := by decide +kernel
theorem dX5_fall_13 : decode cX5_fall 13 = .ok (.iload_n 2, 1) := by decide +kernel
theorem dX5_fall_14 : decode cX5_fall 14 = .ok (.ifCond .eq 37, 3) := by decide +kernel
theorem dX5_fall_17 : decode cX5_fall 17 = .ok (.aload_n 0, 1) := by decide +kernel
theorem dX5_fall_18 : decode cX5_fall 18 = .ok (.iload_n 2, 1) := by decide +kernel
theorem dX5_fall_19 : decode cX5_fall 19 = .ok (.invokevirtual 180, 3) := by decide +kernel
theorem dX5_fall_22 : decode cX5_fall 22 = .ok (.istore 4, 2) := by decide +kernel
theorem dX5_fall_24 : decode cX5_fall 24 = .ok (.iload_n 2, 1) := by decide +kernel
theorem dX5_fall_25 : decode cX5_fall 25 = .ok (.iconst 1, 1) := by decide +kernel
theorem dX5_fall_26 : decode cX5_fall 26 = .ok (.iload 4, 2) := by decide +kernel
theorem dX5_fall_28 : decode cX5_fall 28 = .ok (.ishl, 1) := by decide +kernel
theorem dX5_fall_29 : decode cX5_fall 29 = .ok (.iconst (-1), 1) := by decide +kernel
theorem dX5_fall_30 : decode cX5_fall 30 = .ok (.ixor, 1) := by decide +kernel
theorem dX5_fall_31 : decode cX5_fall 31 = .ok (.iand, 1) := by decide +kernel
theorem dX5_fall_32 : decode cX5_fall 32 = .ok (.istore_n 2, 1) := by decide +kernel
theorem dX5_fall_33 : decode cX5_fall 33 = .ok (.aload_n 1, 1) := by decide +kernel
theorem dX5_fall_34 : decode cX5_fall 34 = .ok (.iload 4, 2) := by decide +kernel
theorem dX5_fall_36 : decode cX5_fall 36 = .ok (.invokevirtual 149, 3) := by decide +kernel
theorem dX5_fall_39 : decode cX5_fall 39 = .ok (.aload_n 1, 1) := by decide +kernel
theorem dX5_fall_40 : decode cX5_fall 40 = .ok (.iload 4, 2) := by decide +kernel
theorem dX5_fall_42 : decode cX5_fall 42 = .ok (.invokevirtual 183, 3) := by decide +kernel
theorem dX5_fall_45 : decode cX5_fall 45 = .ok (.iinc 3 1, 3) := by decide +kernel
theorem dX5_fall_48 : decode cX5_fall 48 = .ok (.goto (-41), 3) := by decide +kernel
theorem dX5_fall_51 : decode cX5_fall 51 = .ok (.aload_n 1, 1) := by decide +kernel
theorem dX5_fall_52 : decode cX5_fall 52 = .ok (.iconst 0, 1) := by decide +kernel
theorem dX5_fall_53 : decode cX5_fall 53 = .ok (.putfield 131, 3) := by decide +kernel
theorem dX5_fall_56 : decode cX5_fall 56 = .ok (.aload_n 1, 1) := by decide +kernel
theorem dX5_fall_57 : decode cX5_fall 57 = .ok (.iconst 0, 1) := by decide +kernel
theorem dX5_fall_58 : decode cX5_fall 58 = .ok (.putfield 134, 3) := by decide +kernel
theorem dX5_fall_61 : decode cX5_fall 61 = .ok (.return_, 1) := by decide +kernel
theorem dX5_greatestOf_0 : decode cX5_greatestOf 0 = .ok (.iconst 0, 1) := by decide +kernel
theorem dX5_greatestOf_1 : decode cX5_greatestOf 1 = .ok (.istore_n 2, 1) := by decide +kernel
theorem dX5_greatestOf_2 : decode cX5_greatestOf 2 = .ok (.iconst 0, 1) := by decide +kernel
theorem dX5_greatestOf_3 : decode cX5_greatestOf 3 = .ok (.istore_n 3, 1) := by decide +kernel
theorem dX5_greatestOf_4 : decode cX5_greatestOf 4 = .ok (.iconst 0, 1) := by decide +kernel
theorem dX5_greatestOf_5 : decode cX5_greatestOf 5 = .ok (.istore 4, 2) := by decide +kernel
theorem dX5_greatestOf_7 : decode cX5_greatestOf 7 = .ok (.iload 4, 2) := by decide +kernel
theorem dX5_greatestOf_9 : decode cX5_greatestOf 9 = .ok (.aload_n 0, 1) := by decide +kernel
theorem dX5_greatestOf_10 : decode cX5_greatestOf 10 = .ok (.getfield 9, 3) := by decide +kernel
theorem dX5_greatestOf_13 : decode cX5_greatestOf 13 = .ok (.getfield 79, 3) := by decide +kernel
theorem dX5_greatestOf_16 : decode cX5_greatestOf 16 = .ok (.if_icmp .ge 47, 3) := by decide +kernel
theorem dX5_greatestOf_19 : decode cX5_greatestOf 19 = .ok (.iload_n 1, 1) := by decide +kernel
theorem dX5_greatestOf_20 : decode cX5_greatestOf 20 = .ok (.iload 4, 2) := by decide +kernel
theorem dX5_greatestOf_22 : decode cX5_greatestOf 22 = .ok (.invokestatic 88, 3) := by decide +kernel
theorem dX5_greatestOf_25 : decode cX5_greatestOf 25 = .ok (.iconst 1, 1) := by decide +kernel
theorem dX5_greatestOf_26 : decode cX5_greatestOf 26 = .ok (.if_icmp .ne 31, 3) := by decide +kernel
theorem dX5_greatestOf_29 : decode cX5_greatestOf 29 = .ok (.aload_n 0, 1) := by decide +kernel
theorem dX5_greatestOf_30 : decode cX5_greatestOf 30 = .ok (.getfield 9, 3) := by decide +kernel
theorem dX5_greatestOf_33 : decode cX5_greatestOf 33 = .ok (.getfield 186, 3) := by decide +kernel
theorem dX5_greatestOf_36 : decode cX5_greatestOf 36 = .ok (.iload 4, 2) := by decide +kernel
theorem dX5_greatestOf_38 : decode cX5_greatestOf 38 = .ok (.iaload, 1) := by decide +kernel
theorem dX5_greatestOf_39 : decode cX5_greatestOf 39 = .ok (.iload_n 3, 1) := by decide +kernel
theorem dX5_greatestOf_40 : decode cX5_greatestOf 40 = .ok (.if_icmp .le 17, 3) := by decide +kernel
theorem dX5_greatestOf_43 : decode cX5_greatestOf 43 = .ok (.iload 4, 2) := by decide +kernel
theorem dX5_greatestOf_45 : decode cX5_greatestOf 45 = .ok (.istore_n 2, 1) := by decide +kernel
theorem dX5_greatestOf_46 : decode cX5_greatestOf 46 = .ok (.aload_n 0, 1) := by decide +kernel
theorem dX5_greatestOf_47 : decode cX5_greatestOf 47 = .ok (.getfield 9, 3) := by decide +kernel
theorem dX5_greatestOf_50 : decode cX5_greatestOf 50 = .ok (.getfield 186, 3) := by decide +kernel
theorem dX5_greatestOf_53 : decode cX5_greatestOf 53 = .ok (.iload 4, 2) := by decide +kernel
theorem dX5_greatestOf_55 : decode cX5_greatestOf 55 = .ok (.iaload, 1) := by decide +kernel
theorem dX5_greatestOf_56 : decode cX5_greatestOf 56 = .ok (.istore_n 3, 1) := by decide +kernel
theorem dX5_greatestOf_57 : decode cX5_greatestOf 57 = .ok (.iinc 4 1, 3) := by decide +kernel
theorem dX5_greatestOf_60 : decode cX5_greatestOf 60 = .ok (.goto (-53), 3) := by decide +kernel
theorem dX5_greatestOf_63 : decode cX5_greatestOf 63 = .ok (.iload_n 2, 1) := by decide +kernel
theorem dX5_greatestOf_64 : decode cX5_greatestOf 64 = .ok (.ireturn, 1) := by decide +kernel
theorem dX6_init_0 : decode cX6_init 0 = .ok (.aload_n 0, 1) := by decide +kernel
theorem dX6_init_1 : decode cX6_init 1 = .ok (.invokespecial 3, 3) := by decide +kernel
theorem dX6_init_4 : decode cX6_init 4 = .ok (.aload_n 0, 1) := by decide +kernel
theorem dX6_init_5 : decode cX6_init 5 = .ok (.iconst 4, 1) := by decide +kernel
theorem dX6_init_6 : decode cX6_init 6 = .ok (.newarray .int, 2) := by decide +kernel
theorem dX6_init_8 : decode cX6_init 8 = .ok (.putfield 9, 3) := by decide +kernel
theorem dX6_init_11 : decode cX6_init 11 = .ok (.aload_n 0, 1) := by decide +kernel
theorem dX6_init_12 : decode cX6_init 12 = .ok (.bipush 6, 2) := by decide +kernel
theorem dX6_init_14 : decode cX6_init 14 = .ok (.newarray .int, 2) := by decide +kernel
theorem dX6_init_16 : decode cX6_init 16 = .ok (.putfield 15, 3) := by decide +kernel
theorem dX6_init_19 : decode cX6_init 19 = .ok (.aload_n 0, 1) := by decide +kernel
theorem dX6_init_20 : decode cX6_init 20 = .ok (.bipush 6, 2) := by decide +kernel
theorem dX6_init_22 : decode cX6_init 22 = .ok (.newarray .int, 2) := by decide +kernel
theorem dX6_init_24 : decode cX6_init 24 = .ok (.putfield 18, 3) := by decide +kernel
theorem dX6_init_27 : decode cX6_init 27 = .ok (.aload_n 0, 1) := by decide +kernel
theorem dX6_init_28 : decode cX6_init 28 = .ok (.bipush 6, 2) := by decide +kernel
theorem dX6_init_30 : decode cX6_init 30 = .ok (.newarray .int, 2) := by decide +kernel
theorem dX6_init_32 : decode cX6_init 32 = .ok (.putfield 21, 3) := by decide +kernel
theorem dX6_init_35 : decode cX6_init 35 = .ok (.aload_n 0, 1) := by decide +kernel
theorem dX6_init_36 : decode cX6_init 36 = .ok (.bipush 54, 2) := by decide +kernel
theorem dX6_init_38 : decode cX6_init 38 = .ok (.newarray .int, 2) := by decide +kernel
theorem dX6_init_40 : decode cX6_init 40 = .ok (.putfield 24, 3) := by decide +kernel
theorem dX6_init_43 : decode cX6_init 43 = .ok (.aload_n 0, 1) := by decide +kernel
theorem dX6_init_44 : decode cX6_init 44 = .ok (.bipush 6, 2) := by decide +kernel
theorem dX6_init_46 : decode cX6_init 46 = .ok (.newarray .int, 2) := by decide +kernel
theorem dX6_init_48 : decode cX6_init 48 = .ok (.putfield 27, 3) := by decide +kernel
theorem dX6_init_51 : decode cX6_init 51 = .ok (.aload_n 0, 1) := by decide +kernel
theorem dX6_init_52 : decode cX6_init 52 = .ok (.invokevirtual 30, 3) := by decide +kernel
theorem dX6_init_55 : decode cX6_init 55 = .ok (.return_, 1) := by decide +kernel
theorem dX6_reset_0 : decode cX6_reset 0 = .ok (.getstatic 33, 3) := by decide +kernel
theorem dX6_reset_3 : decode cX6_reset 3 = .ok (.iconst 0, 1) := by decide +kernel
theorem dX6_reset_4 : decode cX6_reset 4 = .ok (.aload_n 0, 1) := by decide +kernel
theorem dX6_reset_5 : decode cX6_reset 5 = .ok (.getfield 9, 3) := by decide +kernel
theorem dX6_reset_8 : decode cX6_reset 8 = .ok (.iconst 0, 1) := by decide +kernel
theorem dX6_reset_9 : decode cX6_reset 9 = .ok (.iconst 4, 1) := by decide +kernel
theorem dX6_reset_10 : decode cX6_reset 10 = .ok (.invokestatic 36, 3) := by decide +kernel
theorem dX6_reset_13 : decode cX6_reset 13 = .ok (.aload_n 0, 1) := by decide +kernel
theorem dX6_reset_14 : decode cX6_reset 14 = .ok (.iconst 0, 1) := by decide +kernel
theorem dX6_reset_15 : decode cX6_reset 15 = .ok (.putfield 42, 3) := by decide +kernel
theorem dX6_reset_18 : decode cX6_reset 18 = .ok (.aload_n 0, 1) := by decide +kernel
theorem dX6_reset_19 : decode cX6_reset 19 = .ok (.iconst 0, 1) := by decide +kernel
theorem dX6_reset_20 : decode cX6_reset 20 = .ok (.putfield 46, 3) := by decide +kernel
theorem dX6_reset_23 : decode cX6_reset 23 = .ok (.aload_n 0, 1) := by decide +kernel
theorem dX6_reset_24 : decode cX6_reset 24 = .ok (.iconst 0, 1) := by decide +kernel
theorem dX6_reset_25 : decode cX6_reset 25 = .ok (.putfield 49, 3) := by decide +kernel
theorem dX6_reset_28 : decode cX6_reset 28 = .ok (.aload_n 0, 1) := by decide +kernel
theorem dX6_reset_29 : decode cX6_reset 29 = .ok (.iconst 0, 1) := by decide +kernel
theorem dX6_reset_30 : decode cX6_reset 30 = .ok (.putfield 52, 3) := by decide +kernel
theorem dX6_reset_33 : decode cX6_reset 33 = .ok (.aload_n 0, 1) := by decide +kernel
theorem dX6_reset_34 : decode cX6_reset 34 = .ok (.iconst 0, 1) := by decide +kernel
theorem dX6_reset_35 : decode cX6_reset 35 = .ok (.putfield 55, 3) := by decide +kernel
theorem dX6_reset_38 : decode cX6_reset 38 = .ok (.aload_n 0, 1) := by decide +kernel
theorem dX6_reset_39 : decode cX6_reset 39 = .ok (.iconst 0, 1) := by decide +kernel
theorem dX6_reset_40 : decode cX6_reset 40 = .ok (.putfield 58, 3) := by decide +kernel
theorem dX6_reset_43 : decode cX6_reset 43 = .ok (.aload_n 0, 1) := by decide +kernel
theorem dX6_reset_44 : decode cX6_reset 44 = .ok (.iconst 0, 1) := by decide +kernel
theorem dX6_reset_45 : decode cX6_reset 45 = .ok (.putfield 61, 3) := by decide +kernel
theorem dX6_reset_48 : decode cX6_reset 48 = .ok (.aload_n 0, 1) := by decide +kernel
theorem dX6_reset_49 : decode cX6_reset 49 = .ok (.ldc 64, 2) := by decide +kernel
theorem dX6_reset_51 : decode cX6_reset 51 = .ok (.putfield 65, 3) := by decide +kernel
theorem dX6_reset_54 : decode cX6_reset 54 = .ok (.aload_n 0, 1) := by decide +kernel
theorem dX6_reset_55 : decode cX6_reset 55 = .ok (.iconst 0, 1) := by decide +kernel
theorem dX6_reset_56 : decode cX6_reset 56 = .ok (.putfield 68, 3) := by decide +kernel
theorem dX6_reset_59 : decode cX6_reset 59 = .ok (.aload_n 0, 1) := by decide +kernel
theorem dX6_reset_60 : decode cX6_reset 60 = .ok (.getfield 18, 3) := by decide +kernel
theorem dX6_reset_63 : decode cX6_reset 63 = .ok (.iconst 0, 1) := by decide +kernel
theorem dX6_reset_64 : decode cX6_reset 64 = .ok (.invokestatic 71, 3) := by decide +kernel
theorem dX6_reset_67 : decode cX6_reset 67 = .ok (.aload_n 0, 1) := by decide +kernel
theorem dX6_reset_68 : decode cX6_reset 68 = .ok (.getfield 21, 3) := by decide +kernel
theorem dX6_reset_71 : decode cX6_reset 71 = .ok (.iconst 0, 1) := by decide +kernel
theorem dX6_reset_72 : decode cX6_reset 72 = .ok (.invokestatic 71, 3) := by decide +kernel
theorem dX6_reset_75 : decode cX6_reset 75 = .ok (.aload_n 0, 1) := by decide +kernel
theorem dX6_reset_76 : decode cX6_reset 76 = .ok (.getfield 27, 3) := by decide +kernel
theorem dX6_reset_79 : decode cX6_reset 79 = .ok (.ldc 64, 2) := by decide +kernel
theorem dX6_reset_81 : decode cX6_reset 81 = .ok (.invokestatic 71, 3) := by decide +kernel
theorem dX6_reset_84 : decode cX6_reset 84 = .ok (.return_, 1) := by decide +kernel
theorem dX6_copyFrom_0 : decode cX6_copyFrom 0 = .ok (.aload_n 1, 1) := by decide +kernel
theorem dX6_copyFrom_1 : decode cX6_copyFrom 1 = .ok (.getfield 9, 3) := by decide +kernel
theorem dX6_copyFrom_4 : decode cX6_copyFrom 4 = .ok (.iconst 0, 1) := by decide +kernel
theorem dX6_copyFrom_5 : decode cX6_copyFrom 5 = .ok (.aload_n 0, 1) := by decide +kernel
theorem dX6_copyFrom_6 : decode cX6_copyFrom 6 = .ok (.getfield 9, 3) := by decide +kernel
theorem dX6_copyFrom_9 : decode cX6_copyFrom 9 = .ok (.iconst 0, 1) := by decide +kernel
theorem dX6_copyFrom_10 : decode cX6_copyFrom 10 = .ok (.iconst 4, 1) := by decide +kernel
theorem dX6_copyFrom_11 : decode cX6_copyFrom 11 = .ok (.invokestatic 36, 3) := by decide +kernel
theorem dX6_copyFrom_14 : decode cX6_copyFrom 14 = .ok (.aload_n 0, 1) := by decide +kernel
theorem dX6_copyFrom_15 : decode cX6_copyFrom 15 = .ok (.aload_n 1, 1) := by decide +kernel
theorem dX6_copyFrom_16 : decode cX6_copyFrom 16 = .ok (.getfield 42, 3) := by decide +kernel
theorem dX6_copyFrom_19 : decode cX6_copyFrom 19 = .ok (.putfield 42, 3) := by decide +kernel
theorem dX6_copyFrom_22 : decode cX6_copyFrom 22 = .ok (.aload_n 0, 1) := by decide +kernel
theorem dX6_copyFrom_23 : decode cX6_copyFrom 23 = .ok (.aload_n 1, 1) := by decide +kernel
theorem dX6_copyFrom_24 : decode cX6_copyFrom 24 = .ok (.getfield 46, 3) := by decide +kernel
theorem dX6_copyFrom_27 : decode cX6_copyFrom 27 = .ok (.putfield 46, 3) := by decide +kernel
theorem dX6_copyFrom_30 : decode cX6_copyFrom 30 = .ok (.aload_n 0, 1) := by decide +kernel
theorem dX6_copyFrom_31 : decode cX6_copyFrom 31 = .ok (.aload_n 1, 1) := by decide +kernel
theorem dX6_copyFrom_32 : decode cX6_copyFrom 32 = .ok (.getfield 49, 3) := by decide +kernel
theorem dX6_copyFrom_35 : decode cX6_copyFrom 35 = .ok (.putfield 49, 3) := by decide +kernel
theorem dX6_copyFrom_38 : decode cX6_copyFrom 38 = .ok (.aload_n 0, 1) := by decide +kernel
theorem dX6_copyFrom_39 : decode cX6_copyFrom 39 = .ok (.aload_n 1, 1) := by decide +kernel
theorem dX6_copyFrom_40 : decode cX6_copyFrom 40 = .ok (.getfield 52, 3) := by decide +kernel
theorem dX6_copyFrom_43 : decode cX6_copyFrom 43 = .ok (.putfield 52, 3) := by decide +kernel
theorem dX6_copyFrom_46 : decode cX6_copyFrom 46 = .ok (.aload_n 0, 1) := by decide +kernel
theorem dX6_copyFrom_47 : decode cX6_copyFrom 47 = .ok (.aload_n 1, 1) := by decide +kernel
theorem dX6_copyFrom_48 : decode cX6_copyFrom 48 = .ok (.getfield 55, 3) := by decide +kernel
theorem dX6_copyFrom_51 : decode cX6_copyFrom 51 = .ok (.putfield 55, 3) := by decide +kernel
theorem dX6_copyFrom_54 : decode cX6_copyFrom 54 = .ok (.aload_n 0, 1) := by decide +kernel
theorem dX6_copyFrom_55 : decode cX6_copyFrom 55 = .ok (.aload_n 1, 1) := by decide +kernel
theorem dX6_copyFrom_56 : decode cX6_copyFrom 56 = .ok (.getfield 58, 3) := by decide +kernel
theorem dX6_copyFrom_59 : decode cX6_copyFrom 59 = .ok (.putfield 58, 3) := by decide +kernel
theorem dX6_copyFrom_62 : decode cX6_copyFrom 62 = .ok (.aload_n 0, 1) := by decide +kernel
theorem dX6_copyFrom_63 : decode cX6_copyFrom 63 = .ok (.aload_n 1, 1) := by decide +kernel
theorem dX6_copyFrom_64 : decode cX6_copyFrom 64 = .ok (.getfield 61, 3) := by decide +kernel
theorem dX6_copyFrom_67 : decode cX6_copyFrom 67 = .ok (.putfield 61, 3) := by decide +kernel
theorem dX6_copyFrom_70 : decode cX6_copyFrom 70 = .ok (.aload_n 0, 1) := by decide +kernel
theorem dX6_copyFrom_71 : decode cX6_copyFrom 71 = .ok (.aload_n 1, 1) := by decide +kernel
theorem dX6_copyFrom_72 : decode cX6_copyFrom 72 = .ok (.getfield 65, 3) := by decide +kernel
theorem dX6_copyFrom_75 : decode cX6_copyFrom 75 = .ok (.putfield 65, 3) := by decide +kernel
theorem dX6_copyFrom_78 : decode cX6_copyFrom 78 = .ok (.aload_n 0, 1) := by decide +kernel
theorem dX6_copyFrom_79 : decode cX6_copyFrom 79 = .ok (.aload_n 1, 1) := by decide +kernel
theorem dX6_copyFrom_80 : decode cX6_copyFrom 80 = .ok (.getfield 68, 3) := by decide +kernel
theorem dX6_copyFrom_83 : decode cX6_copyFrom 83 = .ok (.putfield 68, 3) := by decide +kernel
theorem dX6_copyFrom_86 : decode cX6_copyFrom 86 = .ok (.aload_n 1, 1) := by decide +kernel
theorem dX6_copyFrom_87 : decode cX6_copyFrom 87 = .ok (.getfield 15, 3) := by decide +kernel
theorem dX6_copyFrom_90 : decode cX6_copyFrom 90 = .ok (.iconst 0, 1) := by decide +kernel
theorem dX6_copyFrom_91 : decode cX6_copyFrom 91 = .ok (.aload_n 0, 1) := by decide +kernel
theorem dX6_copyFrom_92 : decode cX6_copyFrom 92 = .ok (.getfield 15, 3) := by decide +kernel
theorem dX6_copyFrom_95 : decode cX6_copyFrom 95 = .ok (.iconst 0, 1) := by decide +kernel
theorem dX6_copyFrom_96 : decode cX6_copyFrom 96 = .ok (.bipush 6, 2) := by decide +kernel
theorem dX6_copyFrom_98 : decode cX6_copyFrom 98 = .ok (.invokestatic 36, 3) := by decide +kernel
theorem dX6_copyFrom_101 : decode cX6_copyFrom 101 = .ok (.aload_n 1, 1) := by decide +kernel
theorem dX6_copyFrom_102 : decode cX6_copyFrom 102 = .ok (.getfield 18, 3) := by decide +kernel
theorem dX6_copyFrom_105 : decode cX6_copyFrom 105 = .ok (.iconst 0, 1) := by decide +kernel
theorem dX6_copyFrom_106 : decode cX6_copyFrom 106 = .ok (.aload_n 0, 1) := by decide +kernel
theorem dX6_copyFrom_107 : decode cX6_copyFrom 107 = .ok (.getfield 18, 3) := by decide +kernel
theorem dX6_copyFrom_110 : decode cX6_copyFrom 110 = .ok (.iconst 0, 1) := by decide +kernel
theorem dX6_copyFrom_111 : decode cX6_copyFrom 111 = .ok (.bipush 6, 2) := by decide +kernel
theorem dX6_copyFrom_113 : decode cX6_copyFrom 113 = .ok (.invokestatic 36, 3) := by decide +kernel
theorem dX6_copyFrom_116 : decode cX6_copyFrom 116 = .ok (.aload_n 1, 1) := by decide +kernel
theorem dX6_copyFrom_117 : decode cX6_copyFrom 117 = .ok (.getfield 21, 3) := by decide +kernel
theorem dX6_copyFrom_120 : decode cX6_copyFrom 120 = .ok (.iconst 0, 1) := by decide +kernel
theorem dX6_copyFrom_121 : decode cX6_copyFrom 121 = .ok (.aload_n 0, 1) := by decide +kernel
theorem dX6_copyFrom_122 : decode cX6_copyFrom 122 = .ok (.getfield 21, 3) := by decide +kernel
theorem dX6_copyFrom_125 : decode cX6_copyFrom 125 = .ok (.iconst 0, 1) := by decide +kernel
theorem dX6_copyFrom_126 : decode cX6_copyFrom 126 = .ok (.bipush 6, 2) := by decide +kernel
theorem dX6_copyFrom_128 : decode cX6_copyFrom 128 = .ok (.invokestatic 36, 3) := by decide +kernel
theorem dX6_copyFrom_131 : decode cX6_copyFrom 131 = .ok (.aload_n 1, 1) := by decide +kernel
theorem dX6_copyFrom_132 : decode cX6_copyFrom 132 = .ok (.getfield 24, 3) := by decide +kernel
theorem dX6_copyFrom_135 : decode cX6_copyFrom 135 = .ok (.iconst 0, 1) := by decide +kernel
theorem dX6_copyFrom_136 : decode cX6_copyFrom 136 = .ok (.aload_n 0, 1) := by decide +kernel
theorem dX6_copyFrom_137 : decode cX6_copyFrom 137 = .ok (.getfield 24, 3) := by decide +kernel
theorem dX6_copyFrom_140 : decode cX6_copyFrom 140 = .ok (.iconst 0, 1) := by decide +kernel
theorem dX6_copyFrom_141 : decode cX6_copyFrom 141 = .ok (.bipush 54, 2) := by decide +kernel
theorem dX6_copyFrom_143 : decode cX6_copyFrom 143 = .ok (.invokestatic 36, 3) := by decide +kernel
theorem dX6_copyFrom_146 : decode cX6_copyFrom 146 = .ok (.aload_n 1, 1) := by decide +kernel
theorem dX6_copyFrom_147 : decode cX6_copyFrom 147 = .ok (.getfield 27, 3) := by decide +kernel
theorem dX6_copyFrom_150 : decode cX6_copyFrom 150 = .ok (.iconst 0, 1) := by decide +kernel
theorem dX6_copyFrom_151 : decode cX6_copyFrom 151 = .ok (.aload_n 0, 1) := by decide +kernel
theorem dX6_copyFrom_152 : decode cX6_copyFrom 152 = .ok (.getfield 27, 3) := by decide +kernel
theorem dX6_copyFrom_155 : decode cX6_copyFrom 155 = .ok (.iconst 0, 1) := by decide +kernel
theorem dX6_copyFrom_156 : decode cX6_copyFrom 156 = .ok (.bipush 6, 2) := by decide +kernel
theorem dX6_copyFrom_158 : decode cX6_copyFrom 158 = .ok (.invokestatic 36, 3) := by decide +kernel
theorem dX6_copyFrom_161 : decode cX6_copyFrom 161 = .ok (.return_, 1) := by decide +kernel
theorem dX6_running_0 : decode cX6_running 0 = .ok (.aload_n 0, 1) := by decide +kernel
theorem dX6_running_1 : decode cX6_running 1 = .ok (.getfield 58, 3) := by decide +kernel
theorem dX6_running_4 : decode cX6_running 4 = .ok (.aload_n 0, 1) := by decide +kernel
theorem dX6_running_5 : decode cX6_running 5 = .ok (.getfield 61, 3) := by decide +kernel
theorem dX6_running_8 : decode cX6_running 8 = .ok (.ior, 1) := by decide +kernel
theorem dX6_running_9 : decode cX6_running 9 = .ok (.ireturn, 1) := by decide +kernel
theorem dX6_lift_0 : decode cX6_lift 0 = .ok (.iconst 0, 1) := by decide +kernel
theorem dX6_lift_1 : decode cX6_lift 1 = .ok (.aload_n 0, 1) := by decide +kernel
theorem dX6_lift_2 : decode cX6_lift 2 = .ok (.getfield 9, 3) := by decide +kernel
theorem dX6_lift_5 : decode cX6_lift 5 = .ok (.iconst 2, 1) := by decide +kernel
theorem dX6_lift_6 : decode cX6_lift 6 = .ok (.iaload, 1) := by decide +kernel
theorem dX6_lift_7 : decode cX6_lift 7 = .ok (.aload_n 0, 1) := by decide +kernel
theorem dX6_lift_8 : decode cX6_lift 8 = .ok (.getfield 9, 3) := by decide +kernel
theorem dX6_lift_11 : decode cX6_lift 11 = .ok (.iconst 3, 1) := by decide +kernel
theorem dX6_lift_12 : decode cX6_lift 12 = .ok (.iaload, 1) := by decide +kernel
theorem dX6_lift_13 : decode cX6_lift 13 = .ok (.isub, 1) := by decide +kernel
theorem dX6_lift_14 : decode cX6_lift 14 = .ok (.invokestatic 77, 3) := by decide +kernel
theorem dX6_lift_17 : decode cX6_lift 17 = .ok (.ireturn, 1) := by decide +kernel
theorem dX6_startedSoFar_0 : decode cX6_startedSoFar 0 = .ok (.iconst 0, 1) := by decide +kernel
theorem dX6_startedSoFar_1 : decode cX6_startedSoFar 1 = .ok (.istore_n 1, 1) := by decide +kernel
theorem dX6_startedSoFar_2 : decode cX6_startedSoFar 2 = .ok (.iconst 0, 1) := by decide +kernel
theorem dX6_startedSoFar_3 : decode cX6_startedSoFar 3 = .ok (.istore_n 2, 1) := by decide +kernel
theorem dX6_startedSoFar_4 : decode cX6_startedSoFar 4 = .ok (.iload_n 2, 1) := by decide +kernel
theorem dX6_startedSoFar_5 : decode cX6_startedSoFar 5 = .ok (.bipush 6, 2) := by decide +kernel
theorem dX6_startedSoFar_7 : decode cX6_startedSoFar 7 = .ok (.if_icmp .ge 18, 3) := by decide +kernel
theorem dX6_startedSoFar_10 : decode cX6_startedSoFar 10 = .ok (.iload_n 1, 1) := by decide +kernel
theorem dX6_startedSoFar_11 : decode cX6_startedSoFar 11 = .ok (.aload_n 0, 1) := by decide +kernel
theorem dX6_startedSoFar_12 : decode cX6_startedSoFar 12 = .ok (.getfield 21, 3) := by decide +kernel
theorem dX6_startedSoFar_15 : decode cX6_startedSoFar 15 = .ok (.iload_n 2, 1) := by decide +kernel
theorem dX6_startedSoFar_16 : decode cX6_startedSoFar 16 = .ok (.iaload, 1) := by decide +kernel
theorem dX6_startedSoFar_17 : decode cX6_startedSoFar 17 = .ok (.iadd, 1) := by decide +kernel
theorem dX6_startedSoFar_18 : decode cX6_startedSoFar 18 = .ok (.istore_n 1, 1) := by decide +kernel
theorem dX6_startedSoFar_19 : decode cX6_startedSoFar 19 = .ok (.iinc 2 1, 3) := by decide +kernel
theorem dX6_startedSoFar_22 : decode cX6_startedSoFar 22 = .ok (.goto (-18), 3) := by decide +kernel
theorem dX6_startedSoFar_25 : decode cX6_startedSoFar 25 = .ok (.iload_n 1, 1) := by decide +kernel
theorem dX6_startedSoFar_26 : decode cX6_startedSoFar 26 = .ok (.ireturn, 1) := by decide +kernel
theorem dX6_start_0 : decode cX6_start 0 = .ok (.aload_n 0, 1) := by decide +kernel
theorem dX6_start_1 : decode cX6_start 1 = .ok (.dup, 1) := by decide +kernel
theorem dX6_start_2 : decode cX6_start 2 = .ok (.getfield 58, 3) := by decide +kernel
theorem dX6_start_5 : decode cX6_start 5 = .ok (.iconst 1, 1) := by decide +kernel
theorem dX6_start_6 : decode cX6_start 6 = .ok (.iload_n 1, 1) := by decide +kernel
theorem dX6_start_7 : decode cX6_start 7 = .ok (.ishl, 1) := by decide +kernel
theorem dX6_start_8 : decode cX6_start 8 = .ok (.ior, 1) := by decide +kernel
theorem dX6_start_9 : decode cX6_start 9 = .ok (.putfield 58, 3) := by decide +kernel
theorem dX6_start_12 : decode cX6_start 12 = .ok (.aload_n 0, 1) := by decide +kernel
theorem dX6_start_13 : decode cX6_start 13 = .ok (.getfield 24, 3) := by decide +kernel
theorem dX6_start_16 : decode cX6_start 16 = .ok (.iload_n 1, 1) := by decide +kernel
theorem dX6_start_17 : decode cX6_start 17 = .ok (.aload_n 0, 1) := by decide +kernel
theorem dX6_start_18 : decode cX6_start 18 = .ok (.getfield 21, 3) := by decide +kernel
theorem dX6_start_21 : decode cX6_start 21 = .ok (.iload_n 1, 1) := by decide +kernel
theorem dX6_start_22 : decode cX6_start 22 = .ok (.iaload, 1) := by decide +kernel
theorem dX6_start_23 : decode cX6_start 23 = .ok (.invokestatic 83, 3) := by decide +kernel
theorem dX6_start_26 : decode cX6_start 26 = .ok (.aload_n 0, 1) := by decide +kernel
theorem dX6_start_27 : decode cX6_start 27 = .ok (.getfield 42, 3) := by decide +kernel
theorem dX6_start_30 : decode cX6_start 30 = .ok (.iastore, 1) := by decide +kernel
theorem dX6_start_31 : decode cX6_start 31 = .ok (.aload_n 0, 1) := by decide +kernel
theorem dX6_start_32 : decode cX6_start 32 = .ok (.getfield 21, 3) := by decide +kernel
theorem dX6_start_35 : decode cX6_start 35 = .ok (.iload_n 1, 1) := by decide +kernel
theorem dX6_start_36 : decode cX6_start 36 = .ok (.dup2, 1) := by decide +kernel
theorem dX6_start_37 : decode cX6_start 37 = .ok (.iaload, 1) := by decide +kernel
theorem dX6_start_38 : decode cX6_start 38 = .ok (.iconst 1, 1) := by decide +kernel
theorem dX6_start_39 : decode cX6_start 39 = .ok (.iadd, 1) := by decide +kernel
theorem dX6_start_40 : decode cX6_start 40 = .ok (.iastore, 1) := by decide +kernel
theorem dX6_start_41 : decode cX6_start 41 = .ok (.aload_n 0, 1) := by decide +kernel
theorem dX6_start_42 : decode cX6_start 42 = .ok (.aload_n 0, 1) := by decide +kernel
theorem dX6_start_43 : decode cX6_start 43 = .ok (.getfield 42, 3) := by decide +kernel
theorem dX6_start_46 : decode cX6_start 46 = .ok (.putfield 65, 3) := by decide +kernel
theorem dX6_start_49 : decode cX6_start 49 = .ok (.return_, 1) := by decide +kernel
theorem dX6_stop_0 : decode cX6_stop 0 = .ok (.aload_n 0, 1) := by decide +kernel
theorem dX6_stop_1 : decode cX6_stop 1 = .ok (.invokevirtual 86, 3) := by decide +kernel
theorem dX6_stop_4 : decode cX6_stop 4 = .ok (.iload_n 1, 1) := by decide +kernel
theorem dX6_stop_5 : decode cX6_stop 5 = .ok (.invokestatic 90, 3) := by decide +kernel
theorem dX6_stop_8 : decode cX6_stop 8 = .ok (.iconst 1, 1) := by decide +kernel
theorem dX6_stop_9 : decode cX6_stop 9 = .ok (.if_icmp .ne 41, 3) := by decide +kernel
theorem dX6_stop_12 : decode cX6_stop 12 = .ok (.aload_n 0, 1) := by decide +kernel
theorem dX6_stop_13 : decode cX6_stop 13 = .ok (.dup, 1) := by decide +kernel
theorem dX6_stop_14 : decode cX6_stop 14 = .ok (.getfield 58, 3) := by decide +kernel
theorem dX6_stop_17 : decode cX6_stop 17 = .ok (.iconst 1, 1) := by decide +kernel
theorem dX6_stop_18 : decode cX6_stop 18 = .ok (.iload_n 1, 1) := by decide +kernel
theorem dX6_stop_19 : decode cX6_stop 19 = .ok (.ishl, 1) := by decide +kernel
theorem dX6_stop_20 : decode cX6_stop 20 = .ok (.iconst (-1), 1) := by decide +kernel
theorem dX6_stop_21 : decode cX6_stop 21 = .ok (.ixor, 1) := by decide +kernel
theorem dX6_stop_22 : decode cX6_stop 22 = .ok (.iand, 1) := by decide +kernel
theorem dX6_stop_23 : decode cX6_stop 23 = .ok (.putfield 58, 3) := by decide +kernel
theorem dX6_stop_26 : decode cX6_stop 26 = .ok (.aload_n 0, 1) := by decide +kernel
theorem dX6_stop_27 : decode cX6_stop 27 = .ok (.dup, 1) := by decide +kernel
theorem dX6_stop_28 : decode cX6_stop 28 = .ok (.getfield 61, 3) := by decide +kernel
theorem dX6_stop_31 : decode cX6_stop 31 = .ok (.iconst 1, 1) := by decide +kernel
theorem dX6_stop_32 : decode cX6_stop 32 = .ok (.iload_n 1, 1) := by decide +kernel
theorem dX6_stop_33 : decode cX6_stop 33 = .ok (.ishl, 1) := by decide +kernel
theorem dX6_stop_34 : decode cX6_stop 34 = .ok (.iconst (-1), 1) := by decide +kernel
theorem dX6_stop_35 : decode cX6_stop 35 = .ok (.ixor, 1) := by decide +kernel
theorem dX6_stop_36 : decode cX6_stop 36 = .ok (.iand, 1) := by decide +kernel
theorem dX6_stop_37 : decode cX6_stop 37 = .ok (.putfield 61, 3) := by decide +kernel
theorem dX6_stop_40 : decode cX6_stop 40 = .ok (.aload_n 0, 1) := by decide +kernel
theorem dX6_stop_41 : decode cX6_stop 41 = .ok (.getfield 27, 3) := by decide +kernel
theorem dX6_stop_44 : decode cX6_stop 44 = .ok (.iload_n 1, 1) := by decide +kernel
theorem dX6_stop_45 : decode cX6_stop 45 = .ok (.aload_n 0, 1) := by decide +kernel
theorem dX6_stop_46 : decode cX6_stop 46 = .ok (.getfield 42, 3) := by decide +kernel
theorem dX6_stop_49 : decode cX6_stop 49 = .ok (.iastore, 1) := by decide +kernel
theorem dX6_stop_50 : decode cX6_stop 50 = .ok (.return_, 1) := by decide +kernel
theorem dX6_ticksSinceStart_0 : decode cX6_ticksSinceStart 0 = .ok (.iload_n 2, 1) := by decide +kernel
theorem dX6_ticksSinceStart_1 : decode cX6_ticksSinceStart 1 = .ok (.aload_n 0, 1) := by decide +kernel
theorem dX6_ticksSinceStart_2 : decode cX6_ticksSinceStart 2 = .ok (.iload_n 1, 1) := by decide +kernel
theorem dX6_ticksSinceStart_3 : decode cX6_ticksSinceStart 3 = .ok (.iconst 1, 1) := by decide +kernel
theorem dX6_ticksSinceStart_4 : decode cX6_ticksSinceStart 4 = .ok (.invokevirtual 93, 3) := by decide +kernel
theorem dX6_ticksSinceStart_7 : decode cX6_ticksSinceStart 7 = .ok (.isub, 1) := by decide +kernel
theorem dX6_ticksSinceStart_8 : decode cX6_ticksSinceStart 8 = .ok (.ireturn, 1) := by decide +kernel
theorem dX6_ticksSinceStop_0 : decode cX6_ticksSinceStop 0 = .ok (.iload_n 2, 1) := by decide +kernel
theorem dX6_ticksSinceStop_1 : decode cX6_ticksSinceStop 1 = .ok (.aload_n 0, 1) := by decide +kernel
theorem dX6_ticksSinceStop_2 : decode cX6_ticksSinceStop 2 = .ok (.getfield 27, 3) := by decide +kernel
theorem dX6_ticksSinceStop_5 : decode cX6_ticksSinceStop 5 = .ok (.iload_n 1, 1) := by decide +kernel
theorem dX6_ticksSinceStop_6 : decode cX6_ticksSinceStop 6 = .ok (.iaload, 1) := by decide +kernel
theorem dX6_ticksSinceStop_7 : decode cX6_ticksSinceStop 7 = .ok (.isub, 1) := by decide +kernel
theorem dX6_ticksSinceStop_8 : decode cX6_ticksSinceStop 8 = .ok (.ireturn, 1) := by decide +kernel
theorem dX6_startBack_0 : decode cX6_startBack 0 = .ok (.aload_n 0, 1) := by decide +kernel
theorem dX6_startBack_1 : decode cX6_startBack 1 = .ok (.getfield 21, 3) := by decide +kernel
theorem dX6_startBack_4 : decode cX6_startBack 4 = .ok (.iload_n 1, 1) := by decide +kernel
theorem dX6_startBack_5 : decode cX6_startBack 5 = .ok (.iaload, 1) := by decide +kernel
theorem dX6_startBack_6 : decode cX6_startBack 6 = .ok (.iload_n 2, 1) := by decide +kernel
theorem dX6_startBack_7 : decode cX6_startBack 7 = .ok (.if_icmp .ge 8, 3) := by decide +kernel
theorem dX6_startBack_10 : decode cX6_startBack 10 = .ok (.ldc 64, 2) := by decide +kernel
theorem dX6_startBack_12 : decode cX6_startBack 12 = .ok (.goto 20, 3) := by decide +kernel
theorem dX6_startBack_15 : decode cX6_startBack 15 = .ok (.aload_n 0, 1) := by decide +kernel
theorem dX6_startBack_16 : decode cX6_startBack 16 = .ok (.getfield 24, 3) := by decide +kernel
theorem dX6_startBack_19 : decode cX6_startBack 19 = .ok (.iload_n 1, 1) := by decide +kernel
theorem dX6_startBack_20 : decode cX6_startBack 20 = .ok (.aload_n 0, 1) := by decide +kernel
theorem dX6_startBack_21 : decode cX6_startBack 21 = .ok (.getfield 21, 3) := by decide +kernel
theorem dX6_startBack_24 : decode cX6_startBack 24 = .ok (.iload_n 1, 1) := by decide +kernel
theorem dX6_startBack_25 : decode cX6_startBack 25 = .ok (.iaload, 1) := by decide +kernel
theorem dX6_startBack_26 : decode cX6_startBack 26 = .ok (.iload_n 2, 1) := by decide +kernel
theorem dX6_startBack_27 : decode cX6_startBack 27 = .ok (.isub, 1) := by decide +kernel
theorem dX6_startBack_28 : decode cX6_startBack 28 = .ok (.invokestatic 83, 3) := by decide +kernel
theorem dX6_startBack_31 : decode cX6_startBack 31 = .ok (.iaload, 1) := by decide +kernel
theorem dX6_startBack_32 : decode cX6_startBack 32 = .ok (.ireturn, 1) := by decide +kernel
theorem dX6_ringPlace_0 : decode cX6_ringPlace 0 = .ok (.iload_n 0, 1) := by decide +kernel
theorem dX6_ringPlace_1 : decode cX6_ringPlace 1 = .ok (.bipush 9, 2) := by decide +kernel
theorem dX6_ringPlace_3 : decode cX6_ringPlace 3 = .ok (.imul, 1) := by decide +kernel
theorem dX6_ringPlace_4 : decode cX6_ringPlace 4 = .ok (.iload_n 1, 1) := by decide +kernel
theorem dX6_ringPlace_5 : decode cX6_ringPlace 5 = .ok (.bipush 9, 2) := by decide +kernel
theorem dX6_ringPlace_7 : decode cX6_ringPlace 7 = .ok (.invokestatic 96, 3) := by decide +kernel
theorem dX6_ringPlace_10 : decode cX6_ringPlace 10 = .ok (.iadd, 1) := by decide +kernel
theorem dX6_ringPlace_11 : decode cX6_ringPlace 11 = .ok (.ireturn, 1) := by decide +kernel
theorem dX6_putOnList_0 : decode cX6_putOnList 0 = .ok (.aload_n 0, 1) := by decide +kernel
theorem dX6_putOnList_1 : decode cX6_putOnList 1 = .ok (.getfield 68, 3) := by decide +kernel
theorem dX6_putOnList_4 : decode cX6_putOnList 4 = .ok (.bipush 6, 2) := by decide +kernel
theorem dX6_putOnList_6 : decode cX6_putOnList 6 = .ok (.if_icmp .ge 23, 3) := by decide +kernel
theorem dX6_putOnList_9 : decode cX6_putOnList 9 = .ok (.aload_n 0, 1) := by decide +kernel
theorem dX6_putOnList_10 : decode cX6_putOnList 10 = .ok (.getfield 15, 3) := by decide +kernel
theorem dX6_putOnList_13 : decode cX6_putOnList 13 = .ok (.aload_n 0, 1) := by decide +kernel
theorem dX6_putOnList_14 : decode cX6_putOnList 14 = .ok (.getfield 68, 3) := by decide +kernel
theorem dX6_putOnList_17 : decode cX6_putOnList 17 = .ok (.iload_n 1, 1) := by decide +kernel
theorem dX6_putOnList_18 : decode cX6_putOnList 18 = .ok (.iastore, 1) := by decide +kernel
theorem dX6_putOnList_19 : decode cX6_putOnList 19 = .ok (.aload_n 0, 1) := by decide +kernel
theorem dX6_putOnList_20 : decode cX6_putOnList 20 = .ok (.dup, 1) := by decide +kernel
theorem dX6_putOnList_21 : decode cX6_putOnList 21 = .ok (.getfield 68, 3) := by decide +kernel
theorem dX6_putOnList_24 : decode cX6_putOnList 24 = .ok (.iconst 1, 1) := by decide +kernel
theorem dX6_putOnList_25 : decode cX6_putOnList 25 = .ok (.iadd, 1) := by decide +kernel
theorem dX6_putOnList_26 : decode cX6_putOnList 26 = .ok (.putfield 68, 3) := by decide +kernel
theorem dX6_putOnList_29 : decode cX6_putOnList 29 = .ok (.return_, 1) := by decide +kernel
theorem dX6_firstOfList_0 : decode cX6_firstOfList 0 = .ok (.aload_n 0, 1) := by decide +kernel
theorem dX6_firstOfList_1 : decode cX6_firstOfList 1 = .ok (.getfield 15, 3) := by decide +kernel
theorem dX6_firstOfList_4 : decode cX6_firstOfList 4 = .ok (.iconst 0, 1) := by decide +kernel
theorem dX6_firstOfList_5 : decode cX6_firstOfList 5 = .ok (.iaload, 1) := by decide +kernel
theorem dX6_firstOfList_6 : decode cX6_firstOfList 6 = .ok (.ireturn, 1) := by decide +kernel
theorem dX6_takeOffList_0 : decode cX6_takeOffList 0 = .ok (.iconst 0, 1) := by decide +kernel
theorem dX6_takeOffList_1 : decode cX6_takeOffList 1 = .ok (.istore_n 2, 1) := by decide +kernel
theorem dX6_takeOffList_2 : decode cX6_takeOffList 2 = .ok (.iconst 0, 1) := by decide +kernel
theorem dX6_takeOffList_3 : decode cX6_takeOffList 3 = .ok (.istore_n 3, 1) := by decide +kernel
theorem dX6_takeOffList_4 : decode cX6_takeOffList 4 = .ok (.iload_n 3, 1) := by decide +kernel
theorem dX6_takeOffList_5 : decode cX6_takeOffList 5 = .ok (.aload_n 0, 1) := by decide +kernel
theorem dX6_takeOffList_6 : decode cX6_takeOffList 6 = .ok (.getfield 68, 3) := by decide +kernel
theorem dX6_takeOffList_9 : decode cX6_takeOffList 9 = .ok (.if_icmp .ge 40, 3) := by decide +kernel
theorem dX6_takeOffList_12 : decode cX6_takeOffList 12 = .ok (.iload_n 3, 1) := by decide +kernel
theorem dX6_takeOffList_13 : decode cX6_takeOffList 13 = .ok (.bipush 6, 2) := by decide +kernel
theorem dX6_takeOffList_15 : decode cX6_takeOffList 15 = .ok (.if_icmp .ge 34, 3) := by decide +kernel
theorem dX6_takeOffList_18 : decode cX6_takeOffList 18 = .ok (.aload_n 0, 1) := by decide +kernel
theorem dX6_takeOffList_19 : decode cX6_takeOffList 19 = .ok (.getfield 15, 3) := by decide +kernel
theorem dX6_takeOffList_22 : decode cX6_takeOffList 22 = .ok (.iload_n 3, 1) := by decide +kernel
theorem dX6_takeOffList_23 : decode cX6_takeOffList 23 = .ok (.iaload, 1) := by decide +kernel
theorem dX6_takeOffList_24 : decode cX6_takeOffList 24 = .ok (.iload_n 1, 1) := by decide +kernel
theorem dX6_takeOffList_25 : decode cX6_takeOffList 25 = .ok (.if_icmp .eq 18, 3) := by decide +kernel
theorem dX6_takeOffList_28 : decode cX6_takeOffList 28 = .ok (.aload_n 0, 1) := by decide +kernel
theorem dX6_takeOffList_29 : decode cX6_takeOffList 29 = .ok (.getfield 15, 3) := by decide +kernel
theorem dX6_takeOffList_32 : decode cX6_takeOffList 32 = .ok (.iload_n 2, 1) := by decide +kernel
theorem dX6_takeOffList_33 : decode cX6_takeOffList 33 = .ok (.aload_n 0, 1) := by decide +kernel
theorem dX6_takeOffList_34 : decode cX6_takeOffList 34 = .ok (.getfield 15, 3) := by decide +kernel
theorem dX6_takeOffList_37 : decode cX6_takeOffList 37 = .ok (.iload_n 3, 1) := by decide +kernel
theorem dX6_takeOffList_38 : decode cX6_takeOffList 38 = .ok (.iaload, 1) := by decide +kernel
theorem dX6_takeOffList_39 : decode cX6_takeOffList 39 = .ok (.iastore, 1) := by decide +kernel
theorem dX6_takeOffList_40 : decode cX6_takeOffList 40 = .ok (.iinc 2 1, 3) := by decide +kernel
theorem dX6_takeOffList_43 : decode cX6_takeOffList 43 = .ok (.iinc 3 1, 3) := by decide +kernel
theorem dX6_takeOffList_46 : decode cX6_takeOffList 46 = .ok (.goto (-42), 3) := by decide +kernel
theorem dX6_takeOffList_49 : decode cX6_takeOffList 49 = .ok (.aload_n 0, 1) := by decide +kernel
theorem dX6_takeOffList_50 : decode cX6_takeOffList 50 = .ok (.iload_n 2, 1) := by decide +kernel
theorem dX6_takeOffList_51 : decode cX6_takeOffList 51 = .ok (.putfield 68, 3) := by decide +kernel
theorem dX6_takeOffList_54 : decode cX6_takeOffList 54 = .ok (.return_, 1) := by decide +kernel
theorem dX6_placeInList_0 : decode cX6_placeInList 0 = .ok (.iconst 0, 1) := by decide +kernel
theorem dX6_placeInList_1 : decode cX6_placeInList 1 = .ok (.istore_n 2, 1) := by decide +kernel
theorem dX6_placeInList_2 : decode cX6_placeInList 2 = .ok (.iload_n 2, 1) := by decide +kernel
theorem dX6_placeInList_3 : decode cX6_placeInList 3 = .ok (.aload_n 0, 1) := by decide +kernel
theorem dX6_placeInList_4 : decode cX6_placeInList 4 = .ok (.getfield 68, 3) := by decide +kernel
theorem dX6_placeInList_7 : decode cX6_placeInList 7 = .ok (.if_icmp .ge 27, 3) := by decide +kernel
theorem dX6_placeInList_10 : decode cX6_placeInList 10 = .ok (.iload_n 2, 1) := by decide +kernel
theorem dX6_placeInList_11 : decode cX6_placeInList 11 = .ok (.bipush 6, 2) := by decide +kernel
theorem dX6_placeInList_13 : decode cX6_placeInList 13 = .ok (.if_icmp .ge 21, 3) := by decide +kernel
theorem dX6_placeInList_16 : decode cX6_placeInList 16 = .ok (.aload_n 0, 1) := by decide +kernel
theorem dX6_placeInList_17 : decode cX6_placeInList 17 = .ok (.getfield 15, 3) := by decide +kernel
theorem dX6_placeInList_20 : decode cX6_placeInList 20 = .ok (.iload_n 2, 1) := by decide +kernel
theorem dX6_placeInList_21 : decode cX6_placeInList 21 = .ok (.iaload, 1) := by decide +kernel
theorem dX6_placeInList_22 : decode cX6_placeInList 22 = .ok (.iload_n 1, 1) := by decide +kernel
theorem dX6_placeInList_23 : decode cX6_placeInList 23 = .ok (.if_icmp .ne 5, 3) := by decide +kernel
theorem dX6_placeInList_26 : decode cX6_placeInList 26 = .ok (.iload_n 2, 1) := by decide +kernel
theorem dX6_placeInList_27 : decode cX6_placeInList 27 = .ok (.ireturn, 1) := by decide +kernel
theorem dX6_placeInList_28 : decode cX6_placeInList 28 = .ok (.iinc 2 1, 3) := by decide +kernel
theorem dX6_placeInList_31 : decode cX6_placeInList 31 = .ok (.goto (-29), 3) := by decide +kernel
theorem dX6_placeInList_34 : decode cX6_placeInList 34 = .ok (.bipush (-4), 2) := by decide +kernel
theorem dX6_placeInList_36 : decode cX6_placeInList 36 = .ok (.ireturn, 1) := by decide +kernel
theorem dX7_init_0 : decode cX7_init 0 = .ok (.aload_n 0, 1) := by decide +kernel
theorem dX7_init_1 : decode cX7_init 1 = .ok (.invokespecial 1, 3) := by decide +kernel
theorem dX7_init_4 : decode cX7_init 4 = .ok (.aload_n 0, 1) := by decide +kernel
theorem dX7_init_5 : decode cX7_init 5 = .ok (.new 7, 3) := by decide +kernel
theorem dX7_init_8 : decode cX7_init 8 = .ok (.dup, 1) := by decide +kernel
theorem dX7_init_9 : decode cX7_init 9 = .ok (.invokespecial 9, 3) := by decide +kernel
theorem dX7_init_12 : decode cX7_init 12 = .ok (.putfield 10, 3) := by decide +kernel
theorem dX7_init_15 : decode cX7_init 15 = .ok (.aload_n 0, 1) := by decide +kernel
theorem dX7_init_16 : decode cX7_init 16 = .ok (.new 16, 3) := by decide +kernel
theorem dX7_init_19 : decode cX7_init 19 = .ok (.dup, 1) := by decide +kernel
theorem dX7_init_20 : decode cX7_init 20 = .ok (.invokespecial 18, 3) := by decide +kernel
theorem dX7_init_23 : decode cX7_init 23 = .ok (.putfield 19, 3) := by decide +kernel
theorem dX7_init_26 : decode cX7_init 26 = .ok (.aload_n 0, 1) := by decide +kernel
theorem dX7_init_27 : decode cX7_init 27 = .ok (.new 23, 3) := by decide +kernel
theorem dX7_init_30 : decode cX7_init 30 = .ok (.dup, 1) := by decide +kernel
theorem dX7_init_31 : decode cX7_init 31 = .ok (.invokespecial 25, 3) := by decide +kernel
theorem dX7_init_34 : decode cX7_init 34 = .ok (.putfield 26, 3) := by decide +kernel
theorem dX7_init_37 : decode cX7_init 37 = .ok (.aload_n 0, 1) := by decide +kernel
theorem dX7_init_38 : decode cX7_init 38 = .ok (.new 23, 3) := by decide +kernel
theorem dX7_init_41 : decode cX7_init 41 = .ok (.dup, 1) := by decide +kernel
theorem dX7_init_42 : decode cX7_init 42 = .ok (.invokespecial 25, 3) := by decide +kernel
theorem dX7_init_45 : decode cX7_init 45 = .ok (.putfield 30, 3) := by decide +kernel
theorem dX7_init_48 : decode cX7_init 48 = .ok (.aload_n 0, 1) := by decide +kernel
theorem dX7_init_49 : decode cX7_init 49 = .ok (.new 33, 3) := by decide +kernel
theorem dX7_init_52 : decode cX7_init 52 = .ok (.dup, 1) := by decide +kernel
theorem dX7_init_53 : decode cX7_init 53 = .ok (.invokespecial 35, 3) := by decide +kernel
theorem dX7_init_56 : decode cX7_init 56 = .ok (.putfield 36, 3) := by decide +kernel
theorem dX7_init_59 : decode cX7_init 59 = .ok (.aload_n 0, 1) := by decide +kernel
theorem dX7_init_60 : decode cX7_init 60 = .ok (.new 40, 3) := by decide +kernel
theorem dX7_init_63 : decode cX7_init 63 = .ok (.dup, 1) := by decide +kernel
theorem dX7_init_64 : decode cX7_init 64 = .ok (.aload_n 0, 1) := by decide +kernel
theorem dX7_init_65 : decode cX7_init 65 = .ok (.getfield 19, 3) := by decide +kernel
theorem dX7_init_68 : decode cX7_init 68 = .ok (.invokespecial 42, 3) := by decide +kernel
theorem dX7_init_71 : decode cX7_init 71 = .ok (.putfield 45, 3) := by decide +kernel
theorem dX7_init_74 : decode cX7_init 74 = .ok (.aload_n 0, 1) := by decide +kernel
theorem dX7_init_75 : decode cX7_init 75 = .ok (.new 49, 3) := by decide +kernel
theorem dX7_init_78 : decode cX7_init 78 = .ok (.dup, 1) := by decide +kernel
theorem dX7_init_79 : decode cX7_init 79 = .ok (.aload_n 0, 1) := by decide +kernel
theorem dX7_init_80 : decode cX7_init 80 = .ok (.getfield 19, 3) := by decide +kernel
theorem dX7_init_83 : decode cX7_init 83 = .ok (.invokespecial 51, 3) := by decide +kernel
theorem dX7_init_86 : decode cX7_init 86 = .ok (.putfield 52, 3) := by decide +kernel
theorem dX7_init_89 : decode cX7_init 89 = .ok (.aload_n 0, 1) := by decide +kernel
theorem dX7_init_90 : decode cX7_init 90 = .ok (.new 56, 3) := by decide +kernel
theorem dX7_init_93 : decode cX7_init 93 = .ok (.dup, 1) := by decide +kernel
theorem dX7_init_94 : decode cX7_init 94 = .ok (.aload_n 0, 1) := by decide +kernel
theorem dX7_init_95 : decode cX7_init 95 = .ok (.getfield 19, 3) := by decide +kernel
theorem dX7_init_98 : decode cX7_init 98 = .ok (.invokespecial 58, 3) := by decide +kernel
theorem dX7_init_101 : decode cX7_init 101 = .ok (.putfield 59, 3) := by decide +kernel
theorem dX7_init_104 : decode cX7_init 104 = .ok (.iconst 0, 1) := by decide +kernel
theorem dX7_init_105 : decode cX7_init 105 = .ok (.istore_n 1, 1) := by decide +kernel
theorem dX7_init_106 : decode cX7_init 106 = .ok (.iload_n 1, 1) := by decide +kernel
theorem dX7_init_107 : decode cX7_init 107 = .ok (.ldc 63, 2) := by decide +kernel
theorem dX7_init_109 : decode cX7_init 109 = .ok (.invokevirtual 65, 3) := by decide +kernel
theorem dX7_init_112 : decode cX7_init 112 = .ok (.if_icmp .ge 23, 3) := by decide +kernel
theorem dX7_init_115 : decode cX7_init 115 = .ok (.aload_n 0, 1) := by decide +kernel
theorem dX7_init_116 : decode cX7_init 116 = .ok (.getfield 10, 3) := by decide +kernel
theorem dX7_init_119 : decode cX7_init 119 = .ok (.ldc 63, 2) := by decide +kernel
theorem dX7_init_121 : decode cX7_init 121 = .ok (.iload_n 1, 1) := by decide +kernel
theorem dX7_init_122 : decode cX7_init 122 = .ok (.invokevirtual 71, 3) := by decide +kernel
theorem dX7_init_125 : decode cX7_init 125 = .ok (.invokevirtual 75, 3) := by decide +kernel
theorem dX7_init_128 : decode cX7_init 128 = .ok (.pop, 1) := by decide +kernel
theorem dX7_init_129 : decode cX7_init 129 = .ok (.iinc 1 1, 3) := by decide +kernel
theorem dX7_init_132 : decode cX7_init 132 = .ok (.goto (-26), 3) := by decide +kernel
theorem dX7_init_135 : decode cX7_init 135 = .ok (.aload_n 0, 1) := by decide +kernel
theorem dX7_init_136 : decode cX7_init 136 = .ok (.getfield 10, 3) := by decide +kernel
theorem dX7_init_139 : decode cX7_init 139 = .ok (.aload_n 0, 1) := by decide +kernel
theorem dX7_init_140 : decode cX7_init 140 = .ok (.getfield 19, 3) := by decide +kernel
theorem dX7_init_143 : decode cX7_init 143 = .ok (.invokevirtual 79, 3) := by decide +kernel
theorem dX7_init_146 : decode cX7_init 146 = .ok (.aload_n 0, 1) := by decide +kernel
theorem dX7_init_147 : decode cX7_init 147 = .ok (.getfield 10, 3) := by decide +kernel
theorem dX7_init_150 : decode cX7_init 150 = .ok (.invokevirtual 82, 3) := by decide +kernel
theorem dX7_init_153 : decode cX7_init 153 = .ok (.return_, 1) := by decide +kernel
theorem dX7_write_0 : decode cX7_write 0 = .ok (.iload_n 1, 1) := by decide +kernel
theorem dX7_write_1 : decode cX7_write 1 = .ok (.bipush 32, 2) := by decide +kernel
theorem dX7_write_3 : decode cX7_write 3 = .ok (.if_icmp .lt 9, 3) := by decide +kernel
theorem dX7_write_6 : decode cX7_write 6 = .ok (.iload_n 1, 1) := by decide +kernel
theorem dX7_write_7 : decode cX7_write 7 = .ok (.bipush 126, 2) := by decide +kernel
theorem dX7_write_9 : decode cX7_write 9 = .ok (.if_icmp .le 5, 3) := by decide +kernel
theorem dX7_write_12 : decode cX7_write 12 = .ok (.iconst (-1), 1) := by decide +kernel
theorem dX7_write_13 : decode cX7_write 13 = .ok (.ireturn, 1) := by decide +kernel
theorem dX7_write_14 : decode cX7_write 14 = .ok (.aload_n 0, 1) := by decide +kernel
theorem dX7_write_15 : decode cX7_write 15 = .ok (.getfield 10, 3) := by decide +kernel
theorem dX7_write_18 : decode cX7_write 18 = .ok (.iload_n 1, 1) := by decide +kernel
theorem dX7_write_19 : decode cX7_write 19 = .ok (.i2c, 1) := by decide +kernel
theorem dX7_write_20 : decode cX7_write 20 = .ok (.invokevirtual 75, 3) := by decide +kernel
theorem dX7_write_23 : decode cX7_write 23 = .ok (.ifCond .eq 13, 3) := by decide +kernel
theorem dX7_write_26 : decode cX7_write 26 = .ok (.aload_n 0, 1) := by decide +kernel
theorem dX7_write_27 : decode cX7_write 27 = .ok (.getfield 10, 3) := by decide +kernel
theorem dX7_write_30 : decode cX7_write 30 = .ok (.getfield 85, 3) := by decide +kernel
theorem dX7_write_33 : decode cX7_write 33 = .ok (.goto 5, 3) := by decide +kernel
theorem dX7_write_36 : decode cX7_write 36 = .ok (.bipush (-3), 2) := by decide +kernel
theorem dX7_write_38 : decode cX7_write 38 = .ok (.ireturn, 1) := by decide +kernel
theorem dX7_wipe_0 : decode cX7_wipe 0 = .ok (.aload_n 0, 1) := by decide +kernel
theorem dX7_wipe_1 : decode cX7_wipe 1 = .ok (.getfield 10, 3) := by decide +kernel
theorem dX7_wipe_4 : decode cX7_wipe 4 = .ok (.getfield 85, 3) := by decide +kernel
theorem dX7_wipe_7 : decode cX7_wipe 7 = .ok (.istore_n 1, 1) := by decide +kernel
theorem dX7_wipe_8 : decode cX7_wipe 8 = .ok (.aload_n 0, 1) := by decide +kernel
theorem dX7_wipe_9 : decode cX7_wipe 9 = .ok (.getfield 10, 3) := by decide +kernel
theorem dX7_wipe_12 : decode cX7_wipe 12 = .ok (.invokevirtual 82, 3) := by decide +kernel
theorem dX7_wipe_15 : decode cX7_wipe 15 = .ok (.iload_n 1, 1) := by decide +kernel
theorem dX7_wipe_16 : decode cX7_wipe 16 = .ok (.ireturn, 1) := by decide +kernel
theorem dX7_fault_0 : decode cX7_fault 0 = .ok (.aload_n 0, 1) := by decide +kernel
theorem dX7_fault_1 : decode cX7_fault 1 = .ok (.getfield 10, 3) := by decide +kernel
theorem dX7_fault_4 : decode cX7_fault 4 = .ok (.invokevirtual 88, 3) := by decide +kernel
theorem dX7_fault_7 : decode cX7_fault 7 = .ok (.ireturn, 1) := by decide +kernel
theorem dX7_lay_0 : decode cX7_lay 0 = .ok (.aload_n 0, 1) := by decide +kernel
theorem dX7_lay_1 : decode cX7_lay 1 = .ok (.getfield 10, 3) := by decide +kernel
theorem dX7_lay_4 : decode cX7_lay 4 = .ok (.invokevirtual 88, 3) := by decide +kernel
theorem dX7_lay_7 : decode cX7_lay 7 = .ok (.bipush (-4), 2) := by decide +kernel
theorem dX7_lay_9 : decode cX7_lay 9 = .ok (.if_icmp .ne 13, 3) := by decide +kernel
theorem dX7_lay_12 : decode cX7_lay 12 = .ok (.aload_n 0, 1) := by decide +kernel
theorem dX7_lay_13 : decode cX7_lay 13 = .ok (.getfield 10, 3) := by decide +kernel
theorem dX7_lay_16 : decode cX7_lay 16 = .ok (.invokevirtual 91, 3) := by decide +kernel
theorem dX7_lay_19 : decode cX7_lay 19 = .ok (.ifCond .ne 6, 3) := by decide +kernel
theorem dX7_lay_22 : decode cX7_lay 22 = .ok (.bipush (-2), 2) := by decide +kernel
theorem dX7_lay_24 : decode cX7_lay 24 = .ok (.ireturn, 1) := by decide +kernel
theorem dX7_lay_25 : decode cX7_lay 25 = .ok (.aload_n 0, 1) := by decide +kernel
theorem dX7_lay_26 : decode cX7_lay 26 = .ok (.getfield 10, 3) := by decide +kernel
theorem dX7_lay_29 : decode cX7_lay 29 = .ok (.aload_n 0, 1) := by decide +kernel
theorem dX7_lay_30 : decode cX7_lay 30 = .ok (.getfield 19, 3) := by decide +kernel
theorem dX7_lay_33 : decode cX7_lay 33 = .ok (.invokevirtual 79, 3) := by decide +kernel
theorem dX7_lay_36 : decode cX7_lay 36 = .ok (.aload_n 0, 1) := by decide +kernel
theorem dX7_lay_37 : decode cX7_lay 37 = .ok (.getfield 26, 3) := by decide +kernel
theorem dX7_lay_40 : decode cX7_lay 40 = .ok (.invokevirtual 94, 3) := by decide +kernel
theorem dX7_lay_43 : decode cX7_lay 43 = .ok (.aload_n 0, 1) := by decide +kernel
theorem dX7_lay_44 : decode cX7_lay 44 = .ok (.getfield 36, 3) := by decide +kernel
theorem dX7_lay_47 : decode cX7_lay 47 = .ok (.invokevirtual 97, 3) := by decide +kernel
theorem dX7_lay_50 : decode cX7_lay 50 = .ok (.aload_n 0, 1) := by decide +kernel
theorem dX7_lay_51 : decode cX7_lay 51 = .ok (.getfield 45, 3) := by decide +kernel
theorem dX7_lay_54 : decode cX7_lay 54 = .ok (.getfield 100, 3) := by decide +kernel
theorem dX7_lay_57 : decode cX7_lay 57 = .ok (.invokevirtual 103, 3) := by decide +kernel
theorem dX7_lay_60 : decode cX7_lay 60 = .ok (.aload_n 0, 1) := by decide +kernel
theorem dX7_lay_61 : decode cX7_lay 61 = .ok (.getfield 52, 3) := by decide +kernel
theorem dX7_lay_64 : decode cX7_lay 64 = .ok (.invokevirtual 103, 3) := by decide +kernel
theorem dX7_lay_67 : decode cX7_lay 67 = .ok (.aload_n 0, 1) := by decide +kernel
theorem dX7_lay_68 : decode cX7_lay 68 = .ok (.getfield 59, 3) := by decide +kernel
theorem dX7_lay_71 : decode cX7_lay 71 = .ok (.invokevirtual 104, 3) := by decide +kernel
theorem dX7_lay_74 : decode cX7_lay 74 = .ok (.aload_n 0, 1) := by decide +kernel
theorem dX7_lay_75 : decode cX7_lay 75 = .ok (.getfield 19, 3) := by decide +kernel
theorem dX7_lay_78 : decode cX7_lay 78 = .ok (.getfield 105, 3) := by decide +kernel
theorem dX7_lay_81 : decode cX7_lay 81 = .ok (.ireturn, 1) := by decide +kernel
theorem dX7_tell_0 : decode cX7_tell 0 = .ok (.iload_n 1, 1) := by decide +kernel
theorem dX7_tell_1 : decode cX7_tell 1 = .ok (.ifCond .lt 26, 3) := by decide +kernel
theorem dX7_tell_4 : decode cX7_tell 4 = .ok (.iload_n 1, 1) := by decide +kernel
theorem dX7_tell_5 : decode cX7_tell 5 = .ok (.iconst 4, 1) := by decide +kernel
theorem dX7_tell_6 : decode cX7_tell 6 = .ok (.if_icmp .ge 21, 3) := by decide +kernel
theorem dX7_tell_9 : decode cX7_tell 9 = .ok (.iload_n 2, 1) := by decide +kernel
theorem dX7_tell_10 : decode cX7_tell 10 = .ok (.getstatic 107, 3) := by decide +kernel
theorem dX7_tell_13 : decode cX7_tell 13 = .ok (.iload_n 1, 1) := by decide +kernel
theorem dX7_tell_14 : decode cX7_tell 14 = .ok (.iaload, 1) := by decide +kernel
theorem dX7_tell_15 : decode cX7_tell 15 = .ok (.if_icmp .lt 12, 3) := by decide +kernel
theorem dX7_tell_18 : decode cX7_tell 18 = .ok (.iload_n 2, 1) := by decide +kernel
theorem dX7_tell_19 : decode cX7_tell 19 = .ok (.getstatic 111, 3) := by decide +kernel
theorem dX7_tell_22 : decode cX7_tell 22 = .ok (.iload_n 1, 1) := by decide +kernel
theorem dX7_tell_23 : decode cX7_tell 23 = .ok (.iaload, 1) := by decide +kernel
theorem dX7_tell_24 : decode cX7_tell 24 = .ok (.if_icmp .le 5, 3) := by decide +kernel
theorem dX7_tell_27 : decode cX7_tell 27 = .ok (.iconst (-1), 1) := by decide +kernel
theorem dX7_tell_28 : decode cX7_tell 28 = .ok (.ireturn, 1) := by decide +kernel
theorem dX7_tell_29 : decode cX7_tell 29 = .ok (.aload_n 0, 1) := by decide +kernel
theorem dX7_tell_30 : decode cX7_tell 30 = .ok (.getfield 26, 3) := by decide +kernel
theorem dX7_tell_33 : decode cX7_tell 33 = .ok (.getfield 114, 3) := by decide +kernel
theorem dX7_tell_36 : decode cX7_tell 36 = .ok (.iload_n 1, 1) := by decide +kernel
theorem dX7_tell_37 : decode cX7_tell 37 = .ok (.iaload, 1) := by decide +kernel
theorem dX7_tell_38 : decode cX7_tell 38 = .ok (.istore_n 3, 1) := by decide +kernel
theorem dX7_tell_39 : decode cX7_tell 39 = .ok (.iload_n 3, 1) := by decide +kernel
theorem dX7_tell_40 : decode cX7_tell 40 = .ok (.iload_n 2, 1) := by decide +kernel
theorem dX7_tell_41 : decode cX7_tell 41 = .ok (.if_icmp .ne 6, 3) := by decide +kernel
theorem dX7_tell_44 : decode cX7_tell 44 = .ok (.bipush (-2), 2) := by decide +kernel
theorem dX7_tell_46 : decode cX7_tell 46 = .ok (.ireturn, 1) := by decide +kernel
theorem dX7_tell_47 : decode cX7_tell 47 = .ok (.aload_n 0, 1) := by decide +kernel
theorem dX7_tell_48 : decode cX7_tell 48 = .ok (.getfield 36, 3) := by decide +kernel
theorem dX7_tell_51 : decode cX7_tell 51 = .ok (.aload_n 0, 1) := by decide +kernel
theorem dX7_tell_52 : decode cX7_tell 52 = .ok (.getfield 26, 3) := by decide +kernel
theorem dX7_tell_55 : decode cX7_tell 55 = .ok (.invokevirtual 117, 3) := by decide +kernel
theorem dX7_tell_58 : decode cX7_tell 58 = .ok (.aload_n 0, 1) := by decide +kernel
theorem dX7_tell_59 : decode cX7_tell 59 = .ok (.getfield 26, 3) := by decide +kernel
theorem dX7_tell_62 : decode cX7_tell 62 = .ok (.getfield 114, 3) := by decide +kernel
theorem dX7_tell_65 : decode cX7_tell 65 = .ok (.iload_n 1, 1) := by decide +kernel
theorem dX7_tell_66 : decode cX7_tell 66 = .ok (.iload_n 2, 1) := by decide +kernel
theorem dX7_tell_67 : decode cX7_tell 67 = .ok (.iastore, 1) := by decide +kernel
theorem dX7_tell_68 : decode cX7_tell 68 = .ok (.iload_n 3, 1) := by decide +kernel
theorem dX7_tell_69 : decode cX7_tell 69 = .ok (.ireturn, 1) := by decide +kernel
theorem dX7_lock_0 : decode cX7_lock 0 = .ok (.aload_n 0, 1) := by decide +kernel
theorem dX7_lock_1 : decode cX7_lock 1 = .ok (.iload_n 1, 1) := by decide +kernel
theorem dX7_lock_2 : decode cX7_lock 2 = .ok (.invokevirtual 121, 3) := by decide +kernel
theorem dX7_lock_5 : decode cX7_lock 5 = .ok (.ifCond .eq 12, 3) := by decide +kernel
theorem dX7_lock_8 : decode cX7_lock 8 = .ok (.iload_n 2, 1) := by decide +kernel
theorem dX7_lock_9 : decode cX7_lock 9 = .ok (.ifCond .lt 8, 3) := by decide +kernel
theorem dX7_lock_12 : decode cX7_lock 12 = .ok (.iload_n 2, 1) := by decide +kernel
theorem dX7_lock_13 : decode cX7_lock 13 = .ok (.iconst 1, 1) := by decide +kernel
theorem dX7_lock_14 : decode cX7_lock 14 = .ok (.if_icmp .le 5, 3) := by decide +kernel
theorem dX7_lock_17 : decode cX7_lock 17 = .ok (.iconst (-1), 1) := by decide +kernel
theorem dX7_lock_18 : decode cX7_lock 18 = .ok (.ireturn, 1) := by decide +kernel
theorem dX7_lock_19 : decode cX7_lock 19 = .ok (.iconst 1, 1) := by decide +kernel
theorem dX7_lock_20 : decode cX7_lock 20 = .ok (.iload_n 1, 1) := by decide +kernel
theorem dX7_lock_21 : decode cX7_lock 21 = .ok (.ishl, 1) := by decide +kernel
theorem dX7_lock_22 : decode cX7_lock 22 = .ok (.istore_n 3, 1) := by decide +kernel
theorem dX7_lock_23 : decode cX7_lock 23 = .ok (.aload_n 0, 1) := by decide +kernel
theorem dX7_lock_24 : decode cX7_lock 24 = .ok (.getfield 26, 3) := by decide +kernel
theorem dX7_lock_27 : decode cX7_lock 27 = .ok (.getfield 125, 3) := by decide +kernel
theorem dX7_lock_30 : decode cX7_lock 30 = .ok (.iload_n 3, 1) := by decide +kernel
theorem dX7_lock_31 : decode cX7_lock 31 = .ok (.iand, 1) := by decide +kernel
theorem dX7_lock_32 : decode cX7_lock 32 = .ok (.ifCond .eq 7, 3) := by decide +kernel
theorem dX7_lock_35 : decode cX7_lock 35 = .ok (.iconst 1, 1) := by decide +kernel
theorem dX7_lock_36 : decode cX7_lock 36 = .ok (.goto 4, 3) := by decide +kernel
theorem dX7_lock_39 : decode cX7_lock 39 = .ok (.iconst 0, 1) := by decide +kernel
theorem dX7_lock_40 : decode cX7_lock 40 = .ok (.iload_n 2, 1) := by decide +kernel
theorem dX7_lock_41 : decode cX7_lock 41 = .ok (.iconst 1, 1) := by decide +kernel
theorem dX7_lock_42 : decode cX7_lock 42 = .ok (.if_icmp .ne 7, 3) := by decide +kernel
theorem dX7_lock_45 : decode cX7_lock 45 = .ok (.iconst 1, 1) := by decide +kernel
theorem dX7_lock_46 : decode cX7_lock 46 = .ok (.goto 4, 3) := by decide +kernel
theorem dX7_lock_49 : decode cX7_lock 49 = .ok (.iconst 0, 1) := by decide +kernel
theorem dX7_lock_50 : decode cX7_lock 50 = .ok (.if_icmp .ne 6, 3) := by decide +kernel
theorem dX7_lock_53 : decode cX7_lock 53 = .ok (.bipush (-2), 2) := by decide +kernel
theorem dX7_lock_55 : decode cX7_lock 55 = .ok (.ireturn, 1) := by decide +kernel
theorem dX7_lock_56 : decode cX7_lock 56 = .ok (.aload_n 0, 1) := by decide +kernel
theorem dX7_lock_57 : decode cX7_lock 57 = .ok (.getfield 36, 3) := by decide +kernel
theorem dX7_lock_60 : decode cX7_lock 60 = .ok (.aload_n 0, 1) := by decide +kernel
theorem dX7_lock_61 : decode cX7_lock 61 = .ok (.getfield 26, 3) := by decide +kernel
theorem dX7_lock_64 : decode cX7_lock 64 = .ok (.invokevirtual 117, 3) := by decide +kernel
theorem dX7_lock_67 : decode cX7_lock 67 = .ok (.iload_n 2, 1) := by decide +kernel
theorem dX7_lock_68 : decode cX7_lock 68 = .ok (.iconst 1, 1) := by decide +kernel
theorem dX7_lock_69 : decode cX7_lock 69 = .ok (.if_icmp .ne 35, 3) := by decide +kernel
theorem dX7_lock_72 : decode cX7_lock 72 = .ok (.aload_n 0, 1) := by decide +kernel
theorem dX7_lock_73 : decode cX7_lock 73 = .ok (.getfield 26, 3) := by decide +kernel
theorem dX7_lock_76 : decode cX7_lock 76 = .ok (.dup, 1) := by decide +kernel
theorem dX7_lock_77 : decode cX7_lock 77 = .ok (.getfield 125, 3) := by decide +kernel
theorem dX7_lock_80 : decode cX7_lock 80 = .ok (.iload_n 3, 1) := by decide +kernel
theorem dX7_lock_81 : decode cX7_lock 81 = .ok (.ior, 1) := by decide +kernel
theorem dX7_lock_82 : decode cX7_lock 82 = .ok (.putfield 125, 3) := by decide +kernel
theorem dX7_lock_85 : decode cX7_lock 85 = .ok (.aload_n 0, 1) := by decide +kernel
theorem dX7_lock_86 : decode cX7_lock 86 = .ok (.getfield 26, 3) := by decide +kernel
theorem dX7_lock_89 : decode cX7_lock 89 = .ok (.iload_n 1, 1) := by decide +kernel
theorem dX7_lock_90 : decode cX7_lock 90 = .ok (.invokevirtual 128, 3) := by decide +kernel
theorem dX7_lock_93 : decode cX7_lock 93 = .ok (.aload_n 0, 1) := by decide +kernel
theorem dX7_lock_94 : decode cX7_lock 94 = .ok (.getfield 26, 3) := by decide +kernel
theorem dX7_lock_97 : decode cX7_lock 97 = .ok (.iload_n 1, 1) := by decide +kernel
theorem dX7_lock_98 : decode cX7_lock 98 = .ok (.invokevirtual 132, 3) := by decide +kernel
theorem dX7_lock_101 : decode cX7_lock 101 = .ok (.goto 18, 3) := by decide +kernel
theorem dX7_lock_104 : decode cX7_lock 104 = .ok (.aload_n 0, 1) := by decide +kernel
theorem dX7_lock_105 : decode cX7_lock 105 = .ok (.getfield 26, 3) := by decide +kernel
theorem dX7_lock_108 : decode cX7_lock 108 = .ok (.dup, 1) := by decide +kernel
theorem dX7_lock_109 : decode cX7_lock 109 = .ok (.getfield 125, 3) := by decide +kernel
theorem dX7_lock_112 : decode cX7_lock 112 = .ok (.iload_n 3, 1) := by decide +kernel
theorem dX7_lock_113 : decode cX7_lock 113 = .ok (.iconst (-1), 1) := by decide +kernel
theorem dX7_lock_114 : decode cX7_lock 114 = .ok (.ixor, 1) := by decide +kernel
theorem dX7_lock_115 : decode cX7_lock 115 = .ok (.iand, 1) := by decide +kernel
theorem dX7_lock_116 : decode cX7_lock 116 = .ok (.putfield 125, 3) := by decide +kernel
theorem dX7_lock_119 : decode cX7_lock 119 = .ok (.aload_n 0, 1) := by decide +kernel
theorem dX7_lock_120 : decode cX7_lock 120 = .ok (.getfield 26, 3) := by decide +kernel
theorem dX7_lock_123 : decode cX7_lock 123 = .ok (.getfield 125, 3) := by decide +kernel
theorem dX7_lock_126 : decode cX7_lock 126 = .ok (.invokestatic 135, 3) := by decide +kernel
theorem dX7_lock_129 : decode cX7_lock 129 = .ok (.ireturn, 1) := by decide +kernel
theorem dX7_dip_0 : decode cX7_dip 0 = .ok (.aload_n 0, 1) := by decide +kernel
theorem dX7_dip_1 : decode cX7_dip 1 = .ok (.getfield 26, 3) := by decide +kernel
theorem dX7_dip_4 : decode cX7_dip 4 = .ok (.invokevirtual 141, 3) := by decide +kernel
theorem dX7_dip_7 : decode cX7_dip 7 = .ok (.invokestatic 135, 3) := by decide +kernel
theorem dX7_dip_10 : decode cX7_dip 10 = .ok (.istore_n 1, 1) := by decide +kernel
theorem dX7_dip_11 : decode cX7_dip 11 = .ok (.aload_n 0, 1) := by decide +kernel
theorem dX7_dip_12 : decode cX7_dip 12 = .ok (.getfield 36, 3) := by decide +kernel
theorem dX7_dip_15 : decode cX7_dip 15 = .ok (.aload_n 0, 1) := by decide +kernel
theorem dX7_dip_16 : decode cX7_dip 16 = .ok (.getfield 26, 3) := by decide +kernel
theorem dX7_dip_19 : decode cX7_dip 19 = .ok (.invokevirtual 117, 3) := by decide +kernel
theorem dX7_dip_22 : decode cX7_dip 22 = .ok (.aload_n 0, 1) := by decide +kernel
theorem dX7_dip_23 : decode cX7_dip 23 = .ok (.getfield 45, 3) := by decide +kernel
theorem dX7_dip_26 : decode cX7_dip 26 = .ok (.aload_n 0, 1) := by decide +kernel
theorem dX7_dip_27 : decode cX7_dip 27 = .ok (.getfield 26, 3) := by decide +kernel
theorem dX7_dip_30 : decode cX7_dip 30 = .ok (.invokevirtual 144, 3) := by decide +kernel
theorem dX7_dip_33 : decode cX7_dip 33 = .ok (.iload_n 1, 1) := by decide +kernel
theorem dX7_dip_34 : decode cX7_dip 34 = .ok (.ireturn, 1) := by decide +kernel
theorem dX7_tick_0 : decode cX7_tick 0 = .ok (.iload_n 1, 1) := by decide +kernel
theorem dX7_tick_1 : decode cX7_tick 1 = .ok (.iconst 1, 1) := by decide +kernel
theorem dX7_tick_2 : decode cX7_tick 2 = .ok (.if_icmp .lt 9, 3) := by decide +kernel
theorem dX7_tick_5 : decode cX7_tick 5 = .ok (.iload_n 1, 1) := by decide +kernel
theorem dX7_tick_6 : decode cX7_tick 6 = .ok (.bipush 60, 2) := by decide +kernel
theorem dX7_tick_8 : decode cX7_tick 8 = .ok (.if_icmp .le 5, 3) := by decide +kernel
theorem dX7_tick_11 : decode cX7_tick 11 = .ok (.iconst (-1), 1) := by decide +kernel
theorem dX7_tick_12 : decode cX7_tick 12 = .ok (.ireturn, 1) := by decide +kernel
theorem dX7_tick_13 : decode cX7_tick 13 = .ok (.aload_n 0, 1) := by decide +kernel
theorem dX7_tick_14 : decode cX7_tick 14 = .ok (.getfield 26, 3) := by decide +kernel
theorem dX7_tick_17 : decode cX7_tick 17 = .ok (.getfield 147, 3) := by decide +kernel
theorem dX7_tick_20 : decode cX7_tick 20 = .ok (.iload_n 1, 1) := by decide +kernel
theorem dX7_tick_21 : decode cX7_tick 21 = .ok (.iadd, 1) := by decide +kernel
theorem dX7_tick_22 : decode cX7_tick 22 = .ok (.sipush 9999, 3) := by decide +kernel
theorem dX7_tick_25 : decode cX7_tick 25 = .ok (.if_icmp .le 6, 3) := by decide +kernel
theorem dX7_tick_28 : decode cX7_tick 28 = .ok (.bipush (-2), 2) := by decide +kernel
theorem dX7_tick_30 : decode cX7_tick 30 = .ok (.ireturn, 1) := by decide +kernel
theorem dX7_tick_31 : decode cX7_tick 31 = .ok (.aload_n 0, 1) := by decide +kernel
theorem dX7_tick_32 : decode cX7_tick 32 = .ok (.getfield 36, 3) := by decide +kernel
theorem dX7_tick_35 : decode cX7_tick 35 = .ok (.aload_n 0, 1) := by decide +kernel
theorem dX7_tick_36 : decode cX7_tick 36 = .ok (.getfield 26, 3) := by decide +kernel
theorem dX7_tick_39 : decode cX7_tick 39 = .ok (.invokevirtual 117, 3) := by decide +kernel
theorem dX7_tick_42 : decode cX7_tick 42 = .ok (.aload_n 0, 1) := by decide +kernel
theorem dX7_tick_43 : decode cX7_tick 43 = .ok (.getfield 26, 3) := by decide +kernel
theorem dX7_tick_46 : decode cX7_tick 46 = .ok (.invokevirtual 150, 3) := by decide +kernel
theorem dX7_tick_49 : decode cX7_tick 49 = .ok (.istore_n 2, 1) := by decide +kernel
theorem dX7_tick_50 : decode cX7_tick 50 = .ok (.iconst 0, 1) := by decide +kernel
theorem dX7_tick_51 : decode cX7_tick 51 = .ok (.istore_n 3, 1) := by decide +kernel
theorem dX7_tick_52 : decode cX7_tick 52 = .ok (.iload_n 3, 1) := by decide +kernel
theorem dX7_tick_53 : decode cX7_tick 53 = .ok (.iload_n 1, 1) := by decide +kernel
theorem dX7_tick_54 : decode cX7_tick 54 = .ok (.if_icmp .ge 20, 3) := by decide +kernel
theorem dX7_tick_57 : decode cX7_tick 57 = .ok (.aload_n 0, 1) := by decide +kernel
theorem dX7_tick_58 : decode cX7_tick 58 = .ok (.getfield 45, 3) := by decide +kernel
theorem dX7_tick_61 : decode cX7_tick 61 = .ok (.aload_n 0, 1) := by decide +kernel
theorem dX7_tick_62 : decode cX7_tick 62 = .ok (.getfield 26, 3) := by decide +kernel
theorem dX7_tick_65 : decode cX7_tick 65 = .ok (.invokevirtual 153, 3) := by decide +kernel
theorem dX7_tick_68 : decode cX7_tick 68 = .ok (.iinc 3 1, 3) := by decide +kernel
theorem dX7_tick_71 : decode cX7_tick 71 = .ok (.goto (-19), 3) := by decide +kernel
theorem dX7_tick_74 : decode cX7_tick 74 = .ok (.aload_n 0, 1) := by decide +kernel
theorem dX7_tick_75 : decode cX7_tick 75 = .ok (.getfield 26, 3) := by decide +kernel
theorem dX7_tick_78 : decode cX7_tick 78 = .ok (.invokevirtual 150, 3) := by decide +kernel
theorem dX7_tick_81 : decode cX7_tick 81 = .ok (.iload_n 2, 1) := by decide +kernel
theorem dX7_tick_82 : decode cX7_tick 82 = .ok (.isub, 1) := by decide +kernel
theorem dX7_tick_83 : decode cX7_tick 83 = .ok (.ireturn, 1) := by decide +kernel
theorem dX7_undo_0 : decode cX7_undo 0 = .ok (.aload_n 0, 1) := by decide +kernel
theorem dX7_undo_1 : decode cX7_undo 1 = .ok (.getfield 36, 3) := by decide +kernel
theorem dX7_undo_4 : decode cX7_undo 4 = .ok (.aload_n 0, 1) := by decide +kernel
theorem dX7_undo_5 : decode cX7_undo 5 = .ok (.getfield 26, 3) := by decide +kernel
theorem dX7_undo_8 : decode cX7_undo 8 = .ok (.invokevirtual 156, 3) := by decide +kernel
theorem dX7_undo_11 : decode cX7_undo 11 = .ok (.ifCond .eq 13, 3) := by decide +kernel
theorem dX7_undo_14 : decode cX7_undo 14 = .ok (.aload_n 0, 1) := by decide +kernel
theorem dX7_undo_15 : decode cX7_undo 15 = .ok (.getfield 36, 3) := by decide +kernel
theorem dX7_undo_18 : decode cX7_undo 18 = .ok (.getfield 160, 3) := by decide +kernel
theorem dX7_undo_21 : decode cX7_undo 21 = .ok (.goto 5, 3) := by decide +kernel
theorem dX7_undo_24 : decode cX7_undo 24 = .ok (.bipush (-2), 2) := by decide +kernel
theorem dX7_undo_26 : decode cX7_undo 26 = .ok (.ireturn, 1) := by decide +kernel
theorem dX7_machine_0 : decode cX7_machine 0 = .ok (.aload_n 0, 1) := by decide +kernel
theorem dX7_machine_1 : decode cX7_machine 1 = .ok (.iload_n 1, 1) := by decide +kernel
theorem dX7_machine_2 : decode cX7_machine 2 = .ok (.invokevirtual 121, 3) := by decide +kernel
theorem dX7_machine_5 : decode cX7_machine 5 = .ok (.ifCond .ne 5, 3) := by decide +kernel
theorem dX7_machine_8 : decode cX7_machine 8 = .ok (.iconst (-1), 1) := by decide +kernel
theorem dX7_machine_9 : decode cX7_machine 9 = .ok (.ireturn, 1) := by decide +kernel
theorem dX7_machine_10 : decode cX7_machine 10 = .ok (.iload_n 2, 1) := by decide +kernel
theorem dX7_machine_11 : decode cX7_machine 11 = .ok (.tableswitch 235 0 12 #[65, 75, 85, 95, 105, 115, 125, 151, 161, 171, 183, 213, 226], 65) := by decide +kernel
theorem dX7_machine_76 : decode cX7_machine 76 = .ok (.aload_n 0, 1) := by decide +kernel
theorem dX7_machine_77 : decode cX7_machine 77 = .ok (.getfield 19, 3) := by decide +kernel
theorem dX7_machine_80 : decode cX7_machine 80 = .ok (.getfield 163, 3) := by decide +kernel
theorem dX7_machine_83 : decode cX7_machine 83 = .ok (.iload_n 1, 1) := by decide +kernel
theorem dX7_machine_84 : decode cX7_machine 84 = .ok (.iaload, 1) := by decide +kernel
theorem dX7_machine_85 : decode cX7_machine 85 = .ok (.ireturn, 1) := by decide +kernel
theorem dX7_machine_86 : decode cX7_machine 86 = .ok (.aload_n 0, 1) := by decide +kernel
theorem dX7_machine_87 : decode cX7_machine 87 = .ok (.getfield 19, 3) := by decide +kernel
theorem dX7_machine_90 : decode cX7_machine 90 = .ok (.getfield 166, 3) := by decide +kernel
theorem dX7_machine_93 : decode cX7_machine 93 = .ok (.iload_n 1, 1) := by decide +kernel
theorem dX7_machine_94 : decode cX7_machine 94 = .ok (.iaload, 1) := by decide +kernel
theorem dX7_machine_95 : decode cX7_machine 95 = .ok (.ireturn, 1) := by decide +kernel
theorem dX7_machine_96 : decode cX7_machine 96 = .ok (.aload_n 0, 1) := by decide +kernel
theorem dX7_machine_97 : decode cX7_machine 97 = .ok (.getfield 19, 3) := by decide +kernel
theorem dX7_machine_100 : decode cX7_machine 100 = .ok (.getfield 169, 3) := by decide +kernel
theorem dX7_machine_103 : decode cX7_machine 103 = .ok (.iload_n 1, 1) := by decide +kernel
theorem dX7_machine_104 : decode cX7_machine 104 = .ok (.iaload, 1) := by decide +kernel
theorem dX7_machine_105 : decode cX7_machine 105 = .ok (.ireturn, 1) := by decide +kernel
theorem dX7_machine_106 : decode cX7_machine 106 = .ok (.aload_n 0, 1) := by decide +kernel
theorem dX7_machine_107 : decode cX7_machine 107 = .ok (.getfield 19, 3) := by decide +kernel
theorem dX7_machine_110 : decode cX7_machine 110 = .ok (.getfield 172, 3) := by decide +kernel
theorem dX7_machine_113 : decode cX7_machine 113 = .ok (.iload_n 1, 1) := by decide +kernel
theorem dX7_machine_114 : decode cX7_machine 114 = .ok (.iaload, 1) := by decide +kernel
theorem dX7_machine_115 : decode cX7_machine 115 = .ok (.ireturn, 1) := by decide +kernel
theorem dX7_machine_116 : decode cX7_machine 116 = .ok (.aload_n 0, 1) := by decide +kernel
theorem dX7_machine_117 : decode cX7_machine 117 = .ok (.getfield 19, 3) := by decide +kernel
theorem dX7_machine_120 : decode cX7_machine 120 = .ok (.getfield 175, 3) := by decide +kernel
theorem dX7_machine_123 : decode cX7_machine 123 = .ok (.iload_n 1, 1) := by decide +kernel
theorem dX7_machine_124 : decode cX7_machine 124 = .ok (.iaload, 1) := by decide +kernel
theorem dX7_machine_125 : decode cX7_machine 125 = .ok (.ireturn, 1) := by decide +kernel
theorem dX7_machine_126 : decode cX7_machine 126 = .ok (.aload_n 0, 1) := by decide +kernel
theorem dX7_machine_127 : decode cX7_machine 127 = .ok (.getfield 19, 3) := by decide +kernel
theorem dX7_machine_130 : decode cX7_machine 130 = .ok (.getfield 178, 3) := by decide +kernel
theorem dX7_machine_133 : decode cX7_machine 133 = .ok (.iload_n 1, 1) := by decide +kernel
theorem dX7_machine_134 : decode cX7_machine 134 = .ok (.iaload, 1) := by decide +kernel
theorem dX7_machine_135 : decode cX7_machine 135 = .ok (.ireturn, 1) := by decide +kernel
theorem dX7_machine_136 : decode cX7_machine 136 = .ok (.aload_n 0, 1) := by decide +kernel
theorem dX7_machine_137 : decode cX7_machine 137 = .ok (.getfield 26, 3) := by decide +kernel
theorem dX7_machine_140 : decode cX7_machine 140 = .ok (.getfield 181, 3) := by decide +kernel
theorem dX7_machine_143 : decode cX7_machine 143 = .ok (.iload_n 1, 1) := by decide +kernel
theorem dX7_machine_144 : decode cX7_machine 144 = .ok (.invokestatic 184, 3) := by decide +kernel
theorem dX7_machine_147 : decode cX7_machine 147 = .ok (.iconst 2, 1) := by decide +kernel
theorem dX7_machine_148 : decode cX7_machine 148 = .ok (.aload_n 0, 1) := by decide +kernel
theorem dX7_machine_149 : decode cX7_machine 149 = .ok (.getfield 26, 3) := by decide +kernel
theorem dX7_machine_152 : decode cX7_machine 152 = .ok (.getfield 188, 3) := by decide +kernel
theorem dX7_machine_155 : decode cX7_machine 155 = .ok (.iload_n 1, 1) := by decide +kernel
theorem dX7_machine_156 : decode cX7_machine 156 = .ok (.invokestatic 184, 3) := by decide +kernel
theorem dX7_machine_159 : decode cX7_machine 159 = .ok (.imul, 1) := by decide +kernel
theorem dX7_machine_160 : decode cX7_machine 160 = .ok (.iadd, 1) := by decide +kernel
theorem dX7_machine_161 : decode cX7_machine 161 = .ok (.ireturn, 1) := by decide +kernel
theorem dX7_machine_162 : decode cX7_machine 162 = .ok (.aload_n 0, 1) := by decide +kernel
theorem dX7_machine_163 : decode cX7_machine 163 = .ok (.getfield 26, 3) := by decide +kernel
theorem dX7_machine_166 : decode cX7_machine 166 = .ok (.getfield 191, 3) := by decide +kernel
theorem dX7_machine_169 : decode cX7_machine 169 = .ok (.iload_n 1, 1) := by decide +kernel
theorem dX7_machine_170 : decode cX7_machine 170 = .ok (.iaload, 1) := by decide +kernel
theorem dX7_machine_171 : decode cX7_machine 171 = .ok (.ireturn, 1) := by decide +kernel
theorem dX7_machine_172 : decode cX7_machine 172 = .ok (.aload_n 0, 1) := by decide +kernel
theorem dX7_machine_173 : decode cX7_machine 173 = .ok (.getfield 26, 3) := by decide +kernel
theorem dX7_machine_176 : decode cX7_machine 176 = .ok (.getfield 194, 3) := by decide +kernel
theorem dX7_machine_179 : decode cX7_machine 179 = .ok (.iload_n 1, 1) := by decide +kernel
theorem dX7_machine_180 : decode cX7_machine 180 = .ok (.iaload, 1) := by decide +kernel
theorem dX7_machine_181 : decode cX7_machine 181 = .ok (.ireturn, 1) := by decide +kernel
theorem dX7_machine_182 : decode cX7_machine 182 = .ok (.aload_n 0, 1) := by decide +kernel
theorem dX7_machine_183 : decode cX7_machine 183 = .ok (.getfield 26, 3) := by decide +kernel
theorem dX7_machine_186 : decode cX7_machine 186 = .ok (.getfield 125, 3) := by decide +kernel
theorem dX7_machine_189 : decode cX7_machine 189 = .ok (.iload_n 1, 1) := by decide +kernel
theorem dX7_machine_190 : decode cX7_machine 190 = .ok (.invokestatic 184, 3) := by decide +kernel
theorem dX7_machine_193 : decode cX7_machine 193 = .ok (.ireturn, 1) := by decide +kernel
theorem dX7_machine_194 : decode cX7_machine 194 = .ok (.aload_n 0, 1) := by decide +kernel
theorem dX7_machine_195 : decode cX7_machine 195 = .ok (.getfield 45, 3) := by decide +kernel
theorem dX7_machine_198 : decode cX7_machine 198 = .ok (.aload_n 0, 1) := by decide +kernel
theorem dX7_machine_199 : decode cX7_machine 199 = .ok (.getfield 26, 3) := by decide +kernel
theorem dX7_machine_202 : decode cX7_machine 202 = .ok (.iload_n 1, 1) := by decide +kernel
theorem dX7_machine_203 : decode cX7_machine 203 = .ok (.aload_n 0, 1) := by decide +kernel
theorem dX7_machine_204 : decode cX7_machine 204 = .ok (.getfield 26, 3) := by decide +kernel
theorem dX7_machine_207 : decode cX7_machine 207 = .ok (.getfield 147, 3) := by decide +kernel
theorem dX7_machine_210 : decode cX7_machine 210 = .ok (.iconst 1, 1) := by decide +kernel
theorem dX7_machine_211 : decode cX7_machine 211 = .ok (.iadd, 1) := by decide +kernel
theorem dX7_machine_212 : decode cX7_machine 212 = .ok (.invokevirtual 197, 3) := by decide +kernel
theorem dX7_machine_215 : decode cX7_machine 215 = .ok (.ifCond .eq 7, 3) := by decide +kernel
theorem dX7_machine_218 : decode cX7_machine 218 = .ok (.iconst 1, 1) := by decide +kernel
theorem dX7_machine_219 : decode cX7_machine 219 = .ok (.goto 4, 3) := by decide +kernel
theorem dX7_machine_222 : decode cX7_machine 222 = .ok (.iconst 0, 1) := by decide +kernel
theorem dX7_machine_223 : decode cX7_machine 223 = .ok (.ireturn, 1) := by decide +kernel
theorem dX7_machine_224 : decode cX7_machine 224 = .ok (.aload_n 0, 1) := by decide +kernel
theorem dX7_machine_225 : decode cX7_machine 225 = .ok (.getfield 45, 3) := by decide +kernel
theorem dX7_machine_228 : decode cX7_machine 228 = .ok (.aload_n 0, 1) := by decide +kernel
theorem dX7_machine_229 : decode cX7_machine 229 = .ok (.getfield 26, 3) := by decide +kernel
theorem dX7_machine_232 : decode cX7_machine 232 = .ok (.iload_n 1, 1) := by decide +kernel
theorem dX7_machine_233 : decode cX7_machine 233 = .ok (.invokevirtual 201, 3) := by decide +kernel
theorem dX7_machine_236 : decode cX7_machine 236 = .ok (.ireturn, 1) := by decide +kernel
theorem dX7_machine_237 : decode cX7_machine 237 = .ok (.aload_n 0, 1) := by decide +kernel
theorem dX7_machine_238 : decode cX7_machine 238 = .ok (.getfield 26, 3) := by decide +kernel
theorem dX7_machine_241 : decode cX7_machine 241 = .ok (.iload_n 1, 1) := by decide +kernel
theorem dX7_machine_242 : decode cX7_machine 242 = .ok (.invokevirtual 205, 3) := by decide +kernel
theorem dX7_machine_245 : decode cX7_machine 245 = .ok (.ireturn, 1) := by decide +kernel
theorem dX7_machine_246 : decode cX7_machine 246 = .ok (.iconst (-1), 1) := by decide +kernel
theorem dX7_machine_247 : decode cX7_machine 247 = .ok (.ireturn, 1) := by decide +kernel
theorem dX7_power_0 : decode cX7_power 0 = .ok (.aload_n 0, 1) := by decide +kernel
theorem dX7_power_1 : decode cX7_power 1 = .ok (.iload_n 1, 1) := by decide +kernel
theorem dX7_power_2 : decode cX7_power 2 = .ok (.invokevirtual 121, 3) := by decide +kernel
theorem dX7_power_5 : decode cX7_power 5 = .ok (.ifCond .eq 23, 3) := by decide +kernel
theorem dX7_power_8 : decode cX7_power 8 = .ok (.iload_n 2, 1) := by decide +kernel
theorem dX7_power_9 : decode cX7_power 9 = .ok (.ifCond .lt 19, 3) := by decide +kernel
theorem dX7_power_12 : decode cX7_power 12 = .ok (.iload_n 2, 1) := by decide +kernel
theorem dX7_power_13 : decode cX7_power 13 = .ok (.bipush 99, 2) := by decide +kernel
theorem dX7_power_15 : decode cX7_power 15 = .ok (.if_icmp .gt 13, 3) := by decide +kernel
theorem dX7_power_18 : decode cX7_power 18 = .ok (.iload_n 3, 1) := by decide +kernel
theorem dX7_power_19 : decode cX7_power 19 = .ok (.ifCond .lt 9, 3) := by decide +kernel
theorem dX7_power_22 : decode cX7_power 22 = .ok (.iload_n 3, 1) := by decide +kernel
theorem dX7_power_23 : decode cX7_power 23 = .ok (.bipush 45, 2) := by decide +kernel
theorem dX7_power_25 : decode cX7_power 25 = .ok (.if_icmp .le 5, 3) := by decide +kernel
theorem dX7_power_28 : decode cX7_power 28 = .ok (.iconst (-1), 1) := by decide +kernel
theorem dX7_power_29 : decode cX7_power 29 = .ok (.ireturn, 1) := by decide +kernel
theorem dX7_power_30 : decode cX7_power 30 = .ok (.aload_n 0, 1) := by decide +kernel
theorem dX7_power_31 : decode cX7_power 31 = .ok (.getfield 19, 3) := by decide +kernel
theorem dX7_power_34 : decode cX7_power 34 = .ok (.iload_n 1, 1) := by decide +kernel
theorem dX7_power_35 : decode cX7_power 35 = .ok (.iload_n 2, 1) := by decide +kernel
theorem dX7_power_36 : decode cX7_power 36 = .ok (.iload_n 3, 1) := by decide +kernel
theorem dX7_power_37 : decode cX7_power 37 = .ok (.invokevirtual 208, 3) := by decide +kernel
theorem dX7_power_40 : decode cX7_power 40 = .ok (.ireturn, 1) := by decide +kernel
theorem dX7_share_0 : decode cX7_share 0 = .ok (.iload_n 1, 1) := by decide +kernel
theorem dX7_share_1 : decode cX7_share 1 = .ok (.ifCond .lt 34, 3) := by decide +kernel
theorem dX7_share_4 : decode cX7_share 4 = .ok (.iload_n 1, 1) := by decide +kernel
theorem dX7_share_5 : decode cX7_share 5 = .ok (.aload_n 0, 1) := by decide +kernel
theorem dX7_share_6 : decode cX7_share 6 = .ok (.getfield 19, 3) := by decide +kernel
theorem dX7_share_9 : decode cX7_share 9 = .ok (.invokevirtual 212, 3) := by decide +kernel
theorem dX7_share_12 : decode cX7_share 12 = .ok (.if_icmp .gt 23, 3) := by decide +kernel
theorem dX7_share_15 : decode cX7_share 15 = .ok (.iload_n 2, 1) := by decide +kernel
theorem dX7_share_16 : decode cX7_share 16 = .ok (.invokestatic 215, 3) := by decide +kernel
theorem dX7_share_19 : decode cX7_share 19 = .ok (.ifCond .eq 16, 3) := by decide +kernel
theorem dX7_share_22 : decode cX7_share 22 = .ok (.iload_n 3, 1) := by decide +kernel
theorem dX7_share_23 : decode cX7_share 23 = .ok (.iconst (-1), 1) := by decide +kernel
theorem dX7_share_24 : decode cX7_share 24 = .ok (.if_icmp .eq 13, 3) := by decide +kernel
theorem dX7_share_27 : decode cX7_share 27 = .ok (.aload_n 0, 1) := by decide +kernel
theorem dX7_share_28 : decode cX7_share 28 = .ok (.iload_n 3, 1) := by decide +kernel
theorem dX7_share_29 : decode cX7_share 29 = .ok (.invokevirtual 121, 3) := by decide +kernel
theorem dX7_share_32 : decode cX7_share 32 = .ok (.ifCond .ne 5, 3) := by decide +kernel
theorem dX7_share_35 : decode cX7_share 35 = .ok (.iconst (-1), 1) := by decide +kernel
theorem dX7_share_36 : decode cX7_share 36 = .ok (.ireturn, 1) := by decide +kernel
theorem dX7_share_37 : decode cX7_share 37 = .ok (.aload_n 0, 1) := by decide +kernel
theorem dX7_share_38 : decode cX7_share 38 = .ok (.getfield 52, 3) := by decide +kernel
theorem dX7_share_41 : decode cX7_share 41 = .ok (.iload_n 1, 1) := by decide +kernel
theorem dX7_share_42 : decode cX7_share 42 = .ok (.iload_n 2, 1) := by decide +kernel
theorem dX7_share_43 : decode cX7_share 43 = .ok (.aload_n 0, 1) := by decide +kernel
theorem dX7_share_44 : decode cX7_share 44 = .ok (.getfield 26, 3) := by decide +kernel
theorem dX7_share_47 : decode cX7_share 47 = .ok (.invokevirtual 218, 3) := by decide +kernel
theorem dX7_share_50 : decode cX7_share 50 = .ok (.invokevirtual 221, 3) := by decide +kernel
theorem dX7_share_53 : decode cX7_share 53 = .ok (.ifCond .ne 6, 3) := by decide +kernel
theorem dX7_share_56 : decode cX7_share 56 = .ok (.bipush (-4), 2) := by decide +kernel
theorem dX7_share_58 : decode cX7_share 58 = .ok (.ireturn, 1) := by decide +kernel
theorem dX7_share_59 : decode cX7_share 59 = .ok (.iload_n 3, 1) := by decide +kernel
theorem dX7_share_60 : decode cX7_share 60 = .ok (.iconst (-1), 1) := by decide +kernel
theorem dX7_share_61 : decode cX7_share 61 = .ok (.if_icmp .ne 13, 3) := by decide +kernel
theorem dX7_share_64 : decode cX7_share 64 = .ok (.aload_n 0, 1) := by decide +kernel
theorem dX7_share_65 : decode cX7_share 65 = .ok (.getfield 52, 3) := by decide +kernel
theorem dX7_share_68 : decode cX7_share 68 = .ok (.invokevirtual 225, 3) := by decide +kernel
theorem dX7_share_71 : decode cX7_share 71 = .ok (.goto 11, 3) := by decide +kernel
theorem dX7_share_74 : decode cX7_share 74 = .ok (.aload_n 0, 1) := by decide +kernel
theorem dX7_share_75 : decode cX7_share 75 = .ok (.getfield 52, 3) := by decide +kernel
theorem dX7_share_78 : decode cX7_share 78 = .ok (.iload_n 3, 1) := by decide +kernel
theorem dX7_share_79 : decode cX7_share 79 = .ok (.invokevirtual 228, 3) := by decide +kernel
theorem dX7_share_82 : decode cX7_share 82 = .ok (.ireturn, 1) := by decide +kernel
theorem dX7_best_0 : decode cX7_best 0 = .ok (.iload_n 1, 1) := by decide +kernel
theorem dX7_best_1 : decode cX7_best 1 = .ok (.invokestatic 215, 3) := by decide +kernel
theorem dX7_best_4 : decode cX7_best 4 = .ok (.ifCond .eq 12, 3) := by decide +kernel
theorem dX7_best_7 : decode cX7_best 7 = .ok (.iload_n 2, 1) := by decide +kernel
theorem dX7_best_8 : decode cX7_best 8 = .ok (.ifCond .lt 8, 3) := by decide +kernel
theorem dX7_best_11 : decode cX7_best 11 = .ok (.iload_n 2, 1) := by decide +kernel
theorem dX7_best_12 : decode cX7_best 12 = .ok (.iconst 1, 1) := by decide +kernel
theorem dX7_best_13 : decode cX7_best 13 = .ok (.if_icmp .le 5, 3) := by decide +kernel
theorem dX7_best_16 : decode cX7_best 16 = .ok (.iconst (-1), 1) := by decide +kernel
theorem dX7_best_17 : decode cX7_best 17 = .ok (.ireturn, 1) := by decide +kernel
theorem dX7_best_18 : decode cX7_best 18 = .ok (.aload_n 0, 1) := by decide +kernel
theorem dX7_best_19 : decode cX7_best 19 = .ok (.getfield 59, 3) := by decide +kernel
theorem dX7_best_22 : decode cX7_best 22 = .ok (.aload_n 0, 1) := by decide +kernel
theorem dX7_best_23 : decode cX7_best 23 = .ok (.getfield 19, 3) := by decide +kernel
theorem dX7_best_26 : decode cX7_best 26 = .ok (.invokevirtual 212, 3) := by decide +kernel
theorem dX7_best_29 : decode cX7_best 29 = .ok (.aload_n 0, 1) := by decide +kernel
theorem dX7_best_30 : decode cX7_best 30 = .ok (.getfield 26, 3) := by decide +kernel
theorem dX7_best_33 : decode cX7_best 33 = .ok (.getfield 125, 3) := by decide +kernel
theorem dX7_best_36 : decode cX7_best 36 = .ok (.iconst (-1), 1) := by decide +kernel
theorem dX7_best_37 : decode cX7_best 37 = .ok (.ixor, 1) := by decide +kernel
theorem dX7_best_38 : decode cX7_best 38 = .ok (.iand, 1) := by decide +kernel
theorem dX7_best_39 : decode cX7_best 39 = .ok (.aload_n 0, 1) := by decide +kernel
theorem dX7_best_40 : decode cX7_best 40 = .ok (.getfield 26, 3) := by decide +kernel
theorem dX7_best_43 : decode cX7_best 43 = .ok (.invokevirtual 218, 3) := by decide +kernel
theorem dX7_best_46 : decode cX7_best 46 = .ok (.invokevirtual 231, 3) := by decide +kernel
theorem dX7_best_49 : decode cX7_best 49 = .ok (.aload_n 0, 1) := by decide +kernel
theorem dX7_best_50 : decode cX7_best 50 = .ok (.getfield 59, 3) := by decide +kernel
theorem dX7_best_53 : decode cX7_best 53 = .ok (.iload_n 1, 1) := by decide +kernel
theorem dX7_best_54 : decode cX7_best 54 = .ok (.invokevirtual 235, 3) := by decide +kernel
theorem dX7_best_57 : decode cX7_best 57 = .ok (.ifCond .ne 6, 3) := by decide +kernel
theorem dX7_best_60 : decode cX7_best 60 = .ok (.bipush (-4), 2) := by decide +kernel
theorem dX7_best_62 : decode cX7_best 62 = .ok (.ireturn, 1) := by decide +kernel
theorem dX7_best_63 : decode cX7_best 63 = .ok (.iload_n 2, 1) := by decide +kernel
theorem dX7_best_64 : decode cX7_best 64 = .ok (.ifCond .ne 14, 3) := by decide +kernel
theorem dX7_best_67 : decode cX7_best 67 = .ok (.aload_n 0, 1) := by decide +kernel
theorem dX7_best_68 : decode cX7_best 68 = .ok (.getfield 59, 3) := by decide +kernel
theorem dX7_best_71 : decode cX7_best 71 = .ok (.iload_n 1, 1) := by decide +kernel
theorem dX7_best_72 : decode cX7_best 72 = .ok (.invokevirtual 238, 3) := by decide +kernel
theorem dX7_best_75 : decode cX7_best 75 = .ok (.goto 11, 3) := by decide +kernel
theorem dX7_best_78 : decode cX7_best 78 = .ok (.aload_n 0, 1) := by decide +kernel
theorem dX7_best_79 : decode cX7_best 79 = .ok (.getfield 59, 3) := by decide +kernel
theorem dX7_best_82 : decode cX7_best 82 = .ok (.iload_n 1, 1) := by decide +kernel
theorem dX7_best_83 : decode cX7_best 83 = .ok (.invokevirtual 241, 3) := by decide +kernel
theorem dX7_best_86 : decode cX7_best 86 = .ok (.ireturn, 1) := by decide +kernel
theorem dX7_now_0 : decode cX7_now 0 = .ok (.aload_n 0, 1) := by decide +kernel
theorem dX7_now_1 : decode cX7_now 1 = .ok (.getfield 26, 3) := by decide +kernel
theorem dX7_now_4 : decode cX7_now 4 = .ok (.getfield 114, 3) := by decide +kernel
theorem dX7_now_7 : decode cX7_now 7 = .ok (.iconst 0, 1) := by decide +kernel
theorem dX7_now_8 : decode cX7_now 8 = .ok (.iaload, 1) := by decide +kernel
theorem dX7_now_9 : decode cX7_now 9 = .ok (.istore_n 2, 1) := by decide +kernel
theorem dX7_now_10 : decode cX7_now 10 = .ok (.aload_n 0, 1) := by decide +kernel
theorem dX7_now_11 : decode cX7_now 11 = .ok (.getfield 45, 3) := by decide +kernel
theorem dX7_now_14 : decode cX7_now 14 = .ok (.aload_n 0, 1) := by decide +kernel
theorem dX7_now_15 : decode cX7_now 15 = .ok (.getfield 26, 3) := by decide +kernel
theorem dX7_now_18 : decode cX7_now 18 = .ok (.invokevirtual 243, 3) := by decide +kernel
theorem dX7_now_21 : decode cX7_now 21 = .ok (.istore_n 3, 1) := by decide +kernel
theorem dX7_now_22 : decode cX7_now 22 = .ok (.iload_n 1, 1) := by decide +kernel
theorem dX7_now_23 : decode cX7_now 23 = .ok (.tableswitch 124 0 6 #[41, 43, 51, 59, 71, 100, 108], 41) := by decide +kernel
theorem dX7_now_64 : decode cX7_now 64 = .ok (.iload_n 3, 1) := by decide +kernel
theorem dX7_now_65 : decode cX7_now 65 = .ok (.ireturn, 1) := by decide +kernel
theorem dX7_now_66 : decode cX7_now 66 = .ok (.iconst 0, 1) := by decide +kernel
theorem dX7_now_67 : decode cX7_now 67 = .ok (.iload_n 2, 1) := by decide +kernel
theorem dX7_now_68 : decode cX7_now 68 = .ok (.iload_n 3, 1) := by decide +kernel
theorem dX7_now_69 : decode cX7_now 69 = .ok (.isub, 1) := by decide +kernel
theorem dX7_now_70 : decode cX7_now 70 = .ok (.invokestatic 247, 3) := by decide +kernel
theorem dX7_now_73 : decode cX7_now 73 = .ok (.ireturn, 1) := by decide +kernel
theorem dX7_now_74 : decode cX7_now 74 = .ok (.iconst 0, 1) := by decide +kernel
theorem dX7_now_75 : decode cX7_now 75 = .ok (.iload_n 3, 1) := by decide +kernel
theorem dX7_now_76 : decode cX7_now 76 = .ok (.iload_n 2, 1) := by decide +kernel
theorem dX7_now_77 : decode cX7_now 77 = .ok (.isub, 1) := by decide +kernel
theorem dX7_now_78 : decode cX7_now 78 = .ok (.invokestatic 247, 3) := by decide +kernel
theorem dX7_now_81 : decode cX7_now 81 = .ok (.ireturn, 1) := by decide +kernel
theorem dX7_now_82 : decode cX7_now 82 = .ok (.aload_n 0, 1) := by decide +kernel
theorem dX7_now_83 : decode cX7_now 83 = .ok (.getfield 45, 3) := by decide +kernel
theorem dX7_now_86 : decode cX7_now 86 = .ok (.aload_n 0, 1) := by decide +kernel
theorem dX7_now_87 : decode cX7_now 87 = .ok (.getfield 26, 3) := by decide +kernel
theorem dX7_now_90 : decode cX7_now 90 = .ok (.invokevirtual 252, 3) := by decide +kernel
theorem dX7_now_93 : decode cX7_now 93 = .ok (.ireturn, 1) := by decide +kernel
theorem dX7_now_94 : decode cX7_now 94 = .ok (.iconst 0, 1) := by decide +kernel
theorem dX7_now_95 : decode cX7_now 95 = .ok (.aload_n 0, 1) := by decide +kernel
theorem dX7_now_96 : decode cX7_now 96 = .ok (.getfield 19, 3) := by decide +kernel
theorem dX7_now_99 : decode cX7_now 99 = .ok (.aload_n 0, 1) := by decide +kernel
theorem dX7_now_100 : decode cX7_now 100 = .ok (.getfield 26, 3) := by decide +kernel
theorem dX7_now_103 : decode cX7_now 103 = .ok (.invokevirtual 141, 3) := by decide +kernel
theorem dX7_now_106 : decode cX7_now 106 = .ok (.invokevirtual 255, 3) := by decide +kernel
theorem dX7_now_109 : decode cX7_now 109 = .ok (.aload_n 0, 1) := by decide +kernel
theorem dX7_now_110 : decode cX7_now 110 = .ok (.getfield 26, 3) := by decide +kernel
theorem dX7_now_113 : decode cX7_now 113 = .ok (.getfield 114, 3) := by decide +kernel
theorem dX7_now_116 : decode cX7_now 116 = .ok (.iconst 1, 1) := by decide +kernel
theorem dX7_now_117 : decode cX7_now 117 = .ok (.iaload, 1) := by decide +kernel
theorem dX7_now_118 : decode cX7_now 118 = .ok (.isub, 1) := by decide +kernel
theorem dX7_now_119 : decode cX7_now 119 = .ok (.invokestatic 247, 3) := by decide +kernel
theorem dX7_now_122 : decode cX7_now 122 = .ok (.ireturn, 1) := by decide +kernel
theorem dX7_now_123 : decode cX7_now 123 = .ok (.aload_n 0, 1) := by decide +kernel
theorem dX7_now_124 : decode cX7_now 124 = .ok (.getfield 26, 3) := by decide +kernel
theorem dX7_now_127 : decode cX7_now 127 = .ok (.invokevirtual 218, 3) := by decide +kernel
theorem dX7_now_130 : decode cX7_now 130 = .ok (.ireturn, 1) := by decide +kernel
theorem dX7_now_131 : decode cX7_now 131 = .ok (.iload_n 3, 1) := by decide +kernel
theorem dX7_now_132 : decode cX7_now 132 = .ok (.iload_n 2, 1) := by decide +kernel
theorem dX7_now_133 : decode cX7_now 133 = .ok (.if_icmp .ne 11, 3) := by decide +kernel
theorem dX7_now_136 : decode cX7_now 136 = .ok (.aload_n 0, 1) := by decide +kernel
theorem dX7_now_137 : decode cX7_now 137 = .ok (.iload_n 2, 1) := by decide +kernel
theorem dX7_now_138 : decode cX7_now 138 = .ok (.invokevirtual 258, 3) := by decide +kernel
theorem dX7_now_141 : decode cX7_now 141 = .ok (.goto 5, 3) := by decide +kernel
theorem dX7_now_144 : decode cX7_now 144 = .ok (.bipush (-4), 2) := by decide +kernel
theorem dX7_now_146 : decode cX7_now 146 = .ok (.ireturn, 1) := by decide +kernel
theorem dX7_now_147 : decode cX7_now 147 = .ok (.iconst (-1), 1) := by decide +kernel
theorem dX7_now_148 : decode cX7_now 148 = .ok (.ireturn, 1) := by decide +kernel
theorem dX7_ahead_0 : decode cX7_ahead 0 = .ok (.iload_n 1, 1) := by decide +kernel
theorem dX7_ahead_1 : decode cX7_ahead 1 = .ok (.iconst 1, 1) := by decide +kernel
theorem dX7_ahead_2 : decode cX7_ahead 2 = .ok (.if_icmp .lt 18, 3) := by decide +kernel
theorem dX7_ahead_5 : decode cX7_ahead 5 = .ok (.iload_n 1, 1) := by decide +kernel
theorem dX7_ahead_6 : decode cX7_ahead 6 = .ok (.bipush 60, 2) := by decide +kernel
theorem dX7_ahead_8 : decode cX7_ahead 8 = .ok (.if_icmp .gt 12, 3) := by decide +kernel
theorem dX7_ahead_11 : decode cX7_ahead 11 = .ok (.iload_n 2, 1) := by decide +kernel
theorem dX7_ahead_12 : decode cX7_ahead 12 = .ok (.ifCond .lt 8, 3) := by decide +kernel
theorem dX7_ahead_15 : decode cX7_ahead 15 = .ok (.iload_n 2, 1) := by decide +kernel
theorem dX7_ahead_16 : decode cX7_ahead 16 = .ok (.iconst 3, 1) := by decide +kernel
theorem dX7_ahead_17 : decode cX7_ahead 17 = .ok (.if_icmp .le 5, 3) := by decide +kernel
theorem dX7_ahead_20 : decode cX7_ahead 20 = .ok (.iconst (-1), 1) := by decide +kernel
theorem dX7_ahead_21 : decode cX7_ahead 21 = .ok (.ireturn, 1) := by decide +kernel
theorem dX7_ahead_22 : decode cX7_ahead 22 = .ok (.aload_n 0, 1) := by decide +kernel
theorem dX7_ahead_23 : decode cX7_ahead 23 = .ok (.getfield 30, 3) := by decide +kernel
theorem dX7_ahead_26 : decode cX7_ahead 26 = .ok (.aload_n 0, 1) := by decide +kernel
theorem dX7_ahead_27 : decode cX7_ahead 27 = .ok (.getfield 26, 3) := by decide +kernel
theorem dX7_ahead_30 : decode cX7_ahead 30 = .ok (.invokevirtual 261, 3) := by decide +kernel
theorem dX7_ahead_33 : decode cX7_ahead 33 = .ok (.iconst 0, 1) := by decide +kernel
theorem dX7_ahead_34 : decode cX7_ahead 34 = .ok (.istore_n 3, 1) := by decide +kernel
theorem dX7_ahead_35 : decode cX7_ahead 35 = .ok (.iconst 0, 1) := by decide +kernel
theorem dX7_ahead_36 : decode cX7_ahead 36 = .ok (.istore 4, 2) := by decide +kernel
theorem dX7_ahead_38 : decode cX7_ahead 38 = .ok (.iload 4, 2) := by decide +kernel
theorem dX7_ahead_40 : decode cX7_ahead 40 = .ok (.iload_n 1, 1) := by decide +kernel
theorem dX7_ahead_41 : decode cX7_ahead 41 = .ok (.if_icmp .ge 46, 3) := by decide +kernel
theorem dX7_ahead_44 : decode cX7_ahead 44 = .ok (.aload_n 0, 1) := by decide +kernel
theorem dX7_ahead_45 : decode cX7_ahead 45 = .ok (.getfield 45, 3) := by decide +kernel
theorem dX7_ahead_48 : decode cX7_ahead 48 = .ok (.aload_n 0, 1) := by decide +kernel
theorem dX7_ahead_49 : decode cX7_ahead 49 = .ok (.getfield 30, 3) := by decide +kernel
theorem dX7_ahead_52 : decode cX7_ahead 52 = .ok (.invokevirtual 153, 3) := by decide +kernel
theorem dX7_ahead_55 : decode cX7_ahead 55 = .ok (.aload_n 0, 1) := by decide +kernel
theorem dX7_ahead_56 : decode cX7_ahead 56 = .ok (.getfield 45, 3) := by decide +kernel
theorem dX7_ahead_59 : decode cX7_ahead 59 = .ok (.aload_n 0, 1) := by decide +kernel
theorem dX7_ahead_60 : decode cX7_ahead 60 = .ok (.getfield 30, 3) := by decide +kernel
theorem dX7_ahead_63 : decode cX7_ahead 63 = .ok (.invokevirtual 243, 3) := by decide +kernel
theorem dX7_ahead_66 : decode cX7_ahead 66 = .ok (.aload_n 0, 1) := by decide +kernel
theorem dX7_ahead_67 : decode cX7_ahead 67 = .ok (.getfield 30, 3) := by decide +kernel
theorem dX7_ahead_70 : decode cX7_ahead 70 = .ok (.getfield 114, 3) := by decide +kernel
theorem dX7_ahead_73 : decode cX7_ahead 73 = .ok (.iconst 0, 1) := by decide +kernel
theorem dX7_ahead_74 : decode cX7_ahead 74 = .ok (.iaload, 1) := by decide +kernel
theorem dX7_ahead_75 : decode cX7_ahead 75 = .ok (.if_icmp .ge 6, 3) := by decide +kernel
theorem dX7_ahead_78 : decode cX7_ahead 78 = .ok (.iinc 3 1, 3) := by decide +kernel
theorem dX7_ahead_81 : decode cX7_ahead 81 = .ok (.iinc 4 1, 3) := by decide +kernel
theorem dX7_ahead_84 : decode cX7_ahead 84 = .ok (.goto (-46), 3) := by decide +kernel
theorem dX7_ahead_87 : decode cX7_ahead 87 = .ok (.iload_n 2, 1) := by decide +kernel
theorem dX7_ahead_88 : decode cX7_ahead 88 = .ok (.tableswitch 71 0 2 #[28, 39, 55], 28) := by decide +kernel
theorem dX7_ahead_116 : decode cX7_ahead 116 = .ok (.aload_n 0, 1) := by decide +kernel
theorem dX7_ahead_117 : decode cX7_ahead 117 = .ok (.getfield 30, 3) := by decide +kernel
theorem dX7_ahead_120 : decode cX7_ahead 120 = .ok (.invokevirtual 141, 3) := by decide +kernel
theorem dX7_ahead_123 : decode cX7_ahead 123 = .ok (.invokestatic 135, 3) := by decide +kernel
theorem dX7_ahead_126 : decode cX7_ahead 126 = .ok (.ireturn, 1) := by decide +kernel
theorem dX7_ahead_127 : decode cX7_ahead 127 = .ok (.aload_n 0, 1) := by decide +kernel
theorem dX7_ahead_128 : decode cX7_ahead 128 = .ok (.getfield 30, 3) := by decide +kernel
theorem dX7_ahead_131 : decode cX7_ahead 131 = .ok (.invokevirtual 150, 3) := by decide +kernel
theorem dX7_ahead_134 : decode cX7_ahead 134 = .ok (.aload_n 0, 1) := by decide +kernel
theorem dX7_ahead_135 : decode cX7_ahead 135 = .ok (.getfield 26, 3) := by decide +kernel
theorem dX7_ahead_138 : decode cX7_ahead 138 = .ok (.invokevirtual 150, 3) := by decide +kernel
theorem dX7_ahead_141 : decode cX7_ahead 141 = .ok (.isub, 1) := by decide +kernel
theorem dX7_ahead_142 : decode cX7_ahead 142 = .ok (.ireturn, 1) := by decide +kernel
theorem dX7_ahead_143 : decode cX7_ahead 143 = .ok (.aload_n 0, 1) := by decide +kernel
theorem dX7_ahead_144 : decode cX7_ahead 144 = .ok (.getfield 30, 3) := by decide +kernel
theorem dX7_ahead_147 : decode cX7_ahead 147 = .ok (.getfield 264, 3) := by decide +kernel
theorem dX7_ahead_150 : decode cX7_ahead 150 = .ok (.aload_n 0, 1) := by decide +kernel
theorem dX7_ahead_151 : decode cX7_ahead 151 = .ok (.getfield 26, 3) := by decide +kernel
theorem dX7_ahead_154 : decode cX7_ahead 154 = .ok (.getfield 264, 3) := by decide +kernel
theorem dX7_ahead_157 : decode cX7_ahead 157 = .ok (.isub, 1) := by decide +kernel
theorem dX7_ahead_158 : decode cX7_ahead 158 = .ok (.ireturn, 1) := by decide +kernel
theorem dX7_ahead_159 : decode cX7_ahead 159 = .ok (.iload_n 3, 1) := by decide +kernel
theorem dX7_ahead_160 : decode cX7_ahead 160 = .ok (.ireturn, 1) := by decide +kernel
theorem dX7_count_0 : decode cX7_count 0 = .ok (.iload_n 1, 1) := by decide +kernel
theorem dX7_count_1 : decode cX7_count 1 = .ok (.tableswitch 224 0 15 #[79, 87, 98, 109, 120, 128, 136, 144, 152, 160, 168, 178, 188, 198, 208, 216], 79) := by decide +kernel
theorem dX7_count_80 : decode cX7_count 80 = .ok (.aload_n 0, 1) := by decide +kernel
theorem dX7_count_81 : decode cX7_count 81 = .ok (.getfield 19, 3) := by decide +kernel
theorem dX7_count_84 : decode cX7_count 84 = .ok (.getfield 105, 3) := by decide +kernel
theorem dX7_count_87 : decode cX7_count 87 = .ok (.ireturn, 1) := by decide +kernel
theorem dX7_count_88 : decode cX7_count 88 = .ok (.aload_n 0, 1) := by decide +kernel
theorem dX7_count_89 : decode cX7_count 89 = .ok (.getfield 26, 3) := by decide +kernel
theorem dX7_count_92 : decode cX7_count 92 = .ok (.invokevirtual 141, 3) := by decide +kernel
theorem dX7_count_95 : decode cX7_count 95 = .ok (.invokestatic 135, 3) := by decide +kernel
theorem dX7_count_98 : decode cX7_count 98 = .ok (.ireturn, 1) := by decide +kernel
theorem dX7_count_99 : decode cX7_count 99 = .ok (.aload_n 0, 1) := by decide +kernel
theorem dX7_count_100 : decode cX7_count 100 = .ok (.getfield 26, 3) := by decide +kernel
theorem dX7_count_103 : decode cX7_count 103 = .ok (.getfield 188, 3) := by decide +kernel
theorem dX7_count_106 : decode cX7_count 106 = .ok (.invokestatic 135, 3) := by decide +kernel
theorem dX7_count_109 : decode cX7_count 109 = .ok (.ireturn, 1) := by decide +kernel
theorem dX7_count_110 : decode cX7_count 110 = .ok (.aload_n 0, 1) := by decide +kernel
theorem dX7_count_111 : decode cX7_count 111 = .ok (.getfield 26, 3) := by decide +kernel
theorem dX7_count_114 : decode cX7_count 114 = .ok (.getfield 125, 3) := by decide +kernel
theorem dX7_count_117 : decode cX7_count 117 = .ok (.invokestatic 135, 3) := by decide +kernel
theorem dX7_count_120 : decode cX7_count 120 = .ok (.ireturn, 1) := by decide +kernel
theorem dX7_count_121 : decode cX7_count 121 = .ok (.aload_n 0, 1) := by decide +kernel
theorem dX7_count_122 : decode cX7_count 122 = .ok (.getfield 26, 3) := by decide +kernel
theorem dX7_count_125 : decode cX7_count 125 = .ok (.getfield 267, 3) := by decide +kernel
theorem dX7_count_128 : decode cX7_count 128 = .ok (.ireturn, 1) := by decide +kernel
theorem dX7_count_129 : decode cX7_count 129 = .ok (.aload_n 0, 1) := by decide +kernel
theorem dX7_count_130 : decode cX7_count 130 = .ok (.getfield 26, 3) := by decide +kernel
theorem dX7_count_133 : decode cX7_count 133 = .ok (.getfield 147, 3) := by decide +kernel
theorem dX7_count_136 : decode cX7_count 136 = .ok (.ireturn, 1) := by decide +kernel
theorem dX7_count_137 : decode cX7_count 137 = .ok (.aload_n 0, 1) := by decide +kernel
theorem dX7_count_138 : decode cX7_count 138 = .ok (.getfield 26, 3) := by decide +kernel
theorem dX7_count_141 : decode cX7_count 141 = .ok (.getfield 270, 3) := by decide +kernel
theorem dX7_count_144 : decode cX7_count 144 = .ok (.ireturn, 1) := by decide +kernel
theorem dX7_count_145 : decode cX7_count 145 = .ok (.aload_n 0, 1) := by decide +kernel
theorem dX7_count_146 : decode cX7_count 146 = .ok (.getfield 26, 3) := by decide +kernel
theorem dX7_count_149 : decode cX7_count 149 = .ok (.getfield 273, 3) := by decide +kernel
theorem dX7_count_152 : decode cX7_count 152 = .ok (.ireturn, 1) := by decide +kernel
theorem dX7_count_153 : decode cX7_count 153 = .ok (.aload_n 0, 1) := by decide +kernel
theorem dX7_count_154 : decode cX7_count 154 = .ok (.getfield 26, 3) := by decide +kernel
theorem dX7_count_157 : decode cX7_count 157 = .ok (.invokevirtual 150, 3) := by decide +kernel
theorem dX7_count_160 : decode cX7_count 160 = .ok (.ireturn, 1) := by decide +kernel
theorem dX7_count_161 : decode cX7_count 161 = .ok (.aload_n 0, 1) := by decide +kernel
theorem dX7_count_162 : decode cX7_count 162 = .ok (.getfield 26, 3) := by decide +kernel
theorem dX7_count_165 : decode cX7_count 165 = .ok (.getfield 264, 3) := by decide +kernel
theorem dX7_count_168 : decode cX7_count 168 = .ok (.ireturn, 1) := by decide +kernel
theorem dX7_count_169 : decode cX7_count 169 = .ok (.aload_n 0, 1) := by decide +kernel
theorem dX7_count_170 : decode cX7_count 170 = .ok (.getfield 26, 3) := by decide +kernel
theorem dX7_count_173 : decode cX7_count 173 = .ok (.getfield 114, 3) := by decide +kernel
theorem dX7_count_176 : decode cX7_count 176 = .ok (.iconst 0, 1) := by decide +kernel
theorem dX7_count_177 : decode cX7_count 177 = .ok (.iaload, 1) := by decide +kernel
theorem dX7_count_178 : decode cX7_count 178 = .ok (.ireturn, 1) := by decide +kernel
theorem dX7_count_179 : decode cX7_count 179 = .ok (.aload_n 0, 1) := by decide +kernel
theorem dX7_count_180 : decode cX7_count 180 = .ok (.getfield 26, 3) := by decide +kernel
theorem dX7_count_183 : decode cX7_count 183 = .ok (.getfield 114, 3) := by decide +kernel
theorem dX7_count_186 : decode cX7_count 186 = .ok (.iconst 1, 1) := by decide +kernel
theorem dX7_count_187 : decode cX7_count 187 = .ok (.iaload, 1) := by decide +kernel
theorem dX7_count_188 : decode cX7_count 188 = .ok (.ireturn, 1) := by decide +kernel
theorem dX7_count_189 : decode cX7_count 189 = .ok (.aload_n 0, 1) := by decide +kernel
theorem dX7_count_190 : decode cX7_count 190 = .ok (.getfield 26, 3) := by decide +kernel
theorem dX7_count_193 : decode cX7_count 193 = .ok (.getfield 114, 3) := by decide +kernel
theorem dX7_count_196 : decode cX7_count 196 = .ok (.iconst 2, 1) := by decide +kernel
theorem dX7_count_197 : decode cX7_count 197 = .ok (.iaload, 1) := by decide +kernel
theorem dX7_count_198 : decode cX7_count 198 = .ok (.ireturn, 1) := by decide +kernel
theorem dX7_count_199 : decode cX7_count 199 = .ok (.aload_n 0, 1) := by decide +kernel
theorem dX7_count_200 : decode cX7_count 200 = .ok (.getfield 26, 3) := by decide +kernel
theorem dX7_count_203 : decode cX7_count 203 = .ok (.getfield 114, 3) := by decide +kernel
theorem dX7_count_206 : decode cX7_count 206 = .ok (.iconst 3, 1) := by decide +kernel
theorem dX7_count_207 : decode cX7_count 207 = .ok (.iaload, 1) := by decide +kernel
theorem dX7_count_208 : decode cX7_count 208 = .ok (.ireturn, 1) := by decide +kernel
theorem dX7_count_209 : decode cX7_count 209 = .ok (.aload_n 0, 1) := by decide +kernel
theorem dX7_count_210 : decode cX7_count 210 = .ok (.getfield 36, 3) := by decide +kernel
theorem dX7_count_213 : decode cX7_count 213 = .ok (.getfield 160, 3) := by decide +kernel
theorem dX7_count_216 : decode cX7_count 216 = .ok (.ireturn, 1) := by decide +kernel
theorem dX7_count_217 : decode cX7_count 217 = .ok (.aload_n 0, 1) := by decide +kernel
theorem dX7_count_218 : decode cX7_count 218 = .ok (.getfield 10, 3) := by decide +kernel
theorem dX7_count_221 : decode cX7_count 221 = .ok (.getfield 85, 3) := by decide +kernel
theorem dX7_count_224 : decode cX7_count 224 = .ok (.ireturn, 1) := by decide +kernel
theorem dX7_count_225 : decode cX7_count 225 = .ok (.iconst (-1), 1) := by decide +kernel
theorem dX7_count_226 : decode cX7_count 226 = .ok (.ireturn, 1) := by decide +kernel
theorem dX7_isMachine_0 : decode cX7_isMachine 0 = .ok (.iload_n 1, 1) := by decide +kernel
theorem dX7_isMachine_1 : decode cX7_isMachine 1 = .ok (.ifCond .lt 18, 3) := by decide +kernel
theorem dX7_isMachine_4 : decode cX7_isMachine 4 = .ok (.iload_n 1, 1) := by decide +kernel
theorem dX7_isMachine_5 : decode cX7_isMachine 5 = .ok (.aload_n 0, 1) := by decide +kernel
theorem dX7_isMachine_6 : decode cX7_isMachine 6 = .ok (.getfield 19, 3) := by decide +kernel
theorem dX7_isMachine_9 : decode cX7_isMachine 9 = .ok (.getfield 105, 3) := by decide +kernel
theorem dX7_isMachine_12 : decode cX7_isMachine 12 = .ok (.if_icmp .ge 7, 3) := by decide +kernel
theorem dX7_isMachine_15 : decode cX7_isMachine 15 = .ok (.iconst 1, 1) := by decide +kernel
theorem dX7_isMachine_16 : decode cX7_isMachine 16 = .ok (.goto 4, 3) := by decide +kernel
theorem dX7_isMachine_19 : decode cX7_isMachine 19 = .ok (.iconst 0, 1) := by decide +kernel
theorem dX7_isMachine_20 : decode cX7_isMachine 20 = .ok (.ireturn, 1) := by decide +kernel
theorem dX7_isLoad_0 : decode cX7_isLoad 0 = .ok (.iload_n 0, 1) := by decide +kernel
theorem dX7_isLoad_1 : decode cX7_isLoad 1 = .ok (.ifCond .lt 14, 3) := by decide +kernel
theorem dX7_isLoad_4 : decode cX7_isLoad 4 = .ok (.iload_n 0, 1) := by decide +kernel
theorem dX7_isLoad_5 : decode cX7_isLoad 5 = .ok (.sipush 480, 3) := by decide +kernel
theorem dX7_isLoad_8 : decode cX7_isLoad 8 = .ok (.if_icmp .gt 7, 3) := by decide +kernel
theorem dX7_isLoad_11 : decode cX7_isLoad 11 = .ok (.iconst 1, 1) := by decide +kernel
theorem dX7_isLoad_12 : decode cX7_isLoad 12 = .ok (.goto 4, 3) := by decide +kernel
theorem dX7_isLoad_15 : decode cX7_isLoad 15 = .ok (.iconst 0, 1) := by decide +kernel
theorem dX7_isLoad_16 : decode cX7_isLoad 16 = .ok (.ireturn, 1) := by decide +kernel
theorem dX7_bitOf_0 : decode cX7_bitOf 0 = .ok (.iload_n 0, 1) := by decide +kernel
theorem dX7_bitOf_1 : decode cX7_bitOf 1 = .ok (.iload_n 1, 1) := by decide +kernel
theorem dX7_bitOf_2 : decode cX7_bitOf 2 = .ok (.ishr, 1) := by decide +kernel
theorem dX7_bitOf_3 : decode cX7_bitOf 3 = .ok (.iconst 1, 1) := by decide +kernel
theorem dX7_bitOf_4 : decode cX7_bitOf 4 = .ok (.iand, 1) := by decide +kernel
theorem dX7_bitOf_5 : decode cX7_bitOf 5 = .ok (.ireturn, 1) := by decide +kernel
theorem dX7_aboveBest_0 : decode cX7_aboveBest 0 = .ok (.aload_n 0, 1) := by decide +kernel
theorem dX7_aboveBest_1 : decode cX7_aboveBest 1 = .ok (.getfield 59, 3) := by decide +kernel
theorem dX7_aboveBest_4 : decode cX7_aboveBest 4 = .ok (.aload_n 0, 1) := by decide +kernel
theorem dX7_aboveBest_5 : decode cX7_aboveBest 5 = .ok (.getfield 19, 3) := by decide +kernel
theorem dX7_aboveBest_8 : decode cX7_aboveBest 8 = .ok (.invokevirtual 212, 3) := by decide +kernel
theorem dX7_aboveBest_11 : decode cX7_aboveBest 11 = .ok (.aload_n 0, 1) := by decide +kernel
theorem dX7_aboveBest_12 : decode cX7_aboveBest 12 = .ok (.getfield 26, 3) := by decide +kernel
theorem dX7_aboveBest_15 : decode cX7_aboveBest 15 = .ok (.getfield 125, 3) := by decide +kernel
theorem dX7_aboveBest_18 : decode cX7_aboveBest 18 = .ok (.iconst (-1), 1) := by decide +kernel
theorem dX7_aboveBest_19 : decode cX7_aboveBest 19 = .ok (.ixor, 1) := by decide +kernel
theorem dX7_aboveBest_20 : decode cX7_aboveBest 20 = .ok (.iand, 1) := by decide +kernel
theorem dX7_aboveBest_21 : decode cX7_aboveBest 21 = .ok (.aload_n 0, 1) := by decide +kernel
theorem dX7_aboveBest_22 : decode cX7_aboveBest 22 = .ok (.getfield 26, 3) := by decide +kernel
theorem dX7_aboveBest_25 : decode cX7_aboveBest 25 = .ok (.invokevirtual 218, 3) := by decide +kernel
theorem dX7_aboveBest_28 : decode cX7_aboveBest 28 = .ok (.invokevirtual 231, 3) := by decide +kernel
theorem dX7_aboveBest_31 : decode cX7_aboveBest 31 = .ok (.aload_n 0, 1) := by decide +kernel
theorem dX7_aboveBest_32 : decode cX7_aboveBest 32 = .ok (.getfield 59, 3) := by decide +kernel
theorem dX7_aboveBest_35 : decode cX7_aboveBest 35 = .ok (.iload_n 1, 1) := by decide +kernel
theorem dX7_aboveBest_36 : decode cX7_aboveBest 36 = .ok (.invokevirtual 235, 3) := by decide +kernel
theorem dX7_aboveBest_39 : decode cX7_aboveBest 39 = .ok (.ifCond .eq 26, 3) := by decide +kernel
theorem dX7_aboveBest_42 : decode cX7_aboveBest 42 = .ok (.aload_n 0, 1) := by decide +kernel
theorem dX7_aboveBest_43 : decode cX7_aboveBest 43 = .ok (.getfield 45, 3) := by decide +kernel
theorem dX7_aboveBest_46 : decode cX7_aboveBest 46 = .ok (.aload_n 0, 1) := by decide +kernel
theorem dX7_aboveBest_47 : decode cX7_aboveBest 47 = .ok (.getfield 26, 3) := by decide +kernel
theorem dX7_aboveBest_50 : decode cX7_aboveBest 50 = .ok (.invokevirtual 252, 3) := by decide +kernel
theorem dX7_aboveBest_53 : decode cX7_aboveBest 53 = .ok (.aload_n 0, 1) := by decide +kernel
theorem dX7_aboveBest_54 : decode cX7_aboveBest 54 = .ok (.getfield 59, 3) := by decide +kernel
theorem dX7_aboveBest_57 : decode cX7_aboveBest 57 = .ok (.iload_n 1, 1) := by decide +kernel
theorem dX7_aboveBest_58 : decode cX7_aboveBest 58 = .ok (.invokevirtual 241, 3) := by decide +kernel
theorem dX7_aboveBest_61 : decode cX7_aboveBest 61 = .ok (.isub, 1) := by decide +kernel
theorem dX7_aboveBest_62 : decode cX7_aboveBest 62 = .ok (.goto 5, 3) := by decide +kernel
theorem dX7_aboveBest_65 : decode cX7_aboveBest 65 = .ok (.bipush (-4), 2) := by decide +kernel
theorem dX7_aboveBest_67 : decode cX7_aboveBest 67 = .ok (.ireturn, 1) := by decide +kernel
theorem dJ6_bitCount_0f7a4_0 : decode cJ6_bitCount_0f7a4 0 = .ok (.iload_n 0, 1) := by decide +kernel
theorem dJ6_bitCount_0f7a4_1 : decode cJ6_bitCount_0f7a4 1 = .ok (.iload_n 0, 1) := by decide +kernel
theorem dJ6_bitCount_0f7a4_2 : decode cJ6_bitCount_0f7a4 2 = .ok (.iconst 1, 1) := by decide +kernel
theorem dJ6_bitCount_0f7a4_3 : decode cJ6_bitCount_0f7a4 3 = .ok (.iushr, 1) := by decide +kernel
theorem dJ6_bitCount_0f7a4_4 : decode cJ6_bitCount_0f7a4 4 = .ok (.ldc_w 265, 3) := by decide +kernel
theorem dJ6_bitCount_0f7a4_7 : decode cJ6_bitCount_0f7a4 7 = .ok (.iand, 1) := by decide +kernel
theorem dJ6_bitCount_0f7a4_8 : decode cJ6_bitCount_0f7a4 8 = .ok (.isub, 1) := by decide +kernel
theorem dJ6_bitCount_0f7a4_9 : decode cJ6_bitCount_0f7a4 9 = .ok (.istore_n 0, 1) := by decide +kernel
theorem dJ6_bitCount_0f7a4_10 : decode cJ6_bitCount_0f7a4 10 = .ok (.iload_n 0, 1) := by decide +kernel
theorem dJ6_bitCount_0f7a4_11 : decode cJ6_bitCount_0f7a4 11 = .ok (.ldc_w 266, 3) := by decide +kernel
theorem dJ6_bitCount_0f7a4_14 : decode cJ6_bitCount_0f7a4 14 = .ok (.iand, 1) := by decide +kernel
theorem dJ6_bitCount_0f7a4_15 : decode cJ6_bitCount_0f7a4 15 = .ok (.iload_n 0, 1) := by decide +kernel
theorem dJ6_bitCount_0f7a4_16 : decode cJ6_bitCount_0f7a4 16 = .ok (.iconst 2, 1) := by decide +kernel
theorem dJ6_bitCount_0f7a4_17 : decode cJ6_bitCount_0f7a4 17 = .ok (.iushr, 1) := by decide +kernel
theorem dJ6_bitCount_0f7a4_18 : decode cJ6_bitCount_0f7a4 18 = .ok (.ldc_w 266, 3) := by decide +kernel
theorem dJ6_bitCount_0f7a4_21 : decode cJ6_bitCount_0f7a4 21 = .ok (.iand, 1) := by decide +kernel
theorem dJ6_bitCount_0f7a4_22 : decode cJ6_bitCount_0f7a4 22 = .ok (.iadd, 1) := by decide +kernel
theorem dJ6_bitCount_0f7a4_23 : decode cJ6_bitCount_0f7a4 23 = .ok (.istore_n 0, 1) := by decide +kernel
theorem dJ6_bitCount_0f7a4_24 : decode cJ6_bitCount_0f7a4 24 = .ok (.iload_n 0, 1) := by decide +kernel
theorem dJ6_bitCount_0f7a4_25 : decode cJ6_bitCount_0f7a4 25 = .ok (.iload_n 0, 1) := by decide +kernel
theorem dJ6_bitCount_0f7a4_26 : decode cJ6_bitCount_0f7a4 26 = .ok (.iconst 4, 1) := by decide +kernel
theorem dJ6_bitCount_0f7a4_27 : decode cJ6_bitCount_0f7a4 27 = .ok (.iushr, 1) := by decide +kernel
theorem dJ6_bitCount_0f7a4_28 : decode cJ6_bitCount_0f7a4 28 = .ok (.iadd, 1) := by decide +kernel
theorem dJ6_bitCount_0f7a4_29 : decode cJ6_bitCount_0f7a4 29 = .ok (.ldc_w 267, 3) := by decide +kernel
theorem dJ6_bitCount_0f7a4_32 : decode cJ6_bitCount_0f7a4 32 = .ok (.iand, 1) := by decide +kernel
theorem dJ6_bitCount_0f7a4_33 : decode cJ6_bitCount_0f7a4 33 = .ok (.istore_n 0, 1) := by decide +kernel
theorem dJ6_bitCount_0f7a4_34 : decode cJ6_bitCount_0f7a4 34 = .ok (.iload_n 0, 1) := by decide +kernel
theorem dJ6_bitCount_0f7a4_35 : decode cJ6_bitCount_0f7a4 35 = .ok (.iload_n 0, 1) := by decide +kernel
theorem dJ6_bitCount_0f7a4_36 : decode cJ6_bitCount_0f7a4 36 = .ok (.bipush 8, 2) := by decide +kernel
theorem dJ6_bitCount_0f7a4_38 : decode cJ6_bitCount_0f7a4 38 = .ok (.iushr, 1) := by decide +kernel
theorem dJ6_bitCount_0f7a4_39 : decode cJ6_bitCount_0f7a4 39 = .ok (.iadd, 1) := by decide +kernel
theorem dJ6_bitCount_0f7a4_40 : decode cJ6_bitCount_0f7a4 40 = .ok (.istore_n 0, 1) := by decide +kernel
theorem dJ6_bitCount_0f7a4_41 : decode cJ6_bitCount_0f7a4 41 = .ok (.iload_n 0, 1) := by decide +kernel
theorem dJ6_bitCount_0f7a4_42 : decode cJ6_bitCount_0f7a4 42 = .ok (.iload_n 0, 1) := by decide +kernel
theorem dJ6_bitCount_0f7a4_43 : decode cJ6_bitCount_0f7a4 43 = .ok (.bipush 16, 2) := by decide +kernel
theorem dJ6_bitCount_0f7a4_45 : decode cJ6_bitCount_0f7a4 45 = .ok (.iushr, 1) := by decide +kernel
theorem dJ6_bitCount_0f7a4_46 : decode cJ6_bitCount_0f7a4 46 = .ok (.iadd, 1) := by decide +kernel
theorem dJ6_bitCount_0f7a4_47 : decode cJ6_bitCount_0f7a4 47 = .ok (.istore_n 0, 1) := by decide +kernel
theorem dJ6_bitCount_0f7a4_48 : decode cJ6_bitCount_0f7a4 48 = .ok (.iload_n 0, 1) := by decide +kernel
theorem dJ6_bitCount_0f7a4_49 : decode cJ6_bitCount_0f7a4 49 = .ok (.bipush 63, 2) := by decide +kernel
theorem dJ6_bitCount_0f7a4_51 : decode cJ6_bitCount_0f7a4 51 = .ok (.iand, 1) := by decide +kernel
theorem dJ6_bitCount_0f7a4_52 : decode cJ6_bitCount_0f7a4 52 = .ok (.ireturn, 1) := by decide +kernel
theorem dJ9_floorMod_7cf53_0 : decode cJ9_floorMod_7cf53 0 = .ok (.iload_n 0, 1) := by decide +kernel
theorem dJ9_floorMod_7cf53_1 : decode cJ9_floorMod_7cf53 1 = .ok (.iload_n 1, 1) := by decide +kernel
theorem dJ9_floorMod_7cf53_2 : decode cJ9_floorMod_7cf53 2 = .ok (.irem, 1) := by decide +kernel
theorem dJ9_floorMod_7cf53_3 : decode cJ9_floorMod_7cf53 3 = .ok (.istore_n 2, 1) := by decide +kernel
theorem dJ9_floorMod_7cf53_4 : decode cJ9_floorMod_7cf53 4 = .ok (.iload_n 0, 1) := by decide +kernel
theorem dJ9_floorMod_7cf53_5 : decode cJ9_floorMod_7cf53 5 = .ok (.iload_n 1, 1) := by decide +kernel
theorem dJ9_floorMod_7cf53_6 : decode cJ9_floorMod_7cf53 6 = .ok (.ixor, 1) := by decide +kernel
theorem dJ9_floorMod_7cf53_7 : decode cJ9_floorMod_7cf53 7 = .ok (.ifCond .ge 11, 3) := by decide +kernel
theorem dJ9_floorMod_7cf53_10 : decode cJ9_floorMod_7cf53 10 = .ok (.iload_n 2, 1) := by decide +kernel
theorem dJ9_floorMod_7cf53_11 : decode cJ9_floorMod_7cf53 11 = .ok (.ifCond .eq 7, 3) := by decide +kernel
theorem dJ9_floorMod_7cf53_14 : decode cJ9_floorMod_7cf53 14 = .ok (.iload_n 2, 1) := by decide +kernel
theorem dJ9_floorMod_7cf53_15 : decode cJ9_floorMod_7cf53 15 = .ok (.iload_n 1, 1) := by decide +kernel
theorem dJ9_floorMod_7cf53_16 : decode cJ9_floorMod_7cf53 16 = .ok (.iadd, 1) := by decide +kernel
theorem dJ9_floorMod_7cf53_17 : decode cJ9_floorMod_7cf53 17 = .ok (.ireturn, 1) := by decide +kernel
theorem dJ9_floorMod_7cf53_18 : decode cJ9_floorMod_7cf53 18 = .ok (.iload_n 2, 1) := by decide +kernel
theorem dJ9_floorMod_7cf53_19 : decode cJ9_floorMod_7cf53 19 = .ok (.ireturn, 1) := by decide +kernel
theorem dJ7_fill_53178_0 : decode cJ7_fill_53178 0 = .ok (.iconst 0, 1) := by decide +kernel
theorem dJ7_fill_53178_1 : decode cJ7_fill_53178 1 = .ok (.istore_n 2, 1) := by decide +kernel
theorem dJ7_fill_53178_2 : decode cJ7_fill_53178 2 = .ok (.aload_n 0, 1) := by decide +kernel
theorem dJ7_fill_53178_3 : decode cJ7_fill_53178 3 = .ok (.arraylength, 1) := by decide +kernel
theorem dJ7_fill_53178_4 : decode cJ7_fill_53178 4 = .ok (.istore_n 3, 1) := by decide +kernel
theorem dJ7_fill_53178_5 : decode cJ7_fill_53178 5 = .ok (.iload_n 2, 1) := by decide +kernel
theorem dJ7_fill_53178_6 : decode cJ7_fill_53178 6 = .ok (.iload_n 3, 1) := by decide +kernel
theorem dJ7_fill_53178_7 : decode cJ7_fill_53178 7 = .ok (.if_icmp .ge 13, 3) := by decide +kernel
theorem dJ7_fill_53178_10 : decode cJ7_fill_53178 10 = .ok (.aload_n 0, 1) := by decide +kernel
theorem dJ7_fill_53178_11 : decode cJ7_fill_53178 11 = .ok (.iload_n 2, 1) := by decide +kernel
theorem dJ7_fill_53178_12 : decode cJ7_fill_53178 12 = .ok (.iload_n 1, 1) := by decide +kernel
theorem dJ7_fill_53178_13 : decode cJ7_fill_53178 13 = .ok (.iastore, 1) := by decide +kernel
theorem dJ7_fill_53178_14 : decode cJ7_fill_53178 14 = .ok (.iinc 2 1, 3) := by decide +kernel
theorem dJ7_fill_53178_17 : decode cJ7_fill_53178 17 = .ok (.goto (-12), 3) := by decide +kernel
theorem dJ7_fill_53178_20 : decode cJ7_fill_53178 20 = .ok (.return_, 1) := by decide +kernel
theorem dJ0_length_8abf5_0 : decode cJ0_length_8abf5 0 = .ok (.aload_n 0, 1) := by decide +kernel
theorem dJ0_length_8abf5_1 : decode cJ0_length_8abf5 1 = .ok (.getfield 9, 3) := by decide +kernel
theorem dJ0_length_8abf5_4 : decode cJ0_length_8abf5 4 = .ok (.arraylength, 1) := by decide +kernel
theorem dJ0_length_8abf5_5 : decode cJ0_length_8abf5 5 = .ok (.aload_n 0, 1) := by decide +kernel
theorem dJ0_length_8abf5_6 : decode cJ0_length_8abf5 6 = .ok (.invokevirtual 335, 3) := by decide +kernel
theorem dJ0_length_8abf5_9 : decode cJ0_length_8abf5 9 = .ok (.ishr, 1) := by decide +kernel
theorem dJ0_length_8abf5_10 : decode cJ0_length_8abf5 10 = .ok (.ireturn, 1) := by decide +kernel
theorem dJ0_charAt_5068e_0 : decode cJ0_charAt_5068e 0 = .ok (.aload_n 0, 1) := by decide +kernel
theorem dJ0_charAt_5068e_1 : decode cJ0_charAt_5068e 1 = .ok (.invokevirtual 492, 3) := by decide +kernel
theorem dJ0_charAt_5068e_4 : decode cJ0_charAt_5068e 4 = .ok (.ifCond .eq 12, 3) := by decide +kernel
theorem dJ0_charAt_5068e_7 : decode cJ0_charAt_5068e 7 = .ok (.aload_n 0, 1) := by decide +kernel
theorem dJ0_charAt_5068e_8 : decode cJ0_charAt_5068e 8 = .ok (.getfield 9, 3) := by decide +kernel
theorem dJ0_charAt_5068e_11 : decode cJ0_charAt_5068e 11 = .ok (.iload_n 1, 1) := by decide +kernel
theorem dJ0_charAt_5068e_12 : decode cJ0_charAt_5068e 12 = .ok (.invokestatic 495, 3) := by decide +kernel
theorem dJ0_charAt_5068e_15 : decode cJ0_charAt_5068e 15 = .ok (.ireturn, 1) := by decide +kernel
theorem dJ0_charAt_5068e_16 : decode cJ0_charAt_5068e 16 = .ok (.aload_n 0, 1) := by decide +kernel
theorem dJ0_charAt_5068e_17 : decode cJ0_charAt_5068e 17 = .ok (.getfield 9, 3) := by decide +kernel
theorem dJ0_charAt_5068e_20 : decode cJ0_charAt_5068e 20 = .ok (.iload_n 1, 1) := by decide +kernel
theorem dJ0_charAt_5068e_21 : decode cJ0_charAt_5068e 21 = .ok (.invokestatic 498, 3) := by decide +kernel
theorem dJ0_charAt_5068e_24 : decode cJ0_charAt_5068e 24 = .ok (.ireturn, 1) := by decide +kernel
theorem dJ0_coder_7d493_0 : decode cJ0_coder_7d493 0 = .ok (.getstatic 38, 3) := by decide +kernel
theorem dJ0_coder_7d493_3 : decode cJ0_coder_7d493 3 = .ok (.ifCond .eq 10, 3) := by decide +kernel
theorem dJ0_coder_7d493_6 : decode cJ0_coder_7d493 6 = .ok (.aload_n 0, 1) := by decide +kernel
theorem dJ0_coder_7d493_7 : decode cJ0_coder_7d493 7 = .ok (.getfield 15, 3) := by decide +kernel
theorem dJ0_coder_7d493_10 : decode cJ0_coder_7d493 10 = .ok (.goto 4, 3) := by decide +kernel
theorem dJ0_coder_7d493_13 : decode cJ0_coder_7d493 13 = .ok (.iconst 1, 1) := by decide +kernel
theorem dJ0_coder_7d493_14 : decode cJ0_coder_7d493 14 = .ok (.ireturn, 1) := by decide +kernel
theorem dJ0_isLatin1_aae02_0 : decode cJ0_isLatin1_aae02 0 = .ok (.getstatic 38, 3) := by decide +kernel
theorem dJ0_isLatin1_aae02_3 : decode cJ0_isLatin1_aae02 3 = .ok (.ifCond .eq 14, 3) := by decide +kernel
theorem dJ0_isLatin1_aae02_6 : decode cJ0_isLatin1_aae02 6 = .ok (.aload_n 0, 1) := by decide +kernel
theorem dJ0_isLatin1_aae02_7 : decode cJ0_isLatin1_aae02 7 = .ok (.getfield 15, 3) := by decide +kernel
theorem dJ0_isLatin1_aae02_10 : decode cJ0_isLatin1_aae02 10 = .ok (.ifCond .ne 7, 3) := by decide +kernel
theorem dJ0_isLatin1_aae02_13 : decode cJ0_isLatin1_aae02 13 = .ok (.iconst 1, 1) := by decide +kernel
theorem dJ0_isLatin1_aae02_14 : decode cJ0_isLatin1_aae02 14 = .ok (.goto 4, 3) := by decide +kernel
theorem dJ0_isLatin1_aae02_17 : decode cJ0_isLatin1_aae02 17 = .ok (.iconst 0, 1) := by decide +kernel
theorem dJ0_isLatin1_aae02_18 : decode cJ0_isLatin1_aae02 18 = .ok (.ireturn, 1) := by decide +kernel
theorem dJ0_checkIndex_df160_0 : decode cJ0_checkIndex_df160 0 = .ok (.iload_n 0, 1) := by decide +kernel
theorem dJ0_checkIndex_df160_1 : decode cJ0_checkIndex_df160 1 = .ok (.iload_n 1, 1) := by decide +kernel
theorem dJ0_checkIndex_df160_2 : decode cJ0_checkIndex_df160 2 = .ok (.getstatic 1053, 3) := by decide +kernel
theorem dJ0_checkIndex_df160_5 : decode cJ0_checkIndex_df160 5 = .ok (.invokestatic 1059, 3) := by decide +kernel
theorem dJ0_checkIndex_df160_8 : decode cJ0_checkIndex_df160 8 = .ok (.pop, 1) := by decide +kernel
theorem dJ0_checkIndex_df160_9 : decode cJ0_checkIndex_df160 9 = .ok (.return_, 1) := by decide +kernel
theorem dJ1_charAt_3b067_0 : decode cJ1_charAt_3b067 0 = .ok (.iload_n 1, 1) := by decide +kernel
theorem dJ1_charAt_3b067_1 : decode cJ1_charAt_3b067 1 = .ok (.aload_n 0, 1) := by decide +kernel
theorem dJ1_charAt_3b067_2 : decode cJ1_charAt_3b067 2 = .ok (.arraylength, 1) := by decide +kernel
theorem dJ1_charAt_3b067_3 : decode cJ1_charAt_3b067 3 = .ok (.invokestatic 9, 3) := by decide +kernel
theorem dJ1_charAt_3b067_6 : decode cJ1_charAt_3b067 6 = .ok (.aload_n 0, 1) := by decide +kernel
theorem dJ1_charAt_3b067_7 : decode cJ1_charAt_3b067 7 = .ok (.iload_n 1, 1) := by decide +kernel
theorem dJ1_charAt_3b067_8 : decode cJ1_charAt_3b067 8 = .ok (.baload, 1) := by decide +kernel
theorem dJ1_charAt_3b067_9 : decode cJ1_charAt_3b067 9 = .ok (.sipush 255, 3) := by decide +kernel
theorem dJ1_charAt_3b067_12 : decode cJ1_charAt_3b067 12 = .ok (.iand, 1) := by decide +kernel
theorem dJ1_charAt_3b067_13 : decode cJ1_charAt_3b067 13 = .ok (.i2c, 1) := by decide +kernel
theorem dJ1_charAt_3b067_14 : decode cJ1_charAt_3b067 14 = .ok (.ireturn, 1) := by decide +kernel
theorem dJ3_checkIndex_8e157_0 : decode cJ3_checkIndex_8e157 0 = .ok (.iload_n 0, 1) := by decide +kernel
theorem dJ3_checkIndex_8e157_1 : decode cJ3_checkIndex_8e157 1 = .ok (.ifCond .lt 8, 3) := by decide +kernel
theorem dJ3_checkIndex_8e157_4 : decode cJ3_checkIndex_8e157 4 = .ok (.iload_n 0, 1) := by decide +kernel
theorem dJ3_checkIndex_8e157_5 : decode cJ3_checkIndex_8e157 5 = .ok (.iload_n 1, 1) := by decide +kernel
theorem dJ3_checkIndex_8e157_6 : decode cJ3_checkIndex_8e157 6 = .ok (.if_icmp .lt 10, 3) := by decide +kernel
theorem dJ3_checkIndex_8e157_9 : decode cJ3_checkIndex_8e157 9 = .ok (.aload_n 2, 1) := by decide +kernel
theorem dJ3_checkIndex_8e157_10 : decode cJ3_checkIndex_8e157 10 = .ok (.iload_n 0, 1) := by decide +kernel
theorem dJ3_checkIndex_8e157_11 : decode cJ3_checkIndex_8e157 11 = .ok (.iload_n 1, 1) := by decide +kernel
theorem dJ3_checkIndex_8e157_12 : decode cJ3_checkIndex_8e157 12 = .ok (.invokestatic 95, 3) := by decide +kernel
theorem dJ3_checkIndex_8e157_15 : decode cJ3_checkIndex_8e157 15 = .ok (.athrow, 1) := by decide +kernel
theorem dJ3_checkIndex_8e157_16 : decode cJ3_checkIndex_8e157 16 = .ok (.iload_n 0, 1) := by decide +kernel
theorem dJ3_checkIndex_8e157_17 : decode cJ3_checkIndex_8e157 17 = .ok (.ireturn, 1) := by decide +kernel
