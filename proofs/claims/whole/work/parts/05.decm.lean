theorem dX8_init_0 : decode cX8_init 0 = .ok (.aload_n 0, 1) := by decide +kernel
theorem dX8_init_1 : decode cX8_init 1 = .ok (.invokespecial 1, 3) := by decide +kernel
theorem dX8_init_4 : decode cX8_init 4 = .ok (.aload_n 0, 1) := by decide +kernel
theorem dX8_init_5 : decode cX8_init 5 = .ok (.sipush 200, 3) := by decide +kernel
theorem dX8_init_8 : decode cX8_init 8 = .ok (.newarray .int, 2) := by decide +kernel
theorem dX8_init_10 : decode cX8_init 10 = .ok (.putfield 7, 3) := by decide +kernel
theorem dX8_init_13 : decode cX8_init 13 = .ok (.aload_n 0, 1) := by decide +kernel
theorem dX8_init_14 : decode cX8_init 14 = .ok (.bipush 44, 2) := by decide +kernel
theorem dX8_init_16 : decode cX8_init 16 = .ok (.newarray .int, 2) := by decide +kernel
theorem dX8_init_18 : decode cX8_init 18 = .ok (.putfield 13, 3) := by decide +kernel
theorem dX8_init_21 : decode cX8_init 21 = .ok (.aload_n 0, 1) := by decide +kernel
theorem dX8_init_22 : decode cX8_init 22 = .ok (.bipush 44, 2) := by decide +kernel
theorem dX8_init_24 : decode cX8_init 24 = .ok (.newarray .int, 2) := by decide +kernel
theorem dX8_init_26 : decode cX8_init 26 = .ok (.putfield 16, 3) := by decide +kernel
theorem dX8_init_29 : decode cX8_init 29 = .ok (.aload_n 0, 1) := by decide +kernel
theorem dX8_init_30 : decode cX8_init 30 = .ok (.bipush 101, 2) := by decide +kernel
theorem dX8_init_32 : decode cX8_init 32 = .ok (.newarray .int, 2) := by decide +kernel
theorem dX8_init_34 : decode cX8_init 34 = .ok (.putfield 19, 3) := by decide +kernel
theorem dX8_init_37 : decode cX8_init 37 = .ok (.aload_n 0, 1) := by decide +kernel
theorem dX8_init_38 : decode cX8_init 38 = .ok (.bipush 101, 2) := by decide +kernel
theorem dX8_init_40 : decode cX8_init 40 = .ok (.newarray .int, 2) := by decide +kernel
theorem dX8_init_42 : decode cX8_init 42 = .ok (.putfield 22, 3) := by decide +kernel
theorem dX8_init_45 : decode cX8_init 45 = .ok (.aload_n 0, 1) := by decide +kernel
theorem dX8_init_46 : decode cX8_init 46 = .ok (.sipush 404, 3) := by decide +kernel
theorem dX8_init_49 : decode cX8_init 49 = .ok (.newarray .int, 2) := by decide +kernel
theorem dX8_init_51 : decode cX8_init 51 = .ok (.putfield 25, 3) := by decide +kernel
theorem dX8_init_54 : decode cX8_init 54 = .ok (.aload_n 0, 1) := by decide +kernel
theorem dX8_init_55 : decode cX8_init 55 = .ok (.bipush 6, 2) := by decide +kernel
theorem dX8_init_57 : decode cX8_init 57 = .ok (.newarray .int, 2) := by decide +kernel
theorem dX8_init_59 : decode cX8_init 59 = .ok (.putfield 28, 3) := by decide +kernel
theorem dX8_init_62 : decode cX8_init 62 = .ok (.aload_n 0, 1) := by decide +kernel
theorem dX8_init_63 : decode cX8_init 63 = .ok (.sipush 15392, 3) := by decide +kernel
theorem dX8_init_66 : decode cX8_init 66 = .ok (.newarray .int, 2) := by decide +kernel
theorem dX8_init_68 : decode cX8_init 68 = .ok (.putfield 31, 3) := by decide +kernel
theorem dX8_init_71 : decode cX8_init 71 = .ok (.aload_n 0, 1) := by decide +kernel
theorem dX8_init_72 : decode cX8_init 72 = .ok (.bipush 6, 2) := by decide +kernel
theorem dX8_init_74 : decode cX8_init 74 = .ok (.newarray .int, 2) := by decide +kernel
theorem dX8_init_76 : decode cX8_init 76 = .ok (.putfield 34, 3) := by decide +kernel
theorem dX8_init_79 : decode cX8_init 79 = .ok (.aload_n 0, 1) := by decide +kernel
theorem dX8_init_80 : decode cX8_init 80 = .ok (.invokevirtual 37, 3) := by decide +kernel
theorem dX8_init_83 : decode cX8_init 83 = .ok (.aload_n 0, 1) := by decide +kernel
theorem dX8_init_84 : decode cX8_init 84 = .ok (.bipush 10, 2) := by decide +kernel
theorem dX8_init_86 : decode cX8_init 86 = .ok (.bipush 40, 2) := by decide +kernel
theorem dX8_init_88 : decode cX8_init 88 = .ok (.bipush 20, 2) := by decide +kernel
theorem dX8_init_90 : decode cX8_init 90 = .ok (.bipush 9, 2) := by decide +kernel
theorem dX8_init_92 : decode cX8_init 92 = .ok (.bipush 30, 2) := by decide +kernel
theorem dX8_init_94 : decode cX8_init 94 = .ok (.bipush 12, 2) := by decide +kernel
theorem dX8_init_96 : decode cX8_init 96 = .ok (.invokevirtual 40, 3) := by decide +kernel
theorem dX8_init_99 : decode cX8_init 99 = .ok (.aload_n 0, 1) := by decide +kernel
theorem dX8_init_100 : decode cX8_init 100 = .ok (.bipush 10, 2) := by decide +kernel
theorem dX8_init_102 : decode cX8_init 102 = .ok (.bipush 40, 2) := by decide +kernel
theorem dX8_init_104 : decode cX8_init 104 = .ok (.bipush 25, 2) := by decide +kernel
theorem dX8_init_106 : decode cX8_init 106 = .ok (.bipush 8, 2) := by decide +kernel
theorem dX8_init_108 : decode cX8_init 108 = .ok (.bipush 20, 2) := by decide +kernel
theorem dX8_init_110 : decode cX8_init 110 = .ok (.bipush 12, 2) := by decide +kernel
theorem dX8_init_112 : decode cX8_init 112 = .ok (.invokevirtual 40, 3) := by decide +kernel
theorem dX8_init_115 : decode cX8_init 115 = .ok (.aload_n 0, 1) := by decide +kernel
theorem dX8_init_116 : decode cX8_init 116 = .ok (.iconst 5, 1) := by decide +kernel
theorem dX8_init_117 : decode cX8_init 117 = .ok (.bipush 20, 2) := by decide +kernel
theorem dX8_init_119 : decode cX8_init 119 = .ok (.bipush 8, 2) := by decide +kernel
theorem dX8_init_121 : decode cX8_init 121 = .ok (.bipush 12, 2) := by decide +kernel
theorem dX8_init_123 : decode cX8_init 123 = .ok (.bipush 40, 2) := by decide +kernel
theorem dX8_init_125 : decode cX8_init 125 = .ok (.bipush 6, 2) := by decide +kernel
theorem dX8_init_127 : decode cX8_init 127 = .ok (.invokevirtual 40, 3) := by decide +kernel
theorem dX8_init_130 : decode cX8_init 130 = .ok (.aload_n 0, 1) := by decide +kernel
theorem dX8_init_131 : decode cX8_init 131 = .ok (.bipush 20, 2) := by decide +kernel
theorem dX8_init_133 : decode cX8_init 133 = .ok (.bipush 60, 2) := by decide +kernel
theorem dX8_init_135 : decode cX8_init 135 = .ok (.bipush 40, 2) := by decide +kernel
theorem dX8_init_137 : decode cX8_init 137 = .ok (.bipush 7, 2) := by decide +kernel
theorem dX8_init_139 : decode cX8_init 139 = .ok (.bipush 15, 2) := by decide +kernel
theorem dX8_init_141 : decode cX8_init 141 = .ok (.bipush 20, 2) := by decide +kernel
theorem dX8_init_143 : decode cX8_init 143 = .ok (.invokevirtual 40, 3) := by decide +kernel
theorem dX8_init_146 : decode cX8_init 146 = .ok (.aload_n 0, 1) := by decide +kernel
theorem dX8_init_147 : decode cX8_init 147 = .ok (.invokevirtual 44, 3) := by decide +kernel
theorem dX8_init_150 : decode cX8_init 150 = .ok (.return_, 1) := by decide +kernel
theorem dX8_in_0 : decode cX8_in 0 = .ok (.iload_n 0, 1) := by decide +kernel
theorem dX8_in_1 : decode cX8_in 1 = .ok (.iload_n 1, 1) := by decide +kernel
theorem dX8_in_2 : decode cX8_in 2 = .ok (.if_icmp .lt 12, 3) := by decide +kernel
theorem dX8_in_5 : decode cX8_in 5 = .ok (.iload_n 0, 1) := by decide +kernel
theorem dX8_in_6 : decode cX8_in 6 = .ok (.iload_n 2, 1) := by decide +kernel
theorem dX8_in_7 : decode cX8_in 7 = .ok (.if_icmp .gt 7, 3) := by decide +kernel
theorem dX8_in_10 : decode cX8_in 10 = .ok (.iconst 1, 1) := by decide +kernel
theorem dX8_in_11 : decode cX8_in 11 = .ok (.goto 4, 3) := by decide +kernel
theorem dX8_in_14 : decode cX8_in 14 = .ok (.iconst 0, 1) := by decide +kernel
theorem dX8_in_15 : decode cX8_in 15 = .ok (.ireturn, 1) := by decide +kernel
theorem dX8_beginRead_0 : decode cX8_beginRead 0 = .ok (.iconst 0, 1) := by decide +kernel
theorem dX8_beginRead_1 : decode cX8_beginRead 1 = .ok (.istore_n 1, 1) := by decide +kernel
theorem dX8_beginRead_2 : decode cX8_beginRead 2 = .ok (.iload_n 1, 1) := by decide +kernel
theorem dX8_beginRead_3 : decode cX8_beginRead 3 = .ok (.bipush 44, 2) := by decide +kernel
theorem dX8_beginRead_5 : decode cX8_beginRead 5 = .ok (.if_icmp .ge 16, 3) := by decide +kernel
theorem dX8_beginRead_8 : decode cX8_beginRead 8 = .ok (.aload_n 0, 1) := by decide +kernel
theorem dX8_beginRead_9 : decode cX8_beginRead 9 = .ok (.getfield 13, 3) := by decide +kernel
theorem dX8_beginRead_12 : decode cX8_beginRead 12 = .ok (.iload_n 1, 1) := by decide +kernel
theorem dX8_beginRead_13 : decode cX8_beginRead 13 = .ok (.iconst 0, 1) := by decide +kernel
theorem dX8_beginRead_14 : decode cX8_beginRead 14 = .ok (.iastore, 1) := by decide +kernel
theorem dX8_beginRead_15 : decode cX8_beginRead 15 = .ok (.iinc 1 1, 3) := by decide +kernel
theorem dX8_beginRead_18 : decode cX8_beginRead 18 = .ok (.goto (-16), 3) := by decide +kernel
theorem dX8_beginRead_21 : decode cX8_beginRead 21 = .ok (.aload_n 0, 1) := by decide +kernel
theorem dX8_beginRead_22 : decode cX8_beginRead 22 = .ok (.getfield 13, 3) := by decide +kernel
theorem dX8_beginRead_25 : decode cX8_beginRead 25 = .ok (.bipush 37, 2) := by decide +kernel
theorem dX8_beginRead_27 : decode cX8_beginRead 27 = .ok (.iconst 5, 1) := by decide +kernel
theorem dX8_beginRead_28 : decode cX8_beginRead 28 = .ok (.iastore, 1) := by decide +kernel
theorem dX8_beginRead_29 : decode cX8_beginRead 29 = .ok (.aload_n 0, 1) := by decide +kernel
theorem dX8_beginRead_30 : decode cX8_beginRead 30 = .ok (.getfield 13, 3) := by decide +kernel
theorem dX8_beginRead_33 : decode cX8_beginRead 33 = .ok (.bipush 38, 2) := by decide +kernel
theorem dX8_beginRead_35 : decode cX8_beginRead 35 = .ok (.iconst 3, 1) := by decide +kernel
theorem dX8_beginRead_36 : decode cX8_beginRead 36 = .ok (.iastore, 1) := by decide +kernel
theorem dX8_beginRead_37 : decode cX8_beginRead 37 = .ok (.aload_n 0, 1) := by decide +kernel
theorem dX8_beginRead_38 : decode cX8_beginRead 38 = .ok (.getfield 13, 3) := by decide +kernel
theorem dX8_beginRead_41 : decode cX8_beginRead 41 = .ok (.bipush 39, 2) := by decide +kernel
theorem dX8_beginRead_43 : decode cX8_beginRead 43 = .ok (.iconst 3, 1) := by decide +kernel
theorem dX8_beginRead_44 : decode cX8_beginRead 44 = .ok (.iastore, 1) := by decide +kernel
theorem dX8_beginRead_45 : decode cX8_beginRead 45 = .ok (.aload_n 0, 1) := by decide +kernel
theorem dX8_beginRead_46 : decode cX8_beginRead 46 = .ok (.getfield 13, 3) := by decide +kernel
theorem dX8_beginRead_49 : decode cX8_beginRead 49 = .ok (.bipush 40, 2) := by decide +kernel
theorem dX8_beginRead_51 : decode cX8_beginRead 51 = .ok (.iconst 1, 1) := by decide +kernel
theorem dX8_beginRead_52 : decode cX8_beginRead 52 = .ok (.iastore, 1) := by decide +kernel
theorem dX8_beginRead_53 : decode cX8_beginRead 53 = .ok (.aload_n 0, 1) := by decide +kernel
theorem dX8_beginRead_54 : decode cX8_beginRead 54 = .ok (.getfield 13, 3) := by decide +kernel
theorem dX8_beginRead_57 : decode cX8_beginRead 57 = .ok (.bipush 41, 2) := by decide +kernel
theorem dX8_beginRead_59 : decode cX8_beginRead 59 = .ok (.bipush 90, 2) := by decide +kernel
theorem dX8_beginRead_61 : decode cX8_beginRead 61 = .ok (.iastore, 1) := by decide +kernel
theorem dX8_beginRead_62 : decode cX8_beginRead 62 = .ok (.aload_n 0, 1) := by decide +kernel
theorem dX8_beginRead_63 : decode cX8_beginRead 63 = .ok (.getfield 13, 3) := by decide +kernel
theorem dX8_beginRead_66 : decode cX8_beginRead 66 = .ok (.bipush 42, 2) := by decide +kernel
theorem dX8_beginRead_68 : decode cX8_beginRead 68 = .ok (.bipush 60, 2) := by decide +kernel
theorem dX8_beginRead_70 : decode cX8_beginRead 70 = .ok (.iastore, 1) := by decide +kernel
theorem dX8_beginRead_71 : decode cX8_beginRead 71 = .ok (.aload_n 0, 1) := by decide +kernel
theorem dX8_beginRead_72 : decode cX8_beginRead 72 = .ok (.getfield 13, 3) := by decide +kernel
theorem dX8_beginRead_75 : decode cX8_beginRead 75 = .ok (.bipush 43, 2) := by decide +kernel
theorem dX8_beginRead_77 : decode cX8_beginRead 77 = .ok (.iconst 2, 1) := by decide +kernel
theorem dX8_beginRead_78 : decode cX8_beginRead 78 = .ok (.iastore, 1) := by decide +kernel
theorem dX8_beginRead_79 : decode cX8_beginRead 79 = .ok (.return_, 1) := by decide +kernel
theorem dX8_putMachine_0 : decode cX8_putMachine 0 = .ok (.bipush 6, 2) := by decide +kernel
theorem dX8_putMachine_2 : decode cX8_putMachine 2 = .ok (.aload_n 0, 1) := by decide +kernel
theorem dX8_putMachine_3 : decode cX8_putMachine 3 = .ok (.getfield 13, 3) := by decide +kernel
theorem dX8_putMachine_6 : decode cX8_putMachine 6 = .ok (.bipush 36, 2) := by decide +kernel
theorem dX8_putMachine_8 : decode cX8_putMachine 8 = .ok (.iaload, 1) := by decide +kernel
theorem dX8_putMachine_9 : decode cX8_putMachine 9 = .ok (.imul, 1) := by decide +kernel
theorem dX8_putMachine_10 : decode cX8_putMachine 10 = .ok (.istore 7, 2) := by decide +kernel
theorem dX8_putMachine_12 : decode cX8_putMachine 12 = .ok (.aload_n 0, 1) := by decide +kernel
theorem dX8_putMachine_13 : decode cX8_putMachine 13 = .ok (.getfield 13, 3) := by decide +kernel
theorem dX8_putMachine_16 : decode cX8_putMachine 16 = .ok (.iload 7, 2) := by decide +kernel
theorem dX8_putMachine_18 : decode cX8_putMachine 18 = .ok (.iload_n 1, 1) := by decide +kernel
theorem dX8_putMachine_19 : decode cX8_putMachine 19 = .ok (.iastore, 1) := by decide +kernel
theorem dX8_putMachine_20 : decode cX8_putMachine 20 = .ok (.aload_n 0, 1) := by decide +kernel
theorem dX8_putMachine_21 : decode cX8_putMachine 21 = .ok (.getfield 13, 3) := by decide +kernel
theorem dX8_putMachine_24 : decode cX8_putMachine 24 = .ok (.iload 7, 2) := by decide +kernel
theorem dX8_putMachine_26 : decode cX8_putMachine 26 = .ok (.iconst 1, 1) := by decide +kernel
theorem dX8_putMachine_27 : decode cX8_putMachine 27 = .ok (.iadd, 1) := by decide +kernel
theorem dX8_putMachine_28 : decode cX8_putMachine 28 = .ok (.iload_n 2, 1) := by decide +kernel
theorem dX8_putMachine_29 : decode cX8_putMachine 29 = .ok (.iastore, 1) := by decide +kernel
theorem dX8_putMachine_30 : decode cX8_putMachine 30 = .ok (.aload_n 0, 1) := by decide +kernel
theorem dX8_putMachine_31 : decode cX8_putMachine 31 = .ok (.getfield 13, 3) := by decide +kernel
theorem dX8_putMachine_34 : decode cX8_putMachine 34 = .ok (.iload 7, 2) := by decide +kernel
theorem dX8_putMachine_36 : decode cX8_putMachine 36 = .ok (.iconst 2, 1) := by decide +kernel
theorem dX8_putMachine_37 : decode cX8_putMachine 37 = .ok (.iadd, 1) := by decide +kernel
theorem dX8_putMachine_38 : decode cX8_putMachine 38 = .ok (.iload_n 3, 1) := by decide +kernel
theorem dX8_putMachine_39 : decode cX8_putMachine 39 = .ok (.iastore, 1) := by decide +kernel
theorem dX8_putMachine_40 : decode cX8_putMachine 40 = .ok (.aload_n 0, 1) := by decide +kernel
theorem dX8_putMachine_41 : decode cX8_putMachine 41 = .ok (.getfield 13, 3) := by decide +kernel
theorem dX8_putMachine_44 : decode cX8_putMachine 44 = .ok (.iload 7, 2) := by decide +kernel
theorem dX8_putMachine_46 : decode cX8_putMachine 46 = .ok (.iconst 3, 1) := by decide +kernel
theorem dX8_putMachine_47 : decode cX8_putMachine 47 = .ok (.iadd, 1) := by decide +kernel
theorem dX8_putMachine_48 : decode cX8_putMachine 48 = .ok (.iload 4, 2) := by decide +kernel
theorem dX8_putMachine_50 : decode cX8_putMachine 50 = .ok (.iastore, 1) := by decide +kernel
theorem dX8_putMachine_51 : decode cX8_putMachine 51 = .ok (.aload_n 0, 1) := by decide +kernel
theorem dX8_putMachine_52 : decode cX8_putMachine 52 = .ok (.getfield 13, 3) := by decide +kernel
theorem dX8_putMachine_55 : decode cX8_putMachine 55 = .ok (.iload 7, 2) := by decide +kernel
theorem dX8_putMachine_57 : decode cX8_putMachine 57 = .ok (.iconst 4, 1) := by decide +kernel
theorem dX8_putMachine_58 : decode cX8_putMachine 58 = .ok (.iadd, 1) := by decide +kernel
theorem dX8_putMachine_59 : decode cX8_putMachine 59 = .ok (.iload 5, 2) := by decide +kernel
theorem dX8_putMachine_61 : decode cX8_putMachine 61 = .ok (.iastore, 1) := by decide +kernel
theorem dX8_putMachine_62 : decode cX8_putMachine 62 = .ok (.aload_n 0, 1) := by decide +kernel
theorem dX8_putMachine_63 : decode cX8_putMachine 63 = .ok (.getfield 13, 3) := by decide +kernel
theorem dX8_putMachine_66 : decode cX8_putMachine 66 = .ok (.iload 7, 2) := by decide +kernel
theorem dX8_putMachine_68 : decode cX8_putMachine 68 = .ok (.iconst 5, 1) := by decide +kernel
theorem dX8_putMachine_69 : decode cX8_putMachine 69 = .ok (.iadd, 1) := by decide +kernel
theorem dX8_putMachine_70 : decode cX8_putMachine 70 = .ok (.iload 6, 2) := by decide +kernel
theorem dX8_putMachine_72 : decode cX8_putMachine 72 = .ok (.iastore, 1) := by decide +kernel
theorem dX8_putMachine_73 : decode cX8_putMachine 73 = .ok (.aload_n 0, 1) := by decide +kernel
theorem dX8_putMachine_74 : decode cX8_putMachine 74 = .ok (.getfield 13, 3) := by decide +kernel
theorem dX8_putMachine_77 : decode cX8_putMachine 77 = .ok (.bipush 36, 2) := by decide +kernel
theorem dX8_putMachine_79 : decode cX8_putMachine 79 = .ok (.dup2, 1) := by decide +kernel
theorem dX8_putMachine_80 : decode cX8_putMachine 80 = .ok (.iaload, 1) := by decide +kernel
theorem dX8_putMachine_81 : decode cX8_putMachine 81 = .ok (.iconst 1, 1) := by decide +kernel
theorem dX8_putMachine_82 : decode cX8_putMachine 82 = .ok (.iadd, 1) := by decide +kernel
theorem dX8_putMachine_83 : decode cX8_putMachine 83 = .ok (.iastore, 1) := by decide +kernel
theorem dX8_putMachine_84 : decode cX8_putMachine 84 = .ok (.return_, 1) := by decide +kernel
theorem dX8_takeRead_0 : decode cX8_takeRead 0 = .ok (.iconst 0, 1) := by decide +kernel
theorem dX8_takeRead_1 : decode cX8_takeRead 1 = .ok (.istore_n 1, 1) := by decide +kernel
theorem dX8_takeRead_2 : decode cX8_takeRead 2 = .ok (.iload_n 1, 1) := by decide +kernel
theorem dX8_takeRead_3 : decode cX8_takeRead 3 = .ok (.bipush 44, 2) := by decide +kernel
theorem dX8_takeRead_5 : decode cX8_takeRead 5 = .ok (.if_icmp .ge 21, 3) := by decide +kernel
theorem dX8_takeRead_8 : decode cX8_takeRead 8 = .ok (.aload_n 0, 1) := by decide +kernel
theorem dX8_takeRead_9 : decode cX8_takeRead 9 = .ok (.getfield 16, 3) := by decide +kernel
theorem dX8_takeRead_12 : decode cX8_takeRead 12 = .ok (.iload_n 1, 1) := by decide +kernel
theorem dX8_takeRead_13 : decode cX8_takeRead 13 = .ok (.aload_n 0, 1) := by decide +kernel
theorem dX8_takeRead_14 : decode cX8_takeRead 14 = .ok (.getfield 13, 3) := by decide +kernel
theorem dX8_takeRead_17 : decode cX8_takeRead 17 = .ok (.iload_n 1, 1) := by decide +kernel
theorem dX8_takeRead_18 : decode cX8_takeRead 18 = .ok (.iaload, 1) := by decide +kernel
theorem dX8_takeRead_19 : decode cX8_takeRead 19 = .ok (.iastore, 1) := by decide +kernel
theorem dX8_takeRead_20 : decode cX8_takeRead 20 = .ok (.iinc 1 1, 3) := by decide +kernel
theorem dX8_takeRead_23 : decode cX8_takeRead 23 = .ok (.goto (-21), 3) := by decide +kernel
theorem dX8_takeRead_26 : decode cX8_takeRead 26 = .ok (.iconst 0, 1) := by decide +kernel
theorem dX8_takeRead_27 : decode cX8_takeRead 27 = .ok (.istore_n 1, 1) := by decide +kernel
theorem dX8_takeRead_28 : decode cX8_takeRead 28 = .ok (.iload_n 1, 1) := by decide +kernel
theorem dX8_takeRead_29 : decode cX8_takeRead 29 = .ok (.bipush 101, 2) := by decide +kernel
theorem dX8_takeRead_31 : decode cX8_takeRead 31 = .ok (.if_icmp .ge 16, 3) := by decide +kernel
theorem dX8_takeRead_34 : decode cX8_takeRead 34 = .ok (.aload_n 0, 1) := by decide +kernel
theorem dX8_takeRead_35 : decode cX8_takeRead 35 = .ok (.getfield 19, 3) := by decide +kernel
theorem dX8_takeRead_38 : decode cX8_takeRead 38 = .ok (.iload_n 1, 1) := by decide +kernel
theorem dX8_takeRead_39 : decode cX8_takeRead 39 = .ok (.iconst 0, 1) := by decide +kernel
theorem dX8_takeRead_40 : decode cX8_takeRead 40 = .ok (.iastore, 1) := by decide +kernel
theorem dX8_takeRead_41 : decode cX8_takeRead 41 = .ok (.iinc 1 1, 3) := by decide +kernel
theorem dX8_takeRead_44 : decode cX8_takeRead 44 = .ok (.goto (-16), 3) := by decide +kernel
theorem dX8_takeRead_47 : decode cX8_takeRead 47 = .ok (.aload_n 0, 1) := by decide +kernel
theorem dX8_takeRead_48 : decode cX8_takeRead 48 = .ok (.getfield 19, 3) := by decide +kernel
theorem dX8_takeRead_51 : decode cX8_takeRead 51 = .ok (.iconst 2, 1) := by decide +kernel
theorem dX8_takeRead_52 : decode cX8_takeRead 52 = .ok (.bipush 25, 2) := by decide +kernel
theorem dX8_takeRead_54 : decode cX8_takeRead 54 = .ok (.iastore, 1) := by decide +kernel
theorem dX8_takeRead_55 : decode cX8_takeRead 55 = .ok (.aload_n 0, 1) := by decide +kernel
theorem dX8_takeRead_56 : decode cX8_takeRead 56 = .ok (.getfield 19, 3) := by decide +kernel
theorem dX8_takeRead_59 : decode cX8_takeRead 59 = .ok (.iconst 3, 1) := by decide +kernel
theorem dX8_takeRead_60 : decode cX8_takeRead 60 = .ok (.bipush 7, 2) := by decide +kernel
theorem dX8_takeRead_62 : decode cX8_takeRead 62 = .ok (.iastore, 1) := by decide +kernel
theorem dX8_takeRead_63 : decode cX8_takeRead 63 = .ok (.aload_n 0, 1) := by decide +kernel
theorem dX8_takeRead_64 : decode cX8_takeRead 64 = .ok (.getfield 19, 3) := by decide +kernel
theorem dX8_takeRead_67 : decode cX8_takeRead 67 = .ok (.bipush 9, 2) := by decide +kernel
theorem dX8_takeRead_69 : decode cX8_takeRead 69 = .ok (.sipush (-1000), 3) := by decide +kernel
theorem dX8_takeRead_72 : decode cX8_takeRead 72 = .ok (.iastore, 1) := by decide +kernel
theorem dX8_takeRead_73 : decode cX8_takeRead 73 = .ok (.iconst 0, 1) := by decide +kernel
theorem dX8_takeRead_74 : decode cX8_takeRead 74 = .ok (.istore_n 1, 1) := by decide +kernel
theorem dX8_takeRead_75 : decode cX8_takeRead 75 = .ok (.iload_n 1, 1) := by decide +kernel
theorem dX8_takeRead_76 : decode cX8_takeRead 76 = .ok (.bipush 6, 2) := by decide +kernel
theorem dX8_takeRead_78 : decode cX8_takeRead 78 = .ok (.if_icmp .ge 40, 3) := by decide +kernel
theorem dX8_takeRead_81 : decode cX8_takeRead 81 = .ok (.iconst 4, 1) := by decide +kernel
theorem dX8_takeRead_82 : decode cX8_takeRead 82 = .ok (.istore_n 2, 1) := by decide +kernel
theorem dX8_takeRead_83 : decode cX8_takeRead 83 = .ok (.iload_n 2, 1) := by decide +kernel
theorem dX8_takeRead_84 : decode cX8_takeRead 84 = .ok (.bipush 14, 2) := by decide +kernel
theorem dX8_takeRead_86 : decode cX8_takeRead 86 = .ok (.if_icmp .ge 26, 3) := by decide +kernel
theorem dX8_takeRead_89 : decode cX8_takeRead 89 = .ok (.aload_n 0, 1) := by decide +kernel
theorem dX8_takeRead_90 : decode cX8_takeRead 90 = .ok (.getfield 19, 3) := by decide +kernel
theorem dX8_takeRead_93 : decode cX8_takeRead 93 = .ok (.bipush 17, 2) := by decide +kernel
theorem dX8_takeRead_95 : decode cX8_takeRead 95 = .ok (.bipush 14, 2) := by decide +kernel
theorem dX8_takeRead_97 : decode cX8_takeRead 97 = .ok (.iload_n 1, 1) := by decide +kernel
theorem dX8_takeRead_98 : decode cX8_takeRead 98 = .ok (.imul, 1) := by decide +kernel
theorem dX8_takeRead_99 : decode cX8_takeRead 99 = .ok (.iadd, 1) := by decide +kernel
theorem dX8_takeRead_100 : decode cX8_takeRead 100 = .ok (.iload_n 2, 1) := by decide +kernel
theorem dX8_takeRead_101 : decode cX8_takeRead 101 = .ok (.iadd, 1) := by decide +kernel
theorem dX8_takeRead_102 : decode cX8_takeRead 102 = .ok (.sipush (-1000), 3) := by decide +kernel
theorem dX8_takeRead_105 : decode cX8_takeRead 105 = .ok (.iastore, 1) := by decide +kernel
theorem dX8_takeRead_106 : decode cX8_takeRead 106 = .ok (.iinc 2 1, 3) := by decide +kernel
theorem dX8_takeRead_109 : decode cX8_takeRead 109 = .ok (.goto (-26), 3) := by decide +kernel
theorem dX8_takeRead_112 : decode cX8_takeRead 112 = .ok (.iinc 1 1, 3) := by decide +kernel
theorem dX8_takeRead_115 : decode cX8_takeRead 115 = .ok (.goto (-40), 3) := by decide +kernel
theorem dX8_takeRead_118 : decode cX8_takeRead 118 = .ok (.aload_n 0, 1) := by decide +kernel
theorem dX8_takeRead_119 : decode cX8_takeRead 119 = .ok (.iconst 0, 1) := by decide +kernel
theorem dX8_takeRead_120 : decode cX8_takeRead 120 = .ok (.putfield 47, 3) := by decide +kernel
theorem dX8_takeRead_123 : decode cX8_takeRead 123 = .ok (.aload_n 0, 1) := by decide +kernel
theorem dX8_takeRead_124 : decode cX8_takeRead 124 = .ok (.iconst 0, 1) := by decide +kernel
theorem dX8_takeRead_125 : decode cX8_takeRead 125 = .ok (.putfield 51, 3) := by decide +kernel
theorem dX8_takeRead_128 : decode cX8_takeRead 128 = .ok (.return_, 1) := by decide +kernel
theorem dX8_isFigure_0 : decode cX8_isFigure 0 = .ok (.aload_n 0, 1) := by decide +kernel
theorem dX8_isFigure_1 : decode cX8_isFigure 1 = .ok (.getfield 55, 3) := by decide +kernel
theorem dX8_isFigure_4 : decode cX8_isFigure 4 = .ok (.aload_n 0, 1) := by decide +kernel
theorem dX8_isFigure_5 : decode cX8_isFigure 5 = .ok (.getfield 58, 3) := by decide +kernel
theorem dX8_isFigure_8 : decode cX8_isFigure 8 = .ok (.if_icmp .ge 26, 3) := by decide +kernel
theorem dX8_isFigure_11 : decode cX8_isFigure 11 = .ok (.aload_n 0, 1) := by decide +kernel
theorem dX8_isFigure_12 : decode cX8_isFigure 12 = .ok (.getfield 7, 3) := by decide +kernel
theorem dX8_isFigure_15 : decode cX8_isFigure 15 = .ok (.aload_n 0, 1) := by decide +kernel
theorem dX8_isFigure_16 : decode cX8_isFigure 16 = .ok (.getfield 55, 3) := by decide +kernel
theorem dX8_isFigure_19 : decode cX8_isFigure 19 = .ok (.iaload, 1) := by decide +kernel
theorem dX8_isFigure_20 : decode cX8_isFigure 20 = .ok (.bipush 48, 2) := by decide +kernel
theorem dX8_isFigure_22 : decode cX8_isFigure 22 = .ok (.bipush 57, 2) := by decide +kernel
theorem dX8_isFigure_24 : decode cX8_isFigure 24 = .ok (.invokestatic 61, 3) := by decide +kernel
theorem dX8_isFigure_27 : decode cX8_isFigure 27 = .ok (.ifCond .eq 7, 3) := by decide +kernel
theorem dX8_isFigure_30 : decode cX8_isFigure 30 = .ok (.iconst 1, 1) := by decide +kernel
theorem dX8_isFigure_31 : decode cX8_isFigure 31 = .ok (.goto 4, 3) := by decide +kernel
theorem dX8_isFigure_34 : decode cX8_isFigure 34 = .ok (.iconst 0, 1) := by decide +kernel
theorem dX8_isFigure_35 : decode cX8_isFigure 35 = .ok (.ireturn, 1) := by decide +kernel
theorem dX8_readNumbers_0 : decode cX8_readNumbers 0 = .ok (.iconst 0, 1) := by decide +kernel
theorem dX8_readNumbers_1 : decode cX8_readNumbers 1 = .ok (.istore_n 2, 1) := by decide +kernel
theorem dX8_readNumbers_2 : decode cX8_readNumbers 2 = .ok (.iload_n 2, 1) := by decide +kernel
theorem dX8_readNumbers_3 : decode cX8_readNumbers 3 = .ok (.iload_n 1, 1) := by decide +kernel
theorem dX8_readNumbers_4 : decode cX8_readNumbers 4 = .ok (.if_icmp .ge 132, 3) := by decide +kernel
theorem dX8_readNumbers_7 : decode cX8_readNumbers 7 = .ok (.aload_n 0, 1) := by decide +kernel
theorem dX8_readNumbers_8 : decode cX8_readNumbers 8 = .ok (.getfield 55, 3) := by decide +kernel
theorem dX8_readNumbers_11 : decode cX8_readNumbers 11 = .ok (.istore_n 3, 1) := by decide +kernel
theorem dX8_readNumbers_12 : decode cX8_readNumbers 12 = .ok (.iconst 0, 1) := by decide +kernel
theorem dX8_readNumbers_13 : decode cX8_readNumbers 13 = .ok (.istore 4, 2) := by decide +kernel
theorem dX8_readNumbers_15 : decode cX8_readNumbers 15 = .ok (.aload_n 0, 1) := by decide +kernel
theorem dX8_readNumbers_16 : decode cX8_readNumbers 16 = .ok (.invokevirtual 65, 3) := by decide +kernel
theorem dX8_readNumbers_19 : decode cX8_readNumbers 19 = .ok (.ifCond .eq 46, 3) := by decide +kernel
theorem dX8_readNumbers_22 : decode cX8_readNumbers 22 = .ok (.aload_n 0, 1) := by decide +kernel
theorem dX8_readNumbers_23 : decode cX8_readNumbers 23 = .ok (.getfield 55, 3) := by decide +kernel
theorem dX8_readNumbers_26 : decode cX8_readNumbers 26 = .ok (.iload_n 3, 1) := by decide +kernel
theorem dX8_readNumbers_27 : decode cX8_readNumbers 27 = .ok (.iconst 2, 1) := by decide +kernel
theorem dX8_readNumbers_28 : decode cX8_readNumbers 28 = .ok (.iadd, 1) := by decide +kernel
theorem dX8_readNumbers_29 : decode cX8_readNumbers 29 = .ok (.if_icmp .ge 36, 3) := by decide +kernel
theorem dX8_readNumbers_32 : decode cX8_readNumbers 32 = .ok (.bipush 10, 2) := by decide +kernel
theorem dX8_readNumbers_34 : decode cX8_readNumbers 34 = .ok (.iload 4, 2) := by decide +kernel
theorem dX8_readNumbers_36 : decode cX8_readNumbers 36 = .ok (.imul, 1) := by decide +kernel
theorem dX8_readNumbers_37 : decode cX8_readNumbers 37 = .ok (.aload_n 0, 1) := by decide +kernel
theorem dX8_readNumbers_38 : decode cX8_readNumbers 38 = .ok (.getfield 7, 3) := by decide +kernel
theorem dX8_readNumbers_41 : decode cX8_readNumbers 41 = .ok (.aload_n 0, 1) := by decide +kernel
theorem dX8_readNumbers_42 : decode cX8_readNumbers 42 = .ok (.getfield 55, 3) := by decide +kernel
theorem dX8_readNumbers_45 : decode cX8_readNumbers 45 = .ok (.iaload, 1) := by decide +kernel
theorem dX8_readNumbers_46 : decode cX8_readNumbers 46 = .ok (.iadd, 1) := by decide +kernel
theorem dX8_readNumbers_47 : decode cX8_readNumbers 47 = .ok (.bipush 48, 2) := by decide +kernel
theorem dX8_readNumbers_49 : decode cX8_readNumbers 49 = .ok (.isub, 1) := by decide +kernel
theorem dX8_readNumbers_50 : decode cX8_readNumbers 50 = .ok (.istore 4, 2) := by decide +kernel
theorem dX8_readNumbers_52 : decode cX8_readNumbers 52 = .ok (.aload_n 0, 1) := by decide +kernel
theorem dX8_readNumbers_53 : decode cX8_readNumbers 53 = .ok (.dup, 1) := by decide +kernel
theorem dX8_readNumbers_54 : decode cX8_readNumbers 54 = .ok (.getfield 55, 3) := by decide +kernel
theorem dX8_readNumbers_57 : decode cX8_readNumbers 57 = .ok (.iconst 1, 1) := by decide +kernel
theorem dX8_readNumbers_58 : decode cX8_readNumbers 58 = .ok (.iadd, 1) := by decide +kernel
theorem dX8_readNumbers_59 : decode cX8_readNumbers 59 = .ok (.putfield 55, 3) := by decide +kernel
theorem dX8_readNumbers_62 : decode cX8_readNumbers 62 = .ok (.goto (-47), 3) := by decide +kernel
theorem dX8_readNumbers_65 : decode cX8_readNumbers 65 = .ok (.aload_n 0, 1) := by decide +kernel
theorem dX8_readNumbers_66 : decode cX8_readNumbers 66 = .ok (.getfield 55, 3) := by decide +kernel
theorem dX8_readNumbers_69 : decode cX8_readNumbers 69 = .ok (.iload_n 3, 1) := by decide +kernel
theorem dX8_readNumbers_70 : decode cX8_readNumbers 70 = .ok (.if_icmp .eq 40, 3) := by decide +kernel
theorem dX8_readNumbers_73 : decode cX8_readNumbers 73 = .ok (.aload_n 0, 1) := by decide +kernel
theorem dX8_readNumbers_74 : decode cX8_readNumbers 74 = .ok (.getfield 55, 3) := by decide +kernel
theorem dX8_readNumbers_77 : decode cX8_readNumbers 77 = .ok (.aload_n 0, 1) := by decide +kernel
theorem dX8_readNumbers_78 : decode cX8_readNumbers 78 = .ok (.getfield 58, 3) := by decide +kernel
theorem dX8_readNumbers_81 : decode cX8_readNumbers 81 = .ok (.if_icmp .eq 29, 3) := by decide +kernel
theorem dX8_readNumbers_84 : decode cX8_readNumbers 84 = .ok (.aload_n 0, 1) := by decide +kernel
theorem dX8_readNumbers_85 : decode cX8_readNumbers 85 = .ok (.getfield 7, 3) := by decide +kernel
theorem dX8_readNumbers_88 : decode cX8_readNumbers 88 = .ok (.aload_n 0, 1) := by decide +kernel
theorem dX8_readNumbers_89 : decode cX8_readNumbers 89 = .ok (.getfield 55, 3) := by decide +kernel
theorem dX8_readNumbers_92 : decode cX8_readNumbers 92 = .ok (.iaload, 1) := by decide +kernel
theorem dX8_readNumbers_93 : decode cX8_readNumbers 93 = .ok (.iload_n 2, 1) := by decide +kernel
theorem dX8_readNumbers_94 : decode cX8_readNumbers 94 = .ok (.iconst 1, 1) := by decide +kernel
theorem dX8_readNumbers_95 : decode cX8_readNumbers 95 = .ok (.iadd, 1) := by decide +kernel
theorem dX8_readNumbers_96 : decode cX8_readNumbers 96 = .ok (.iload_n 1, 1) := by decide +kernel
theorem dX8_readNumbers_97 : decode cX8_readNumbers 97 = .ok (.if_icmp .ne 8, 3) := by decide +kernel
theorem dX8_readNumbers_100 : decode cX8_readNumbers 100 = .ok (.bipush 59, 2) := by decide +kernel
theorem dX8_readNumbers_102 : decode cX8_readNumbers 102 = .ok (.goto 5, 3) := by decide +kernel
theorem dX8_readNumbers_105 : decode cX8_readNumbers 105 = .ok (.bipush 44, 2) := by decide +kernel
theorem dX8_readNumbers_107 : decode cX8_readNumbers 107 = .ok (.if_icmp .eq 5, 3) := by decide +kernel
theorem dX8_readNumbers_110 : decode cX8_readNumbers 110 = .ok (.iconst 0, 1) := by decide +kernel
theorem dX8_readNumbers_111 : decode cX8_readNumbers 111 = .ok (.ireturn, 1) := by decide +kernel
theorem dX8_readNumbers_112 : decode cX8_readNumbers 112 = .ok (.aload_n 0, 1) := by decide +kernel
theorem dX8_readNumbers_113 : decode cX8_readNumbers 113 = .ok (.getfield 28, 3) := by decide +kernel
theorem dX8_readNumbers_116 : decode cX8_readNumbers 116 = .ok (.iload_n 2, 1) := by decide +kernel
theorem dX8_readNumbers_117 : decode cX8_readNumbers 117 = .ok (.iload 4, 2) := by decide +kernel
theorem dX8_readNumbers_119 : decode cX8_readNumbers 119 = .ok (.iastore, 1) := by decide +kernel
theorem dX8_readNumbers_120 : decode cX8_readNumbers 120 = .ok (.aload_n 0, 1) := by decide +kernel
theorem dX8_readNumbers_121 : decode cX8_readNumbers 121 = .ok (.dup, 1) := by decide +kernel
theorem dX8_readNumbers_122 : decode cX8_readNumbers 122 = .ok (.getfield 55, 3) := by decide +kernel
theorem dX8_readNumbers_125 : decode cX8_readNumbers 125 = .ok (.iconst 1, 1) := by decide +kernel
theorem dX8_readNumbers_126 : decode cX8_readNumbers 126 = .ok (.iadd, 1) := by decide +kernel
theorem dX8_readNumbers_127 : decode cX8_readNumbers 127 = .ok (.putfield 55, 3) := by decide +kernel
theorem dX8_readNumbers_130 : decode cX8_readNumbers 130 = .ok (.iinc 2 1, 3) := by decide +kernel
theorem dX8_readNumbers_133 : decode cX8_readNumbers 133 = .ok (.goto (-131), 3) := by decide +kernel
theorem dX8_readNumbers_136 : decode cX8_readNumbers 136 = .ok (.iconst 1, 1) := by decide +kernel
theorem dX8_readNumbers_137 : decode cX8_readNumbers 137 = .ok (.ireturn, 1) := by decide +kernel
theorem dX8_isNumber_0 : decode cX8_isNumber 0 = .ok (.aload_n 0, 1) := by decide +kernel
theorem dX8_isNumber_1 : decode cX8_isNumber 1 = .ok (.getfield 28, 3) := by decide +kernel
theorem dX8_isNumber_4 : decode cX8_isNumber 4 = .ok (.iload_n 1, 1) := by decide +kernel
theorem dX8_isNumber_5 : decode cX8_isNumber 5 = .ok (.iaload, 1) := by decide +kernel
theorem dX8_isNumber_6 : decode cX8_isNumber 6 = .ok (.iload_n 2, 1) := by decide +kernel
theorem dX8_isNumber_7 : decode cX8_isNumber 7 = .ok (.iload_n 3, 1) := by decide +kernel
theorem dX8_isNumber_8 : decode cX8_isNumber 8 = .ok (.invokestatic 61, 3) := by decide +kernel
theorem dX8_isNumber_11 : decode cX8_isNumber 11 = .ok (.ireturn, 1) := by decide +kernel
theorem dX8_readMachine_0 : decode cX8_readMachine 0 = .ok (.aload_n 0, 1) := by decide +kernel
theorem dX8_readMachine_1 : decode cX8_readMachine 1 = .ok (.getfield 13, 3) := by decide +kernel
theorem dX8_readMachine_4 : decode cX8_readMachine 4 = .ok (.bipush 36, 2) := by decide +kernel
theorem dX8_readMachine_6 : decode cX8_readMachine 6 = .ok (.iaload, 1) := by decide +kernel
theorem dX8_readMachine_7 : decode cX8_readMachine 7 = .ok (.bipush 6, 2) := by decide +kernel
theorem dX8_readMachine_9 : decode cX8_readMachine 9 = .ok (.if_icmp .eq 50, 3) := by decide +kernel
theorem dX8_readMachine_12 : decode cX8_readMachine 12 = .ok (.aload_n 0, 1) := by decide +kernel
theorem dX8_readMachine_13 : decode cX8_readMachine 13 = .ok (.bipush 6, 2) := by decide +kernel
theorem dX8_readMachine_15 : decode cX8_readMachine 15 = .ok (.invokevirtual 69, 3) := by decide +kernel
theorem dX8_readMachine_18 : decode cX8_readMachine 18 = .ok (.ifCond .eq 41, 3) := by decide +kernel
theorem dX8_readMachine_21 : decode cX8_readMachine 21 = .ok (.aload_n 0, 1) := by decide +kernel
theorem dX8_readMachine_22 : decode cX8_readMachine 22 = .ok (.iconst 0, 1) := by decide +kernel
theorem dX8_readMachine_23 : decode cX8_readMachine 23 = .ok (.iconst 1, 1) := by decide +kernel
theorem dX8_readMachine_24 : decode cX8_readMachine 24 = .ok (.bipush 40, 2) := by decide +kernel
theorem dX8_readMachine_26 : decode cX8_readMachine 26 = .ok (.invokevirtual 73, 3) := by decide +kernel
theorem dX8_readMachine_29 : decode cX8_readMachine 29 = .ok (.ifCond .eq 30, 3) := by decide +kernel
theorem dX8_readMachine_32 : decode cX8_readMachine 32 = .ok (.aload_n 0, 1) := by decide +kernel
theorem dX8_readMachine_33 : decode cX8_readMachine 33 = .ok (.iconst 1, 1) := by decide +kernel
theorem dX8_readMachine_34 : decode cX8_readMachine 34 = .ok (.aload_n 0, 1) := by decide +kernel
theorem dX8_readMachine_35 : decode cX8_readMachine 35 = .ok (.getfield 28, 3) := by decide +kernel
theorem dX8_readMachine_38 : decode cX8_readMachine 38 = .ok (.iconst 0, 1) := by decide +kernel
theorem dX8_readMachine_39 : decode cX8_readMachine 39 = .ok (.iaload, 1) := by decide +kernel
theorem dX8_readMachine_40 : decode cX8_readMachine 40 = .ok (.bipush 80, 2) := by decide +kernel
theorem dX8_readMachine_42 : decode cX8_readMachine 42 = .ok (.invokevirtual 73, 3) := by decide +kernel
theorem dX8_readMachine_45 : decode cX8_readMachine 45 = .ok (.ifCond .eq 14, 3) := by decide +kernel
theorem dX8_readMachine_48 : decode cX8_readMachine 48 = .ok (.aload_n 0, 1) := by decide +kernel
theorem dX8_readMachine_49 : decode cX8_readMachine 49 = .ok (.iconst 5, 1) := by decide +kernel
theorem dX8_readMachine_50 : decode cX8_readMachine 50 = .ok (.iconst 1, 1) := by decide +kernel
theorem dX8_readMachine_51 : decode cX8_readMachine 51 = .ok (.bipush 40, 2) := by decide +kernel
theorem dX8_readMachine_53 : decode cX8_readMachine 53 = .ok (.invokevirtual 73, 3) := by decide +kernel
theorem dX8_readMachine_56 : decode cX8_readMachine 56 = .ok (.ifCond .ne 5, 3) := by decide +kernel
theorem dX8_readMachine_59 : decode cX8_readMachine 59 = .ok (.iconst 0, 1) := by decide +kernel
theorem dX8_readMachine_60 : decode cX8_readMachine 60 = .ok (.ireturn, 1) := by decide +kernel
theorem dX8_readMachine_61 : decode cX8_readMachine 61 = .ok (.aload_n 0, 1) := by decide +kernel
theorem dX8_readMachine_62 : decode cX8_readMachine 62 = .ok (.aload_n 0, 1) := by decide +kernel
theorem dX8_readMachine_63 : decode cX8_readMachine 63 = .ok (.getfield 28, 3) := by decide +kernel
theorem dX8_readMachine_66 : decode cX8_readMachine 66 = .ok (.iconst 0, 1) := by decide +kernel
theorem dX8_readMachine_67 : decode cX8_readMachine 67 = .ok (.iaload, 1) := by decide +kernel
theorem dX8_readMachine_68 : decode cX8_readMachine 68 = .ok (.aload_n 0, 1) := by decide +kernel
theorem dX8_readMachine_69 : decode cX8_readMachine 69 = .ok (.getfield 28, 3) := by decide +kernel
theorem dX8_readMachine_72 : decode cX8_readMachine 72 = .ok (.iconst 1, 1) := by decide +kernel
theorem dX8_readMachine_73 : decode cX8_readMachine 73 = .ok (.iaload, 1) := by decide +kernel
theorem dX8_readMachine_74 : decode cX8_readMachine 74 = .ok (.aload_n 0, 1) := by decide +kernel
theorem dX8_readMachine_75 : decode cX8_readMachine 75 = .ok (.getfield 28, 3) := by decide +kernel
theorem dX8_readMachine_78 : decode cX8_readMachine 78 = .ok (.iconst 2, 1) := by decide +kernel
theorem dX8_readMachine_79 : decode cX8_readMachine 79 = .ok (.iaload, 1) := by decide +kernel
theorem dX8_readMachine_80 : decode cX8_readMachine 80 = .ok (.aload_n 0, 1) := by decide +kernel
theorem dX8_readMachine_81 : decode cX8_readMachine 81 = .ok (.getfield 28, 3) := by decide +kernel
theorem dX8_readMachine_84 : decode cX8_readMachine 84 = .ok (.iconst 3, 1) := by decide +kernel
theorem dX8_readMachine_85 : decode cX8_readMachine 85 = .ok (.iaload, 1) := by decide +kernel
theorem dX8_readMachine_86 : decode cX8_readMachine 86 = .ok (.aload_n 0, 1) := by decide +kernel
theorem dX8_readMachine_87 : decode cX8_readMachine 87 = .ok (.getfield 28, 3) := by decide +kernel
theorem dX8_readMachine_90 : decode cX8_readMachine 90 = .ok (.iconst 4, 1) := by decide +kernel
theorem dX8_readMachine_91 : decode cX8_readMachine 91 = .ok (.iaload, 1) := by decide +kernel
theorem dX8_readMachine_92 : decode cX8_readMachine 92 = .ok (.aload_n 0, 1) := by decide +kernel
theorem dX8_readMachine_93 : decode cX8_readMachine 93 = .ok (.getfield 28, 3) := by decide +kernel
theorem dX8_readMachine_96 : decode cX8_readMachine 96 = .ok (.iconst 5, 1) := by decide +kernel
theorem dX8_readMachine_97 : decode cX8_readMachine 97 = .ok (.iaload, 1) := by decide +kernel
theorem dX8_readMachine_98 : decode cX8_readMachine 98 = .ok (.invokevirtual 40, 3) := by decide +kernel
theorem dX8_readMachine_101 : decode cX8_readMachine 101 = .ok (.iconst 1, 1) := by decide +kernel
theorem dX8_readMachine_102 : decode cX8_readMachine 102 = .ok (.ireturn, 1) := by decide +kernel
theorem dX8_readOther_0 : decode cX8_readOther 0 = .ok (.iconst 0, 1) := by decide +kernel
theorem dX8_readOther_1 : decode cX8_readOther 1 = .ok (.istore_n 2, 1) := by decide +kernel
theorem dX8_readOther_2 : decode cX8_readOther 2 = .ok (.iload_n 1, 1) := by decide +kernel
theorem dX8_readOther_3 : decode cX8_readOther 3 = .ok (.bipush 114, 2) := by decide +kernel
theorem dX8_readOther_5 : decode cX8_readOther 5 = .ok (.if_icmp .ne 8, 3) := by decide +kernel
theorem dX8_readOther_8 : decode cX8_readOther 8 = .ok (.bipush 37, 2) := by decide +kernel
theorem dX8_readOther_10 : decode cX8_readOther 10 = .ok (.goto 5, 3) := by decide +kernel
theorem dX8_readOther_13 : decode cX8_readOther 13 = .ok (.bipush 41, 2) := by decide +kernel
theorem dX8_readOther_15 : decode cX8_readOther 15 = .ok (.istore_n 3, 1) := by decide +kernel
theorem dX8_readOther_16 : decode cX8_readOther 16 = .ok (.iload_n 1, 1) := by decide +kernel
theorem dX8_readOther_17 : decode cX8_readOther 17 = .ok (.bipush 114, 2) := by decide +kernel
theorem dX8_readOther_19 : decode cX8_readOther 19 = .ok (.if_icmp .ne 7, 3) := by decide +kernel
theorem dX8_readOther_22 : decode cX8_readOther 22 = .ok (.iconst 4, 1) := by decide +kernel
theorem dX8_readOther_23 : decode cX8_readOther 23 = .ok (.goto 4, 3) := by decide +kernel
theorem dX8_readOther_26 : decode cX8_readOther 26 = .ok (.iconst 3, 1) := by decide +kernel
theorem dX8_readOther_27 : decode cX8_readOther 27 = .ok (.istore 4, 2) := by decide +kernel
theorem dX8_readOther_29 : decode cX8_readOther 29 = .ok (.iload_n 1, 1) := by decide +kernel
theorem dX8_readOther_30 : decode cX8_readOther 30 = .ok (.bipush 114, 2) := by decide +kernel
theorem dX8_readOther_32 : decode cX8_readOther 32 = .ok (.if_icmp .ne 64, 3) := by decide +kernel
theorem dX8_readOther_35 : decode cX8_readOther 35 = .ok (.aload_n 0, 1) := by decide +kernel
theorem dX8_readOther_36 : decode cX8_readOther 36 = .ok (.iconst 4, 1) := by decide +kernel
theorem dX8_readOther_37 : decode cX8_readOther 37 = .ok (.invokevirtual 69, 3) := by decide +kernel
theorem dX8_readOther_40 : decode cX8_readOther 40 = .ok (.ifCond .eq 51, 3) := by decide +kernel
theorem dX8_readOther_43 : decode cX8_readOther 43 = .ok (.aload_n 0, 1) := by decide +kernel
theorem dX8_readOther_44 : decode cX8_readOther 44 = .ok (.iconst 0, 1) := by decide +kernel
theorem dX8_readOther_45 : decode cX8_readOther 45 = .ok (.iconst 0, 1) := by decide +kernel
theorem dX8_readOther_46 : decode cX8_readOther 46 = .ok (.bipush 30, 2) := by decide +kernel
theorem dX8_readOther_48 : decode cX8_readOther 48 = .ok (.invokevirtual 73, 3) := by decide +kernel
theorem dX8_readOther_51 : decode cX8_readOther 51 = .ok (.ifCond .eq 40, 3) := by decide +kernel
theorem dX8_readOther_54 : decode cX8_readOther 54 = .ok (.aload_n 0, 1) := by decide +kernel
theorem dX8_readOther_55 : decode cX8_readOther 55 = .ok (.iconst 1, 1) := by decide +kernel
theorem dX8_readOther_56 : decode cX8_readOther 56 = .ok (.iconst 0, 1) := by decide +kernel
theorem dX8_readOther_57 : decode cX8_readOther 57 = .ok (.bipush 30, 2) := by decide +kernel
theorem dX8_readOther_59 : decode cX8_readOther 59 = .ok (.invokevirtual 73, 3) := by decide +kernel
theorem dX8_readOther_62 : decode cX8_readOther 62 = .ok (.ifCond .eq 29, 3) := by decide +kernel
theorem dX8_readOther_65 : decode cX8_readOther 65 = .ok (.aload_n 0, 1) := by decide +kernel
theorem dX8_readOther_66 : decode cX8_readOther 66 = .ok (.iconst 2, 1) := by decide +kernel
theorem dX8_readOther_67 : decode cX8_readOther 67 = .ok (.iconst 1, 1) := by decide +kernel
theorem dX8_readOther_68 : decode cX8_readOther 68 = .ok (.bipush 9, 2) := by decide +kernel
theorem dX8_readOther_70 : decode cX8_readOther 70 = .ok (.invokevirtual 73, 3) := by decide +kernel
theorem dX8_readOther_73 : decode cX8_readOther 73 = .ok (.ifCond .eq 18, 3) := by decide +kernel
theorem dX8_readOther_76 : decode cX8_readOther 76 = .ok (.aload_n 0, 1) := by decide +kernel
theorem dX8_readOther_77 : decode cX8_readOther 77 = .ok (.iconst 3, 1) := by decide +kernel
theorem dX8_readOther_78 : decode cX8_readOther 78 = .ok (.iconst 0, 1) := by decide +kernel
theorem dX8_readOther_79 : decode cX8_readOther 79 = .ok (.bipush 9, 2) := by decide +kernel
theorem dX8_readOther_81 : decode cX8_readOther 81 = .ok (.invokevirtual 73, 3) := by decide +kernel
theorem dX8_readOther_84 : decode cX8_readOther 84 = .ok (.ifCond .eq 7, 3) := by decide +kernel
theorem dX8_readOther_87 : decode cX8_readOther 87 = .ok (.iconst 1, 1) := by decide +kernel
theorem dX8_readOther_88 : decode cX8_readOther 88 = .ok (.goto 4, 3) := by decide +kernel
theorem dX8_readOther_91 : decode cX8_readOther 91 = .ok (.iconst 0, 1) := by decide +kernel
theorem dX8_readOther_92 : decode cX8_readOther 92 = .ok (.istore_n 2, 1) := by decide +kernel
theorem dX8_readOther_93 : decode cX8_readOther 93 = .ok (.goto 57, 3) := by decide +kernel
theorem dX8_readOther_96 : decode cX8_readOther 96 = .ok (.iload_n 1, 1) := by decide +kernel
theorem dX8_readOther_97 : decode cX8_readOther 97 = .ok (.bipush 104, 2) := by decide +kernel
theorem dX8_readOther_99 : decode cX8_readOther 99 = .ok (.if_icmp .ne 51, 3) := by decide +kernel
theorem dX8_readOther_102 : decode cX8_readOther 102 = .ok (.aload_n 0, 1) := by decide +kernel
theorem dX8_readOther_103 : decode cX8_readOther 103 = .ok (.iconst 3, 1) := by decide +kernel
theorem dX8_readOther_104 : decode cX8_readOther 104 = .ok (.invokevirtual 69, 3) := by decide +kernel
theorem dX8_readOther_107 : decode cX8_readOther 107 = .ok (.ifCond .eq 41, 3) := by decide +kernel
theorem dX8_readOther_110 : decode cX8_readOther 110 = .ok (.aload_n 0, 1) := by decide +kernel
theorem dX8_readOther_111 : decode cX8_readOther 111 = .ok (.iconst 0, 1) := by decide +kernel
theorem dX8_readOther_112 : decode cX8_readOther 112 = .ok (.bipush 50, 2) := by decide +kernel
theorem dX8_readOther_114 : decode cX8_readOther 114 = .ok (.bipush 99, 2) := by decide +kernel
theorem dX8_readOther_116 : decode cX8_readOther 116 = .ok (.invokevirtual 73, 3) := by decide +kernel
theorem dX8_readOther_119 : decode cX8_readOther 119 = .ok (.ifCond .eq 29, 3) := by decide +kernel
theorem dX8_readOther_122 : decode cX8_readOther 122 = .ok (.aload_n 0, 1) := by decide +kernel
theorem dX8_readOther_123 : decode cX8_readOther 123 = .ok (.iconst 1, 1) := by decide +kernel
theorem dX8_readOther_124 : decode cX8_readOther 124 = .ok (.iconst 1, 1) := by decide +kernel
theorem dX8_readOther_125 : decode cX8_readOther 125 = .ok (.bipush 99, 2) := by decide +kernel
theorem dX8_readOther_127 : decode cX8_readOther 127 = .ok (.invokevirtual 73, 3) := by decide +kernel
theorem dX8_readOther_130 : decode cX8_readOther 130 = .ok (.ifCond .eq 18, 3) := by decide +kernel
theorem dX8_readOther_133 : decode cX8_readOther 133 = .ok (.aload_n 0, 1) := by decide +kernel
theorem dX8_readOther_134 : decode cX8_readOther 134 = .ok (.iconst 2, 1) := by decide +kernel
theorem dX8_readOther_135 : decode cX8_readOther 135 = .ok (.iconst 0, 1) := by decide +kernel
theorem dX8_readOther_136 : decode cX8_readOther 136 = .ok (.bipush 9, 2) := by decide +kernel
theorem dX8_readOther_138 : decode cX8_readOther 138 = .ok (.invokevirtual 73, 3) := by decide +kernel
theorem dX8_readOther_141 : decode cX8_readOther 141 = .ok (.ifCond .eq 7, 3) := by decide +kernel
theorem dX8_readOther_144 : decode cX8_readOther 144 = .ok (.iconst 1, 1) := by decide +kernel
theorem dX8_readOther_145 : decode cX8_readOther 145 = .ok (.goto 4, 3) := by decide +kernel
theorem dX8_readOther_148 : decode cX8_readOther 148 = .ok (.iconst 0, 1) := by decide +kernel
theorem dX8_readOther_149 : decode cX8_readOther 149 = .ok (.istore_n 2, 1) := by decide +kernel
theorem dX8_readOther_150 : decode cX8_readOther 150 = .ok (.iconst 0, 1) := by decide +kernel
theorem dX8_readOther_151 : decode cX8_readOther 151 = .ok (.istore 5, 2) := by decide +kernel
theorem dX8_readOther_153 : decode cX8_readOther 153 = .ok (.iload 5, 2) := by decide +kernel
theorem dX8_readOther_155 : decode cX8_readOther 155 = .ok (.iload 4, 2) := by decide +kernel
theorem dX8_readOther_157 : decode cX8_readOther 157 = .ok (.if_icmp .ge 29, 3) := by decide +kernel
theorem dX8_readOther_160 : decode cX8_readOther 160 = .ok (.iload_n 2, 1) := by decide +kernel
theorem dX8_readOther_161 : decode cX8_readOther 161 = .ok (.ifCond .eq 25, 3) := by decide +kernel
theorem dX8_readOther_164 : decode cX8_readOther 164 = .ok (.aload_n 0, 1) := by decide +kernel
theorem dX8_readOther_165 : decode cX8_readOther 165 = .ok (.getfield 13, 3) := by decide +kernel
theorem dX8_readOther_168 : decode cX8_readOther 168 = .ok (.iload_n 3, 1) := by decide +kernel
theorem dX8_readOther_169 : decode cX8_readOther 169 = .ok (.iload 5, 2) := by decide +kernel
theorem dX8_readOther_171 : decode cX8_readOther 171 = .ok (.iadd, 1) := by decide +kernel
theorem dX8_readOther_172 : decode cX8_readOther 172 = .ok (.aload_n 0, 1) := by decide +kernel
theorem dX8_readOther_173 : decode cX8_readOther 173 = .ok (.getfield 28, 3) := by decide +kernel
theorem dX8_readOther_176 : decode cX8_readOther 176 = .ok (.iload 5, 2) := by decide +kernel
theorem dX8_readOther_178 : decode cX8_readOther 178 = .ok (.iaload, 1) := by decide +kernel
theorem dX8_readOther_179 : decode cX8_readOther 179 = .ok (.iastore, 1) := by decide +kernel
theorem dX8_readOther_180 : decode cX8_readOther 180 = .ok (.iinc 5 1, 3) := by decide +kernel
theorem dX8_readOther_183 : decode cX8_readOther 183 = .ok (.goto (-30), 3) := by decide +kernel
theorem dX8_readOther_186 : decode cX8_readOther 186 = .ok (.iload_n 2, 1) := by decide +kernel
theorem dX8_readOther_187 : decode cX8_readOther 187 = .ok (.ireturn, 1) := by decide +kernel
theorem dX8_readText_0 : decode cX8_readText 0 = .ok (.aload_n 0, 1) := by decide +kernel
theorem dX8_readText_1 : decode cX8_readText 1 = .ok (.invokevirtual 37, 3) := by decide +kernel
theorem dX8_readText_4 : decode cX8_readText 4 = .ok (.aload_n 0, 1) := by decide +kernel
theorem dX8_readText_5 : decode cX8_readText 5 = .ok (.iconst 0, 1) := by decide +kernel
theorem dX8_readText_6 : decode cX8_readText 6 = .ok (.putfield 55, 3) := by decide +kernel
theorem dX8_readText_9 : decode cX8_readText 9 = .ok (.aload_n 0, 1) := by decide +kernel
theorem dX8_readText_10 : decode cX8_readText 10 = .ok (.getfield 55, 3) := by decide +kernel
theorem dX8_readText_13 : decode cX8_readText 13 = .ok (.aload_n 0, 1) := by decide +kernel
theorem dX8_readText_14 : decode cX8_readText 14 = .ok (.getfield 58, 3) := by decide +kernel
theorem dX8_readText_17 : decode cX8_readText 17 = .ok (.if_icmp .ge 56, 3) := by decide +kernel
theorem dX8_readText_20 : decode cX8_readText 20 = .ok (.aload_n 0, 1) := by decide +kernel
theorem dX8_readText_21 : decode cX8_readText 21 = .ok (.getfield 55, 3) := by decide +kernel
theorem dX8_readText_24 : decode cX8_readText 24 = .ok (.istore_n 1, 1) := by decide +kernel
theorem dX8_readText_25 : decode cX8_readText 25 = .ok (.aload_n 0, 1) := by decide +kernel
theorem dX8_readText_26 : decode cX8_readText 26 = .ok (.getfield 7, 3) := by decide +kernel
theorem dX8_readText_29 : decode cX8_readText 29 = .ok (.aload_n 0, 1) := by decide +kernel
theorem dX8_readText_30 : decode cX8_readText 30 = .ok (.getfield 55, 3) := by decide +kernel
theorem dX8_readText_33 : decode cX8_readText 33 = .ok (.iaload, 1) := by decide +kernel
theorem dX8_readText_34 : decode cX8_readText 34 = .ok (.istore_n 2, 1) := by decide +kernel
theorem dX8_readText_35 : decode cX8_readText 35 = .ok (.aload_n 0, 1) := by decide +kernel
theorem dX8_readText_36 : decode cX8_readText 36 = .ok (.dup, 1) := by decide +kernel
theorem dX8_readText_37 : decode cX8_readText 37 = .ok (.getfield 55, 3) := by decide +kernel
theorem dX8_readText_40 : decode cX8_readText 40 = .ok (.iconst 1, 1) := by decide +kernel
theorem dX8_readText_41 : decode cX8_readText 41 = .ok (.iadd, 1) := by decide +kernel
theorem dX8_readText_42 : decode cX8_readText 42 = .ok (.putfield 55, 3) := by decide +kernel
theorem dX8_readText_45 : decode cX8_readText 45 = .ok (.iload_n 2, 1) := by decide +kernel
theorem dX8_readText_46 : decode cX8_readText 46 = .ok (.bipush 99, 2) := by decide +kernel
theorem dX8_readText_48 : decode cX8_readText 48 = .ok (.if_icmp .ne 10, 3) := by decide +kernel
theorem dX8_readText_51 : decode cX8_readText 51 = .ok (.aload_n 0, 1) := by decide +kernel
theorem dX8_readText_52 : decode cX8_readText 52 = .ok (.invokevirtual 76, 3) := by decide +kernel
theorem dX8_readText_55 : decode cX8_readText 55 = .ok (.goto 8, 3) := by decide +kernel
theorem dX8_readText_58 : decode cX8_readText 58 = .ok (.aload_n 0, 1) := by decide +kernel
theorem dX8_readText_59 : decode cX8_readText 59 = .ok (.iload_n 2, 1) := by decide +kernel
theorem dX8_readText_60 : decode cX8_readText 60 = .ok (.invokevirtual 79, 3) := by decide +kernel
theorem dX8_readText_63 : decode cX8_readText 63 = .ok (.istore_n 3, 1) := by decide +kernel
theorem dX8_readText_64 : decode cX8_readText 64 = .ok (.iload_n 3, 1) := by decide +kernel
theorem dX8_readText_65 : decode cX8_readText 65 = .ok (.ifCond .ne 5, 3) := by decide +kernel
theorem dX8_readText_68 : decode cX8_readText 68 = .ok (.iload_n 1, 1) := by decide +kernel
theorem dX8_readText_69 : decode cX8_readText 69 = .ok (.ireturn, 1) := by decide +kernel
theorem dX8_readText_70 : decode cX8_readText 70 = .ok (.goto (-61), 3) := by decide +kernel
theorem dX8_readText_73 : decode cX8_readText 73 = .ok (.bipush (-4), 2) := by decide +kernel
theorem dX8_readText_75 : decode cX8_readText 75 = .ok (.ireturn, 1) := by decide +kernel
theorem dX8_write_0 : decode cX8_write 0 = .ok (.iload_n 1, 1) := by decide +kernel
theorem dX8_write_1 : decode cX8_write 1 = .ok (.bipush 32, 2) := by decide +kernel
theorem dX8_write_3 : decode cX8_write 3 = .ok (.bipush 126, 2) := by decide +kernel
theorem dX8_write_5 : decode cX8_write 5 = .ok (.invokestatic 61, 3) := by decide +kernel
theorem dX8_write_8 : decode cX8_write 8 = .ok (.ifCond .ne 5, 3) := by decide +kernel
theorem dX8_write_11 : decode cX8_write 11 = .ok (.iconst (-1), 1) := by decide +kernel
theorem dX8_write_12 : decode cX8_write 12 = .ok (.ireturn, 1) := by decide +kernel
theorem dX8_write_13 : decode cX8_write 13 = .ok (.aload_n 0, 1) := by decide +kernel
theorem dX8_write_14 : decode cX8_write 14 = .ok (.getfield 58, 3) := by decide +kernel
theorem dX8_write_17 : decode cX8_write 17 = .ok (.sipush 200, 3) := by decide +kernel
theorem dX8_write_20 : decode cX8_write 20 = .ok (.if_icmp .ne 6, 3) := by decide +kernel
theorem dX8_write_23 : decode cX8_write 23 = .ok (.bipush (-3), 2) := by decide +kernel
theorem dX8_write_25 : decode cX8_write 25 = .ok (.ireturn, 1) := by decide +kernel
theorem dX8_write_26 : decode cX8_write 26 = .ok (.aload_n 0, 1) := by decide +kernel
theorem dX8_write_27 : decode cX8_write 27 = .ok (.getfield 7, 3) := by decide +kernel
theorem dX8_write_30 : decode cX8_write 30 = .ok (.aload_n 0, 1) := by decide +kernel
theorem dX8_write_31 : decode cX8_write 31 = .ok (.getfield 58, 3) := by decide +kernel
theorem dX8_write_34 : decode cX8_write 34 = .ok (.iload_n 1, 1) := by decide +kernel
theorem dX8_write_35 : decode cX8_write 35 = .ok (.iastore, 1) := by decide +kernel
theorem dX8_write_36 : decode cX8_write 36 = .ok (.aload_n 0, 1) := by decide +kernel
theorem dX8_write_37 : decode cX8_write 37 = .ok (.dup, 1) := by decide +kernel
theorem dX8_write_38 : decode cX8_write 38 = .ok (.getfield 58, 3) := by decide +kernel
theorem dX8_write_41 : decode cX8_write 41 = .ok (.iconst 1, 1) := by decide +kernel
theorem dX8_write_42 : decode cX8_write 42 = .ok (.iadd, 1) := by decide +kernel
theorem dX8_write_43 : decode cX8_write 43 = .ok (.putfield 58, 3) := by decide +kernel
theorem dX8_write_46 : decode cX8_write 46 = .ok (.aload_n 0, 1) := by decide +kernel
theorem dX8_write_47 : decode cX8_write 47 = .ok (.getfield 58, 3) := by decide +kernel
theorem dX8_write_50 : decode cX8_write 50 = .ok (.ireturn, 1) := by decide +kernel
theorem dX8_wipe_0 : decode cX8_wipe 0 = .ok (.aload_n 0, 1) := by decide +kernel
theorem dX8_wipe_1 : decode cX8_wipe 1 = .ok (.getfield 58, 3) := by decide +kernel
theorem dX8_wipe_4 : decode cX8_wipe 4 = .ok (.istore_n 1, 1) := by decide +kernel
theorem dX8_wipe_5 : decode cX8_wipe 5 = .ok (.aload_n 0, 1) := by decide +kernel
theorem dX8_wipe_6 : decode cX8_wipe 6 = .ok (.iconst 0, 1) := by decide +kernel
theorem dX8_wipe_7 : decode cX8_wipe 7 = .ok (.putfield 58, 3) := by decide +kernel
theorem dX8_wipe_10 : decode cX8_wipe 10 = .ok (.iload_n 1, 1) := by decide +kernel
theorem dX8_wipe_11 : decode cX8_wipe 11 = .ok (.ireturn, 1) := by decide +kernel
theorem dX8_fault_0 : decode cX8_fault 0 = .ok (.aload_n 0, 1) := by decide +kernel
theorem dX8_fault_1 : decode cX8_fault 1 = .ok (.invokevirtual 82, 3) := by decide +kernel
theorem dX8_fault_4 : decode cX8_fault 4 = .ok (.ireturn, 1) := by decide +kernel
theorem dX8_lay_0 : decode cX8_lay 0 = .ok (.aload_n 0, 1) := by decide +kernel
theorem dX8_lay_1 : decode cX8_lay 1 = .ok (.invokevirtual 82, 3) := by decide +kernel
theorem dX8_lay_4 : decode cX8_lay 4 = .ok (.bipush (-4), 2) := by decide +kernel
theorem dX8_lay_6 : decode cX8_lay 6 = .ok (.if_icmp .ne 13, 3) := by decide +kernel
theorem dX8_lay_9 : decode cX8_lay 9 = .ok (.aload_n 0, 1) := by decide +kernel
theorem dX8_lay_10 : decode cX8_lay 10 = .ok (.getfield 13, 3) := by decide +kernel
theorem dX8_lay_13 : decode cX8_lay 13 = .ok (.bipush 36, 2) := by decide +kernel
theorem dX8_lay_15 : decode cX8_lay 15 = .ok (.iaload, 1) := by decide +kernel
theorem dX8_lay_16 : decode cX8_lay 16 = .ok (.ifCond .ne 6, 3) := by decide +kernel
theorem dX8_lay_19 : decode cX8_lay 19 = .ok (.bipush (-2), 2) := by decide +kernel
theorem dX8_lay_21 : decode cX8_lay 21 = .ok (.ireturn, 1) := by decide +kernel
theorem dX8_lay_22 : decode cX8_lay 22 = .ok (.aload_n 0, 1) := by decide +kernel
theorem dX8_lay_23 : decode cX8_lay 23 = .ok (.invokevirtual 44, 3) := by decide +kernel
theorem dX8_lay_26 : decode cX8_lay 26 = .ok (.aload_n 0, 1) := by decide +kernel
theorem dX8_lay_27 : decode cX8_lay 27 = .ok (.getfield 16, 3) := by decide +kernel
theorem dX8_lay_30 : decode cX8_lay 30 = .ok (.bipush 36, 2) := by decide +kernel
theorem dX8_lay_32 : decode cX8_lay 32 = .ok (.iaload, 1) := by decide +kernel
theorem dX8_lay_33 : decode cX8_lay 33 = .ok (.ireturn, 1) := by decide +kernel
theorem dX8_leastOf_0 : decode cX8_leastOf 0 = .ok (.aload_n 0, 1) := by decide +kernel
theorem dX8_leastOf_1 : decode cX8_leastOf 1 = .ok (.getfield 16, 3) := by decide +kernel
theorem dX8_leastOf_4 : decode cX8_leastOf 4 = .ok (.bipush 6, 2) := by decide +kernel
theorem dX8_leastOf_6 : decode cX8_leastOf 6 = .ok (.iload_n 1, 1) := by decide +kernel
theorem dX8_leastOf_7 : decode cX8_leastOf 7 = .ok (.imul, 1) := by decide +kernel
theorem dX8_leastOf_8 : decode cX8_leastOf 8 = .ok (.iaload, 1) := by decide +kernel
theorem dX8_leastOf_9 : decode cX8_leastOf 9 = .ok (.ireturn, 1) := by decide +kernel
theorem dX8_mostOf_0 : decode cX8_mostOf 0 = .ok (.aload_n 0, 1) := by decide +kernel
theorem dX8_mostOf_1 : decode cX8_mostOf 1 = .ok (.getfield 16, 3) := by decide +kernel
theorem dX8_mostOf_4 : decode cX8_mostOf 4 = .ok (.bipush 6, 2) := by decide +kernel
theorem dX8_mostOf_6 : decode cX8_mostOf 6 = .ok (.iload_n 1, 1) := by decide +kernel
theorem dX8_mostOf_7 : decode cX8_mostOf 7 = .ok (.imul, 1) := by decide +kernel
theorem dX8_mostOf_8 : decode cX8_mostOf 8 = .ok (.iconst 1, 1) := by decide +kernel
theorem dX8_mostOf_9 : decode cX8_mostOf 9 = .ok (.iadd, 1) := by decide +kernel
theorem dX8_mostOf_10 : decode cX8_mostOf 10 = .ok (.iaload, 1) := by decide +kernel
theorem dX8_mostOf_11 : decode cX8_mostOf 11 = .ok (.ireturn, 1) := by decide +kernel
theorem dX8_powerOf_0 : decode cX8_powerOf 0 = .ok (.bipush 100, 2) := by decide +kernel
theorem dX8_powerOf_2 : decode cX8_powerOf 2 = .ok (.aload_n 0, 1) := by decide +kernel
theorem dX8_powerOf_3 : decode cX8_powerOf 3 = .ok (.getfield 16, 3) := by decide +kernel
theorem dX8_powerOf_6 : decode cX8_powerOf 6 = .ok (.bipush 6, 2) := by decide +kernel
theorem dX8_powerOf_8 : decode cX8_powerOf 8 = .ok (.iload_n 1, 1) := by decide +kernel
theorem dX8_powerOf_9 : decode cX8_powerOf 9 = .ok (.imul, 1) := by decide +kernel
theorem dX8_powerOf_10 : decode cX8_powerOf 10 = .ok (.iconst 3, 1) := by decide +kernel
theorem dX8_powerOf_11 : decode cX8_powerOf 11 = .ok (.iadd, 1) := by decide +kernel
theorem dX8_powerOf_12 : decode cX8_powerOf 12 = .ok (.iaload, 1) := by decide +kernel
theorem dX8_powerOf_13 : decode cX8_powerOf 13 = .ok (.imul, 1) := by decide +kernel
theorem dX8_powerOf_14 : decode cX8_powerOf 14 = .ok (.iload_n 2, 1) := by decide +kernel
theorem dX8_powerOf_15 : decode cX8_powerOf 15 = .ok (.imul, 1) := by decide +kernel
theorem dX8_powerOf_16 : decode cX8_powerOf 16 = .ok (.aload_n 0, 1) := by decide +kernel
theorem dX8_powerOf_17 : decode cX8_powerOf 17 = .ok (.getfield 16, 3) := by decide +kernel
theorem dX8_powerOf_20 : decode cX8_powerOf 20 = .ok (.bipush 6, 2) := by decide +kernel
theorem dX8_powerOf_22 : decode cX8_powerOf 22 = .ok (.iload_n 1, 1) := by decide +kernel
theorem dX8_powerOf_23 : decode cX8_powerOf 23 = .ok (.imul, 1) := by decide +kernel
theorem dX8_powerOf_24 : decode cX8_powerOf 24 = .ok (.iconst 4, 1) := by decide +kernel
theorem dX8_powerOf_25 : decode cX8_powerOf 25 = .ok (.iadd, 1) := by decide +kernel
theorem dX8_powerOf_26 : decode cX8_powerOf 26 = .ok (.iaload, 1) := by decide +kernel
theorem dX8_powerOf_27 : decode cX8_powerOf 27 = .ok (.iload_n 2, 1) := by decide +kernel
theorem dX8_powerOf_28 : decode cX8_powerOf 28 = .ok (.imul, 1) := by decide +kernel
theorem dX8_powerOf_29 : decode cX8_powerOf 29 = .ok (.iload_n 2, 1) := by decide +kernel
theorem dX8_powerOf_30 : decode cX8_powerOf 30 = .ok (.imul, 1) := by decide +kernel
theorem dX8_powerOf_31 : decode cX8_powerOf 31 = .ok (.iadd, 1) := by decide +kernel
theorem dX8_powerOf_32 : decode cX8_powerOf 32 = .ok (.istore 4, 2) := by decide +kernel
theorem dX8_powerOf_34 : decode cX8_powerOf 34 = .ok (.aload_n 0, 1) := by decide +kernel
theorem dX8_powerOf_35 : decode cX8_powerOf 35 = .ok (.getfield 16, 3) := by decide +kernel
theorem dX8_powerOf_38 : decode cX8_powerOf 38 = .ok (.bipush 6, 2) := by decide +kernel
theorem dX8_powerOf_40 : decode cX8_powerOf 40 = .ok (.iload_n 1, 1) := by decide +kernel
theorem dX8_powerOf_41 : decode cX8_powerOf 41 = .ok (.imul, 1) := by decide +kernel
theorem dX8_powerOf_42 : decode cX8_powerOf 42 = .ok (.iconst 2, 1) := by decide +kernel
theorem dX8_powerOf_43 : decode cX8_powerOf 43 = .ok (.iadd, 1) := by decide +kernel
theorem dX8_powerOf_44 : decode cX8_powerOf 44 = .ok (.iaload, 1) := by decide +kernel
theorem dX8_powerOf_45 : decode cX8_powerOf 45 = .ok (.iload 4, 2) := by decide +kernel
theorem dX8_powerOf_47 : decode cX8_powerOf 47 = .ok (.bipush 60, 2) := by decide +kernel
theorem dX8_powerOf_49 : decode cX8_powerOf 49 = .ok (.iload_n 3, 1) := by decide +kernel
theorem dX8_powerOf_50 : decode cX8_powerOf 50 = .ok (.iadd, 1) := by decide +kernel
theorem dX8_powerOf_51 : decode cX8_powerOf 51 = .ok (.imul, 1) := by decide +kernel
theorem dX8_powerOf_52 : decode cX8_powerOf 52 = .ok (.sipush 10000, 3) := by decide +kernel
theorem dX8_powerOf_55 : decode cX8_powerOf 55 = .ok (.idiv, 1) := by decide +kernel
theorem dX8_powerOf_56 : decode cX8_powerOf 56 = .ok (.iadd, 1) := by decide +kernel
theorem dX8_powerOf_57 : decode cX8_powerOf 57 = .ok (.ireturn, 1) := by decide +kernel
theorem dX8_lift_0 : decode cX8_lift 0 = .ok (.aload_n 0, 1) := by decide +kernel
theorem dX8_lift_1 : decode cX8_lift 1 = .ok (.getfield 19, 3) := by decide +kernel
theorem dX8_lift_4 : decode cX8_lift 4 = .ok (.iconst 2, 1) := by decide +kernel
theorem dX8_lift_5 : decode cX8_lift 5 = .ok (.iaload, 1) := by decide +kernel
theorem dX8_lift_6 : decode cX8_lift 6 = .ok (.aload_n 0, 1) := by decide +kernel
theorem dX8_lift_7 : decode cX8_lift 7 = .ok (.getfield 19, 3) := by decide +kernel
theorem dX8_lift_10 : decode cX8_lift 10 = .ok (.iconst 3, 1) := by decide +kernel
theorem dX8_lift_11 : decode cX8_lift 11 = .ok (.iaload, 1) := by decide +kernel
theorem dX8_lift_12 : decode cX8_lift 12 = .ok (.if_icmp .le 19, 3) := by decide +kernel
theorem dX8_lift_15 : decode cX8_lift 15 = .ok (.aload_n 0, 1) := by decide +kernel
theorem dX8_lift_16 : decode cX8_lift 16 = .ok (.getfield 19, 3) := by decide +kernel
theorem dX8_lift_19 : decode cX8_lift 19 = .ok (.iconst 2, 1) := by decide +kernel
theorem dX8_lift_20 : decode cX8_lift 20 = .ok (.iaload, 1) := by decide +kernel
theorem dX8_lift_21 : decode cX8_lift 21 = .ok (.aload_n 0, 1) := by decide +kernel
theorem dX8_lift_22 : decode cX8_lift 22 = .ok (.getfield 19, 3) := by decide +kernel
theorem dX8_lift_25 : decode cX8_lift 25 = .ok (.iconst 3, 1) := by decide +kernel
theorem dX8_lift_26 : decode cX8_lift 26 = .ok (.iaload, 1) := by decide +kernel
theorem dX8_lift_27 : decode cX8_lift 27 = .ok (.isub, 1) := by decide +kernel
theorem dX8_lift_28 : decode cX8_lift 28 = .ok (.goto 4, 3) := by decide +kernel
theorem dX8_lift_31 : decode cX8_lift 31 = .ok (.iconst 0, 1) := by decide +kernel
theorem dX8_lift_32 : decode cX8_lift 32 = .ok (.ireturn, 1) := by decide +kernel
theorem dX8_has_0 : decode cX8_has 0 = .ok (.iload_n 0, 1) := by decide +kernel
theorem dX8_has_1 : decode cX8_has 1 = .ok (.iload_n 1, 1) := by decide +kernel
theorem dX8_has_2 : decode cX8_has 2 = .ok (.ishr, 1) := by decide +kernel
theorem dX8_has_3 : decode cX8_has 3 = .ok (.iconst 1, 1) := by decide +kernel
theorem dX8_has_4 : decode cX8_has 4 = .ok (.iand, 1) := by decide +kernel
theorem dX8_has_5 : decode cX8_has 5 = .ok (.iconst 1, 1) := by decide +kernel
theorem dX8_has_6 : decode cX8_has 6 = .ok (.if_icmp .ne 7, 3) := by decide +kernel
theorem dX8_has_9 : decode cX8_has 9 = .ok (.iconst 1, 1) := by decide +kernel
theorem dX8_has_10 : decode cX8_has 10 = .ok (.goto 4, 3) := by decide +kernel
theorem dX8_has_13 : decode cX8_has 13 = .ok (.iconst 0, 1) := by decide +kernel
theorem dX8_has_14 : decode cX8_has 14 = .ok (.ireturn, 1) := by decide +kernel
theorem dX8_sumOf_0 : decode cX8_sumOf 0 = .ok (.iconst 0, 1) := by decide +kernel
theorem dX8_sumOf_1 : decode cX8_sumOf 1 = .ok (.istore_n 3, 1) := by decide +kernel
theorem dX8_sumOf_2 : decode cX8_sumOf 2 = .ok (.iconst 0, 1) := by decide +kernel
theorem dX8_sumOf_3 : decode cX8_sumOf 3 = .ok (.istore 4, 2) := by decide +kernel
theorem dX8_sumOf_5 : decode cX8_sumOf 5 = .ok (.iload 4, 2) := by decide +kernel
theorem dX8_sumOf_7 : decode cX8_sumOf 7 = .ok (.aload_n 0, 1) := by decide +kernel
theorem dX8_sumOf_8 : decode cX8_sumOf 8 = .ok (.getfield 16, 3) := by decide +kernel
theorem dX8_sumOf_11 : decode cX8_sumOf 11 = .ok (.bipush 36, 2) := by decide +kernel
theorem dX8_sumOf_13 : decode cX8_sumOf 13 = .ok (.iaload, 1) := by decide +kernel
theorem dX8_sumOf_14 : decode cX8_sumOf 14 = .ok (.if_icmp .ge 37, 3) := by decide +kernel
theorem dX8_sumOf_17 : decode cX8_sumOf 17 = .ok (.iload_n 3, 1) := by decide +kernel
theorem dX8_sumOf_18 : decode cX8_sumOf 18 = .ok (.iload_n 1, 1) := by decide +kernel
theorem dX8_sumOf_19 : decode cX8_sumOf 19 = .ok (.iload 4, 2) := by decide +kernel
theorem dX8_sumOf_21 : decode cX8_sumOf 21 = .ok (.invokestatic 86, 3) := by decide +kernel
theorem dX8_sumOf_24 : decode cX8_sumOf 24 = .ok (.ifCond .eq 18, 3) := by decide +kernel
theorem dX8_sumOf_27 : decode cX8_sumOf 27 = .ok (.aload_n 0, 1) := by decide +kernel
theorem dX8_sumOf_28 : decode cX8_sumOf 28 = .ok (.getfield 16, 3) := by decide +kernel
theorem dX8_sumOf_31 : decode cX8_sumOf 31 = .ok (.bipush 6, 2) := by decide +kernel
theorem dX8_sumOf_33 : decode cX8_sumOf 33 = .ok (.iload 4, 2) := by decide +kernel
theorem dX8_sumOf_35 : decode cX8_sumOf 35 = .ok (.imul, 1) := by decide +kernel
theorem dX8_sumOf_36 : decode cX8_sumOf 36 = .ok (.iload_n 2, 1) := by decide +kernel
theorem dX8_sumOf_37 : decode cX8_sumOf 37 = .ok (.iadd, 1) := by decide +kernel
theorem dX8_sumOf_38 : decode cX8_sumOf 38 = .ok (.iaload, 1) := by decide +kernel
theorem dX8_sumOf_39 : decode cX8_sumOf 39 = .ok (.goto 4, 3) := by decide +kernel
theorem dX8_sumOf_42 : decode cX8_sumOf 42 = .ok (.iconst 0, 1) := by decide +kernel
theorem dX8_sumOf_43 : decode cX8_sumOf 43 = .ok (.iadd, 1) := by decide +kernel
theorem dX8_sumOf_44 : decode cX8_sumOf 44 = .ok (.istore_n 3, 1) := by decide +kernel
theorem dX8_sumOf_45 : decode cX8_sumOf 45 = .ok (.iinc 4 1, 3) := by decide +kernel
theorem dX8_sumOf_48 : decode cX8_sumOf 48 = .ok (.goto (-43), 3) := by decide +kernel
theorem dX8_sumOf_51 : decode cX8_sumOf 51 = .ok (.iload_n 3, 1) := by decide +kernel
theorem dX8_sumOf_52 : decode cX8_sumOf 52 = .ok (.ireturn, 1) := by decide +kernel
theorem dX8_can_0 : decode cX8_can 0 = .ok (.iload_n 2, 1) := by decide +kernel
theorem dX8_can_1 : decode cX8_can 1 = .ok (.aload_n 0, 1) := by decide +kernel
theorem dX8_can_2 : decode cX8_can 2 = .ok (.iload_n 1, 1) := by decide +kernel
theorem dX8_can_3 : decode cX8_can 3 = .ok (.iconst 0, 1) := by decide +kernel
theorem dX8_can_4 : decode cX8_can 4 = .ok (.invokevirtual 90, 3) := by decide +kernel
theorem dX8_can_7 : decode cX8_can 7 = .ok (.aload_n 0, 1) := by decide +kernel
theorem dX8_can_8 : decode cX8_can 8 = .ok (.iload_n 1, 1) := by decide +kernel
theorem dX8_can_9 : decode cX8_can 9 = .ok (.iconst 1, 1) := by decide +kernel
theorem dX8_can_10 : decode cX8_can 10 = .ok (.invokevirtual 90, 3) := by decide +kernel
theorem dX8_can_13 : decode cX8_can 13 = .ok (.invokestatic 61, 3) := by decide +kernel
theorem dX8_can_16 : decode cX8_can 16 = .ok (.ireturn, 1) := by decide +kernel
theorem dX8_lowest_0 : decode cX8_lowest 0 = .ok (.iconst 0, 1) := by decide +kernel
theorem dX8_lowest_1 : decode cX8_lowest 1 = .ok (.istore_n 1, 1) := by decide +kernel
theorem dX8_lowest_2 : decode cX8_lowest 2 = .ok (.iload_n 0, 1) := by decide +kernel
theorem dX8_lowest_3 : decode cX8_lowest 3 = .ok (.iload_n 1, 1) := by decide +kernel
theorem dX8_lowest_4 : decode cX8_lowest 4 = .ok (.invokestatic 86, 3) := by decide +kernel
theorem dX8_lowest_7 : decode cX8_lowest 7 = .ok (.ifCond .ne 9, 3) := by decide +kernel
theorem dX8_lowest_10 : decode cX8_lowest 10 = .ok (.iinc 1 1, 3) := by decide +kernel
theorem dX8_lowest_13 : decode cX8_lowest 13 = .ok (.goto (-11), 3) := by decide +kernel
theorem dX8_lowest_16 : decode cX8_lowest 16 = .ok (.iload_n 1, 1) := by decide +kernel
theorem dX8_lowest_17 : decode cX8_lowest 17 = .ok (.ireturn, 1) := by decide +kernel
theorem dX8_leastBy_0 : decode cX8_leastBy 0 = .ok (.ldc 94, 2) := by decide +kernel
theorem dX8_leastBy_2 : decode cX8_leastBy 2 = .ok (.istore 5, 2) := by decide +kernel
theorem dX8_leastBy_4 : decode cX8_leastBy 4 = .ok (.aload_n 0, 1) := by decide +kernel
theorem dX8_leastBy_5 : decode cX8_leastBy 5 = .ok (.iload_n 1, 1) := by decide +kernel
theorem dX8_leastBy_6 : decode cX8_leastBy 6 = .ok (.invokevirtual 95, 3) := by decide +kernel
theorem dX8_leastBy_9 : decode cX8_leastBy 9 = .ok (.istore 6, 2) := by decide +kernel
theorem dX8_leastBy_11 : decode cX8_leastBy 11 = .ok (.iload 6, 2) := by decide +kernel
theorem dX8_leastBy_13 : decode cX8_leastBy 13 = .ok (.aload_n 0, 1) := by decide +kernel
theorem dX8_leastBy_14 : decode cX8_leastBy 14 = .ok (.iload_n 1, 1) := by decide +kernel
theorem dX8_leastBy_15 : decode cX8_leastBy 15 = .ok (.invokevirtual 99, 3) := by decide +kernel
theorem dX8_leastBy_18 : decode cX8_leastBy 18 = .ok (.if_icmp .gt 71, 3) := by decide +kernel
theorem dX8_leastBy_21 : decode cX8_leastBy 21 = .ok (.iload 6, 2) := by decide +kernel
theorem dX8_leastBy_23 : decode cX8_leastBy 23 = .ok (.iload_n 3, 1) := by decide +kernel
theorem dX8_leastBy_24 : decode cX8_leastBy 24 = .ok (.if_icmp .gt 65, 3) := by decide +kernel
theorem dX8_leastBy_27 : decode cX8_leastBy 27 = .ok (.aload_n 0, 1) := by decide +kernel
theorem dX8_leastBy_28 : decode cX8_leastBy 28 = .ok (.getfield 31, 3) := by decide +kernel
theorem dX8_leastBy_31 : decode cX8_leastBy 31 = .ok (.sipush 481, 3) := by decide +kernel
theorem dX8_leastBy_34 : decode cX8_leastBy 34 = .ok (.iload_n 2, 1) := by decide +kernel
theorem dX8_leastBy_35 : decode cX8_leastBy 35 = .ok (.iconst 2, 1) := by decide +kernel
theorem dX8_leastBy_36 : decode cX8_leastBy 36 = .ok (.idiv, 1) := by decide +kernel
theorem dX8_leastBy_37 : decode cX8_leastBy 37 = .ok (.imul, 1) := by decide +kernel
theorem dX8_leastBy_38 : decode cX8_leastBy 38 = .ok (.iload_n 3, 1) := by decide +kernel
theorem dX8_leastBy_39 : decode cX8_leastBy 39 = .ok (.iadd, 1) := by decide +kernel
theorem dX8_leastBy_40 : decode cX8_leastBy 40 = .ok (.iload 6, 2) := by decide +kernel
theorem dX8_leastBy_42 : decode cX8_leastBy 42 = .ok (.isub, 1) := by decide +kernel
theorem dX8_leastBy_43 : decode cX8_leastBy 43 = .ok (.iaload, 1) := by decide +kernel
theorem dX8_leastBy_44 : decode cX8_leastBy 44 = .ok (.istore 7, 2) := by decide +kernel
theorem dX8_leastBy_46 : decode cX8_leastBy 46 = .ok (.iload 7, 2) := by decide +kernel
theorem dX8_leastBy_48 : decode cX8_leastBy 48 = .ok (.ldc 94, 2) := by decide +kernel
theorem dX8_leastBy_50 : decode cX8_leastBy 50 = .ok (.if_icmp .ge 33, 3) := by decide +kernel
theorem dX8_leastBy_53 : decode cX8_leastBy 53 = .ok (.iload 7, 2) := by decide +kernel
theorem dX8_leastBy_55 : decode cX8_leastBy 55 = .ok (.aload_n 0, 1) := by decide +kernel
theorem dX8_leastBy_56 : decode cX8_leastBy 56 = .ok (.iload_n 1, 1) := by decide +kernel
theorem dX8_leastBy_57 : decode cX8_leastBy 57 = .ok (.iload 6, 2) := by decide +kernel
theorem dX8_leastBy_59 : decode cX8_leastBy 59 = .ok (.iload 4, 2) := by decide +kernel
theorem dX8_leastBy_61 : decode cX8_leastBy 61 = .ok (.invokevirtual 102, 3) := by decide +kernel
theorem dX8_leastBy_64 : decode cX8_leastBy 64 = .ok (.iadd, 1) := by decide +kernel
theorem dX8_leastBy_65 : decode cX8_leastBy 65 = .ok (.istore 8, 2) := by decide +kernel
theorem dX8_leastBy_67 : decode cX8_leastBy 67 = .ok (.iload 8, 2) := by decide +kernel
theorem dX8_leastBy_69 : decode cX8_leastBy 69 = .ok (.iload 5, 2) := by decide +kernel
theorem dX8_leastBy_71 : decode cX8_leastBy 71 = .ok (.if_icmp .ge 8, 3) := by decide +kernel
theorem dX8_leastBy_74 : decode cX8_leastBy 74 = .ok (.iload 8, 2) := by decide +kernel
theorem dX8_leastBy_76 : decode cX8_leastBy 76 = .ok (.goto 5, 3) := by decide +kernel
theorem dX8_leastBy_79 : decode cX8_leastBy 79 = .ok (.iload 5, 2) := by decide +kernel
theorem dX8_leastBy_81 : decode cX8_leastBy 81 = .ok (.istore 5, 2) := by decide +kernel
theorem dX8_leastBy_83 : decode cX8_leastBy 83 = .ok (.iinc 6 1, 3) := by decide +kernel
theorem dX8_leastBy_86 : decode cX8_leastBy 86 = .ok (.goto (-75), 3) := by decide +kernel
theorem dX8_leastBy_89 : decode cX8_leastBy 89 = .ok (.iload 5, 2) := by decide +kernel
theorem dX8_leastBy_91 : decode cX8_leastBy 91 = .ok (.ireturn, 1) := by decide +kernel
theorem dX8_layTable_0 : decode cX8_layTable 0 = .ok (.aload_n 0, 1) := by decide +kernel
theorem dX8_layTable_1 : decode cX8_layTable 1 = .ok (.invokevirtual 106, 3) := by decide +kernel
theorem dX8_layTable_4 : decode cX8_layTable 4 = .ok (.istore_n 1, 1) := by decide +kernel
theorem dX8_layTable_5 : decode cX8_layTable 5 = .ok (.aload_n 0, 1) := by decide +kernel
theorem dX8_layTable_6 : decode cX8_layTable 6 = .ok (.getfield 51, 3) := by decide +kernel
theorem dX8_layTable_9 : decode cX8_layTable 9 = .ok (.ifCond .eq 12, 3) := by decide +kernel
theorem dX8_layTable_12 : decode cX8_layTable 12 = .ok (.aload_n 0, 1) := by decide +kernel
theorem dX8_layTable_13 : decode cX8_layTable 13 = .ok (.getfield 109, 3) := by decide +kernel
theorem dX8_layTable_16 : decode cX8_layTable 16 = .ok (.iload_n 1, 1) := by decide +kernel
theorem dX8_layTable_17 : decode cX8_layTable 17 = .ok (.if_icmp .ne 4, 3) := by decide +kernel
theorem dX8_layTable_20 : decode cX8_layTable 20 = .ok (.return_, 1) := by decide +kernel
theorem dX8_layTable_21 : decode cX8_layTable 21 = .ok (.aload_n 0, 1) := by decide +kernel
theorem dX8_layTable_22 : decode cX8_layTable 22 = .ok (.iconst 1, 1) := by decide +kernel
theorem dX8_layTable_23 : decode cX8_layTable 23 = .ok (.putfield 51, 3) := by decide +kernel
theorem dX8_layTable_26 : decode cX8_layTable 26 = .ok (.aload_n 0, 1) := by decide +kernel
theorem dX8_layTable_27 : decode cX8_layTable 27 = .ok (.iload_n 1, 1) := by decide +kernel
theorem dX8_layTable_28 : decode cX8_layTable 28 = .ok (.putfield 109, 3) := by decide +kernel
theorem dX8_layTable_31 : decode cX8_layTable 31 = .ok (.iconst 0, 1) := by decide +kernel
theorem dX8_layTable_32 : decode cX8_layTable 32 = .ok (.istore_n 2, 1) := by decide +kernel
theorem dX8_layTable_33 : decode cX8_layTable 33 = .ok (.iload_n 2, 1) := by decide +kernel
theorem dX8_layTable_34 : decode cX8_layTable 34 = .ok (.sipush 481, 3) := by decide +kernel
theorem dX8_layTable_37 : decode cX8_layTable 37 = .ok (.if_icmp .ge 25, 3) := by decide +kernel
theorem dX8_layTable_40 : decode cX8_layTable 40 = .ok (.aload_n 0, 1) := by decide +kernel
theorem dX8_layTable_41 : decode cX8_layTable 41 = .ok (.getfield 31, 3) := by decide +kernel
theorem dX8_layTable_44 : decode cX8_layTable 44 = .ok (.iload_n 2, 1) := by decide +kernel
theorem dX8_layTable_45 : decode cX8_layTable 45 = .ok (.iload_n 2, 1) := by decide +kernel
theorem dX8_layTable_46 : decode cX8_layTable 46 = .ok (.ifCond .ne 7, 3) := by decide +kernel
theorem dX8_layTable_49 : decode cX8_layTable 49 = .ok (.iconst 0, 1) := by decide +kernel
theorem dX8_layTable_50 : decode cX8_layTable 50 = .ok (.goto 5, 3) := by decide +kernel
theorem dX8_layTable_53 : decode cX8_layTable 53 = .ok (.ldc 94, 2) := by decide +kernel
theorem dX8_layTable_55 : decode cX8_layTable 55 = .ok (.iastore, 1) := by decide +kernel
theorem dX8_layTable_56 : decode cX8_layTable 56 = .ok (.iinc 2 1, 3) := by decide +kernel
theorem dX8_layTable_59 : decode cX8_layTable 59 = .ok (.goto (-26), 3) := by decide +kernel
theorem dX8_layTable_62 : decode cX8_layTable 62 = .ok (.iconst 2, 1) := by decide +kernel
theorem dX8_layTable_63 : decode cX8_layTable 63 = .ok (.istore_n 2, 1) := by decide +kernel
theorem dX8_layTable_64 : decode cX8_layTable 64 = .ok (.iload_n 2, 1) := by decide +kernel
theorem dX8_layTable_65 : decode cX8_layTable 65 = .ok (.iconst 1, 1) := by decide +kernel
theorem dX8_layTable_66 : decode cX8_layTable 66 = .ok (.aload_n 0, 1) := by decide +kernel
theorem dX8_layTable_67 : decode cX8_layTable 67 = .ok (.getfield 16, 3) := by decide +kernel
theorem dX8_layTable_70 : decode cX8_layTable 70 = .ok (.bipush 36, 2) := by decide +kernel
theorem dX8_layTable_72 : decode cX8_layTable 72 = .ok (.iaload, 1) := by decide +kernel
theorem dX8_layTable_73 : decode cX8_layTable 73 = .ok (.ishl, 1) := by decide +kernel
theorem dX8_layTable_74 : decode cX8_layTable 74 = .ok (.if_icmp .ge 59, 3) := by decide +kernel
theorem dX8_layTable_77 : decode cX8_layTable 77 = .ok (.iload_n 2, 1) := by decide +kernel
theorem dX8_layTable_78 : decode cX8_layTable 78 = .ok (.invokestatic 112, 3) := by decide +kernel
theorem dX8_layTable_81 : decode cX8_layTable 81 = .ok (.istore_n 3, 1) := by decide +kernel
theorem dX8_layTable_82 : decode cX8_layTable 82 = .ok (.iconst 0, 1) := by decide +kernel
theorem dX8_layTable_83 : decode cX8_layTable 83 = .ok (.istore 4, 2) := by decide +kernel
theorem dX8_layTable_85 : decode cX8_layTable 85 = .ok (.iload 4, 2) := by decide +kernel
theorem dX8_layTable_87 : decode cX8_layTable 87 = .ok (.sipush 481, 3) := by decide +kernel
theorem dX8_layTable_90 : decode cX8_layTable 90 = .ok (.if_icmp .ge 37, 3) := by decide +kernel
theorem dX8_layTable_93 : decode cX8_layTable 93 = .ok (.aload_n 0, 1) := by decide +kernel
theorem dX8_layTable_94 : decode cX8_layTable 94 = .ok (.getfield 31, 3) := by decide +kernel
theorem dX8_layTable_97 : decode cX8_layTable 97 = .ok (.sipush 481, 3) := by decide +kernel
theorem dX8_layTable_100 : decode cX8_layTable 100 = .ok (.iload_n 2, 1) := by decide +kernel
theorem dX8_layTable_101 : decode cX8_layTable 101 = .ok (.iconst 2, 1) := by decide +kernel
theorem dX8_layTable_102 : decode cX8_layTable 102 = .ok (.idiv, 1) := by decide +kernel
theorem dX8_layTable_103 : decode cX8_layTable 103 = .ok (.imul, 1) := by decide +kernel
theorem dX8_layTable_104 : decode cX8_layTable 104 = .ok (.iload 4, 2) := by decide +kernel
theorem dX8_layTable_106 : decode cX8_layTable 106 = .ok (.iadd, 1) := by decide +kernel
theorem dX8_layTable_107 : decode cX8_layTable 107 = .ok (.aload_n 0, 1) := by decide +kernel
theorem dX8_layTable_108 : decode cX8_layTable 108 = .ok (.iload_n 3, 1) := by decide +kernel
theorem dX8_layTable_109 : decode cX8_layTable 109 = .ok (.iload_n 2, 1) := by decide +kernel
theorem dX8_layTable_110 : decode cX8_layTable 110 = .ok (.iload_n 2, 1) := by decide +kernel
theorem dX8_layTable_111 : decode cX8_layTable 111 = .ok (.iconst 1, 1) := by decide +kernel
theorem dX8_layTable_112 : decode cX8_layTable 112 = .ok (.isub, 1) := by decide +kernel
theorem dX8_layTable_113 : decode cX8_layTable 113 = .ok (.iand, 1) := by decide +kernel
theorem dX8_layTable_114 : decode cX8_layTable 114 = .ok (.iload 4, 2) := by decide +kernel
theorem dX8_layTable_116 : decode cX8_layTable 116 = .ok (.iload_n 1, 1) := by decide +kernel
theorem dX8_layTable_117 : decode cX8_layTable 117 = .ok (.invokevirtual 115, 3) := by decide +kernel
theorem dX8_layTable_120 : decode cX8_layTable 120 = .ok (.iastore, 1) := by decide +kernel
theorem dX8_layTable_121 : decode cX8_layTable 121 = .ok (.iinc 4 1, 3) := by decide +kernel
theorem dX8_layTable_124 : decode cX8_layTable 124 = .ok (.goto (-39), 3) := by decide +kernel
theorem dX8_layTable_127 : decode cX8_layTable 127 = .ok (.iinc 2 2, 3) := by decide +kernel
theorem dX8_layTable_130 : decode cX8_layTable 130 = .ok (.goto (-66), 3) := by decide +kernel
theorem dX8_layTable_133 : decode cX8_layTable 133 = .ok (.return_, 1) := by decide +kernel
theorem dX8_leastPower_0 : decode cX8_leastPower 0 = .ok (.iload_n 1, 1) := by decide +kernel
theorem dX8_leastPower_1 : decode cX8_leastPower 1 = .ok (.iconst 2, 1) := by decide +kernel
theorem dX8_leastPower_2 : decode cX8_leastPower 2 = .ok (.irem, 1) := by decide +kernel
theorem dX8_leastPower_3 : decode cX8_leastPower 3 = .ok (.ifCond .ne 20, 3) := by decide +kernel
theorem dX8_leastPower_6 : decode cX8_leastPower 6 = .ok (.aload_n 0, 1) := by decide +kernel
theorem dX8_leastPower_7 : decode cX8_leastPower 7 = .ok (.getfield 31, 3) := by decide +kernel
theorem dX8_leastPower_10 : decode cX8_leastPower 10 = .ok (.sipush 481, 3) := by decide +kernel
theorem dX8_leastPower_13 : decode cX8_leastPower 13 = .ok (.iload_n 1, 1) := by decide +kernel
theorem dX8_leastPower_14 : decode cX8_leastPower 14 = .ok (.iconst 2, 1) := by decide +kernel
theorem dX8_leastPower_15 : decode cX8_leastPower 15 = .ok (.idiv, 1) := by decide +kernel
theorem dX8_leastPower_16 : decode cX8_leastPower 16 = .ok (.imul, 1) := by decide +kernel
theorem dX8_leastPower_17 : decode cX8_leastPower 17 = .ok (.iload_n 2, 1) := by decide +kernel
theorem dX8_leastPower_18 : decode cX8_leastPower 18 = .ok (.iadd, 1) := by decide +kernel
theorem dX8_leastPower_19 : decode cX8_leastPower 19 = .ok (.iaload, 1) := by decide +kernel
theorem dX8_leastPower_20 : decode cX8_leastPower 20 = .ok (.goto 16, 3) := by decide +kernel
theorem dX8_leastPower_23 : decode cX8_leastPower 23 = .ok (.aload_n 0, 1) := by decide +kernel
theorem dX8_leastPower_24 : decode cX8_leastPower 24 = .ok (.iconst 0, 1) := by decide +kernel
theorem dX8_leastPower_25 : decode cX8_leastPower 25 = .ok (.iload_n 1, 1) := by decide +kernel
theorem dX8_leastPower_26 : decode cX8_leastPower 26 = .ok (.iconst 1, 1) := by decide +kernel
theorem dX8_leastPower_27 : decode cX8_leastPower 27 = .ok (.isub, 1) := by decide +kernel
theorem dX8_leastPower_28 : decode cX8_leastPower 28 = .ok (.iload_n 2, 1) := by decide +kernel
theorem dX8_leastPower_29 : decode cX8_leastPower 29 = .ok (.aload_n 0, 1) := by decide +kernel
theorem dX8_leastPower_30 : decode cX8_leastPower 30 = .ok (.getfield 109, 3) := by decide +kernel
theorem dX8_leastPower_33 : decode cX8_leastPower 33 = .ok (.invokevirtual 115, 3) := by decide +kernel
theorem dX8_leastPower_36 : decode cX8_leastPower 36 = .ok (.ireturn, 1) := by decide +kernel
theorem dX8_layShare_0 : decode cX8_layShare 0 = .ok (.iload_n 1, 1) := by decide +kernel
theorem dX8_layShare_1 : decode cX8_layShare 1 = .ok (.istore_n 3, 1) := by decide +kernel
theorem dX8_layShare_2 : decode cX8_layShare 2 = .ok (.iload_n 2, 1) := by decide +kernel
theorem dX8_layShare_3 : decode cX8_layShare 3 = .ok (.istore 4, 2) := by decide +kernel
theorem dX8_layShare_5 : decode cX8_layShare 5 = .ok (.iconst 0, 1) := by decide +kernel
theorem dX8_layShare_6 : decode cX8_layShare 6 = .ok (.istore 5, 2) := by decide +kernel
theorem dX8_layShare_8 : decode cX8_layShare 8 = .ok (.iload 5, 2) := by decide +kernel
theorem dX8_layShare_10 : decode cX8_layShare 10 = .ok (.aload_n 0, 1) := by decide +kernel
theorem dX8_layShare_11 : decode cX8_layShare 11 = .ok (.getfield 16, 3) := by decide +kernel
theorem dX8_layShare_14 : decode cX8_layShare 14 = .ok (.bipush 36, 2) := by decide +kernel
theorem dX8_layShare_16 : decode cX8_layShare 16 = .ok (.iaload, 1) := by decide +kernel
theorem dX8_layShare_17 : decode cX8_layShare 17 = .ok (.if_icmp .ge 138, 3) := by decide +kernel
theorem dX8_layShare_20 : decode cX8_layShare 20 = .ok (.aload_n 0, 1) := by decide +kernel
theorem dX8_layShare_21 : decode cX8_layShare 21 = .ok (.getfield 34, 3) := by decide +kernel
theorem dX8_layShare_24 : decode cX8_layShare 24 = .ok (.iload 5, 2) := by decide +kernel
theorem dX8_layShare_26 : decode cX8_layShare 26 = .ok (.iconst 0, 1) := by decide +kernel
theorem dX8_layShare_27 : decode cX8_layShare 27 = .ok (.iastore, 1) := by decide +kernel
theorem dX8_layShare_28 : decode cX8_layShare 28 = .ok (.iload_n 1, 1) := by decide +kernel
theorem dX8_layShare_29 : decode cX8_layShare 29 = .ok (.iload 5, 2) := by decide +kernel
theorem dX8_layShare_31 : decode cX8_layShare 31 = .ok (.invokestatic 86, 3) := by decide +kernel
theorem dX8_layShare_34 : decode cX8_layShare 34 = .ok (.ifCond .eq 115, 3) := by decide +kernel
theorem dX8_layShare_37 : decode cX8_layShare 37 = .ok (.aload_n 0, 1) := by decide +kernel
theorem dX8_layShare_38 : decode cX8_layShare 38 = .ok (.iload_n 3, 1) := by decide +kernel
theorem dX8_layShare_39 : decode cX8_layShare 39 = .ok (.iload 4, 2) := by decide +kernel
theorem dX8_layShare_41 : decode cX8_layShare 41 = .ok (.invokevirtual 119, 3) := by decide +kernel
theorem dX8_layShare_44 : decode cX8_layShare 44 = .ok (.istore 6, 2) := by decide +kernel
theorem dX8_layShare_46 : decode cX8_layShare 46 = .ok (.iload_n 3, 1) := by decide +kernel
theorem dX8_layShare_47 : decode cX8_layShare 47 = .ok (.iconst 1, 1) := by decide +kernel
theorem dX8_layShare_48 : decode cX8_layShare 48 = .ok (.iload 5, 2) := by decide +kernel
theorem dX8_layShare_50 : decode cX8_layShare 50 = .ok (.ishl, 1) := by decide +kernel
theorem dX8_layShare_51 : decode cX8_layShare 51 = .ok (.isub, 1) := by decide +kernel
theorem dX8_layShare_52 : decode cX8_layShare 52 = .ok (.istore_n 3, 1) := by decide +kernel
theorem dX8_layShare_53 : decode cX8_layShare 53 = .ok (.aload_n 0, 1) := by decide +kernel
theorem dX8_layShare_54 : decode cX8_layShare 54 = .ok (.iload 5, 2) := by decide +kernel
theorem dX8_layShare_56 : decode cX8_layShare 56 = .ok (.invokevirtual 95, 3) := by decide +kernel
theorem dX8_layShare_59 : decode cX8_layShare 59 = .ok (.istore 7, 2) := by decide +kernel
theorem dX8_layShare_61 : decode cX8_layShare 61 = .ok (.iload 7, 2) := by decide +kernel
theorem dX8_layShare_63 : decode cX8_layShare 63 = .ok (.iload 4, 2) := by decide +kernel
theorem dX8_layShare_65 : decode cX8_layShare 65 = .ok (.if_icmp .gt 62, 3) := by decide +kernel
theorem dX8_layShare_68 : decode cX8_layShare 68 = .ok (.aload_n 0, 1) := by decide +kernel
theorem dX8_layShare_69 : decode cX8_layShare 69 = .ok (.getfield 31, 3) := by decide +kernel
theorem dX8_layShare_72 : decode cX8_layShare 72 = .ok (.sipush 481, 3) := by decide +kernel
theorem dX8_layShare_75 : decode cX8_layShare 75 = .ok (.iload_n 3, 1) := by decide +kernel
theorem dX8_layShare_76 : decode cX8_layShare 76 = .ok (.iconst 2, 1) := by decide +kernel
theorem dX8_layShare_77 : decode cX8_layShare 77 = .ok (.idiv, 1) := by decide +kernel
theorem dX8_layShare_78 : decode cX8_layShare 78 = .ok (.imul, 1) := by decide +kernel
theorem dX8_layShare_79 : decode cX8_layShare 79 = .ok (.iload 4, 2) := by decide +kernel
theorem dX8_layShare_81 : decode cX8_layShare 81 = .ok (.iadd, 1) := by decide +kernel
theorem dX8_layShare_82 : decode cX8_layShare 82 = .ok (.iload 7, 2) := by decide +kernel
theorem dX8_layShare_84 : decode cX8_layShare 84 = .ok (.isub, 1) := by decide +kernel
theorem dX8_layShare_85 : decode cX8_layShare 85 = .ok (.iaload, 1) := by decide +kernel
theorem dX8_layShare_86 : decode cX8_layShare 86 = .ok (.ldc 94, 2) := by decide +kernel
theorem dX8_layShare_88 : decode cX8_layShare 88 = .ok (.if_icmp .ge 39, 3) := by decide +kernel
theorem dX8_layShare_91 : decode cX8_layShare 91 = .ok (.aload_n 0, 1) := by decide +kernel
theorem dX8_layShare_92 : decode cX8_layShare 92 = .ok (.iload 5, 2) := by decide +kernel
theorem dX8_layShare_94 : decode cX8_layShare 94 = .ok (.iload 7, 2) := by decide +kernel
theorem dX8_layShare_96 : decode cX8_layShare 96 = .ok (.aload_n 0, 1) := by decide +kernel
theorem dX8_layShare_97 : decode cX8_layShare 97 = .ok (.getfield 109, 3) := by decide +kernel
theorem dX8_layShare_100 : decode cX8_layShare 100 = .ok (.invokevirtual 102, 3) := by decide +kernel
theorem dX8_layShare_103 : decode cX8_layShare 103 = .ok (.aload_n 0, 1) := by decide +kernel
theorem dX8_layShare_104 : decode cX8_layShare 104 = .ok (.getfield 31, 3) := by decide +kernel
theorem dX8_layShare_107 : decode cX8_layShare 107 = .ok (.sipush 481, 3) := by decide +kernel
theorem dX8_layShare_110 : decode cX8_layShare 110 = .ok (.iload_n 3, 1) := by decide +kernel
theorem dX8_layShare_111 : decode cX8_layShare 111 = .ok (.iconst 2, 1) := by decide +kernel
theorem dX8_layShare_112 : decode cX8_layShare 112 = .ok (.idiv, 1) := by decide +kernel
theorem dX8_layShare_113 : decode cX8_layShare 113 = .ok (.imul, 1) := by decide +kernel
theorem dX8_layShare_114 : decode cX8_layShare 114 = .ok (.iload 4, 2) := by decide +kernel
theorem dX8_layShare_116 : decode cX8_layShare 116 = .ok (.iadd, 1) := by decide +kernel
theorem dX8_layShare_117 : decode cX8_layShare 117 = .ok (.iload 7, 2) := by decide +kernel
theorem dX8_layShare_119 : decode cX8_layShare 119 = .ok (.isub, 1) := by decide +kernel
theorem dX8_layShare_120 : decode cX8_layShare 120 = .ok (.iaload, 1) := by decide +kernel
theorem dX8_layShare_121 : decode cX8_layShare 121 = .ok (.iadd, 1) := by decide +kernel
theorem dX8_layShare_122 : decode cX8_layShare 122 = .ok (.iload 6, 2) := by decide +kernel
theorem dX8_layShare_124 : decode cX8_layShare 124 = .ok (.if_icmp .eq 9, 3) := by decide +kernel
theorem dX8_layShare_127 : decode cX8_layShare 127 = .ok (.iinc 7 1, 3) := by decide +kernel
theorem dX8_layShare_130 : decode cX8_layShare 130 = .ok (.goto (-69), 3) := by decide +kernel
theorem dX8_layShare_133 : decode cX8_layShare 133 = .ok (.aload_n 0, 1) := by decide +kernel
theorem dX8_layShare_134 : decode cX8_layShare 134 = .ok (.getfield 34, 3) := by decide +kernel
theorem dX8_layShare_137 : decode cX8_layShare 137 = .ok (.iload 5, 2) := by decide +kernel
theorem dX8_layShare_139 : decode cX8_layShare 139 = .ok (.iload 7, 2) := by decide +kernel
theorem dX8_layShare_141 : decode cX8_layShare 141 = .ok (.iastore, 1) := by decide +kernel
theorem dX8_layShare_142 : decode cX8_layShare 142 = .ok (.iload 4, 2) := by decide +kernel
theorem dX8_layShare_144 : decode cX8_layShare 144 = .ok (.iload 7, 2) := by decide +kernel
theorem dX8_layShare_146 : decode cX8_layShare 146 = .ok (.isub, 1) := by decide +kernel
theorem dX8_layShare_147 : decode cX8_layShare 147 = .ok (.istore 4, 2) := by decide +kernel
theorem dX8_layShare_149 : decode cX8_layShare 149 = .ok (.iinc 5 1, 3) := by decide +kernel
theorem dX8_layShare_152 : decode cX8_layShare 152 = .ok (.goto (-144), 3) := by decide +kernel
theorem dX8_layShare_155 : decode cX8_layShare 155 = .ok (.return_, 1) := by decide +kernel
theorem dX8_lockedOnes_0 : decode cX8_lockedOnes 0 = .ok (.iconst 0, 1) := by decide +kernel
theorem dX8_lockedOnes_1 : decode cX8_lockedOnes 1 = .ok (.istore_n 1, 1) := by decide +kernel
theorem dX8_lockedOnes_2 : decode cX8_lockedOnes 2 = .ok (.iconst 0, 1) := by decide +kernel
theorem dX8_lockedOnes_3 : decode cX8_lockedOnes 3 = .ok (.istore_n 2, 1) := by decide +kernel
theorem dX8_lockedOnes_4 : decode cX8_lockedOnes 4 = .ok (.iload_n 2, 1) := by decide +kernel
theorem dX8_lockedOnes_5 : decode cX8_lockedOnes 5 = .ok (.aload_n 0, 1) := by decide +kernel
theorem dX8_lockedOnes_6 : decode cX8_lockedOnes 6 = .ok (.getfield 16, 3) := by decide +kernel
theorem dX8_lockedOnes_9 : decode cX8_lockedOnes 9 = .ok (.bipush 36, 2) := by decide +kernel
theorem dX8_lockedOnes_11 : decode cX8_lockedOnes 11 = .ok (.iaload, 1) := by decide +kernel
theorem dX8_lockedOnes_12 : decode cX8_lockedOnes 12 = .ok (.if_icmp .ge 29, 3) := by decide +kernel
theorem dX8_lockedOnes_15 : decode cX8_lockedOnes 15 = .ok (.iload_n 1, 1) := by decide +kernel
theorem dX8_lockedOnes_16 : decode cX8_lockedOnes 16 = .ok (.aload_n 0, 1) := by decide +kernel
theorem dX8_lockedOnes_17 : decode cX8_lockedOnes 17 = .ok (.iload_n 2, 1) := by decide +kernel
theorem dX8_lockedOnes_18 : decode cX8_lockedOnes 18 = .ok (.iconst 3, 1) := by decide +kernel
theorem dX8_lockedOnes_19 : decode cX8_lockedOnes 19 = .ok (.invokevirtual 122, 3) := by decide +kernel
theorem dX8_lockedOnes_22 : decode cX8_lockedOnes 22 = .ok (.iconst 1, 1) := by decide +kernel
theorem dX8_lockedOnes_23 : decode cX8_lockedOnes 23 = .ok (.if_icmp .ne 9, 3) := by decide +kernel
theorem dX8_lockedOnes_26 : decode cX8_lockedOnes 26 = .ok (.iconst 1, 1) := by decide +kernel
theorem dX8_lockedOnes_27 : decode cX8_lockedOnes 27 = .ok (.iload_n 2, 1) := by decide +kernel
theorem dX8_lockedOnes_28 : decode cX8_lockedOnes 28 = .ok (.ishl, 1) := by decide +kernel
theorem dX8_lockedOnes_29 : decode cX8_lockedOnes 29 = .ok (.goto 4, 3) := by decide +kernel
theorem dX8_lockedOnes_32 : decode cX8_lockedOnes 32 = .ok (.iconst 0, 1) := by decide +kernel
theorem dX8_lockedOnes_33 : decode cX8_lockedOnes 33 = .ok (.ior, 1) := by decide +kernel
theorem dX8_lockedOnes_34 : decode cX8_lockedOnes 34 = .ok (.istore_n 1, 1) := by decide +kernel
theorem dX8_lockedOnes_35 : decode cX8_lockedOnes 35 = .ok (.iinc 2 1, 3) := by decide +kernel
theorem dX8_lockedOnes_38 : decode cX8_lockedOnes 38 = .ok (.goto (-34), 3) := by decide +kernel
theorem dX8_lockedOnes_41 : decode cX8_lockedOnes 41 = .ok (.iload_n 1, 1) := by decide +kernel
theorem dX8_lockedOnes_42 : decode cX8_lockedOnes 42 = .ok (.ireturn, 1) := by decide +kernel
theorem dX8_ones_0 : decode cX8_ones 0 = .ok (.iconst 0, 1) := by decide +kernel
theorem dX8_ones_1 : decode cX8_ones 1 = .ok (.istore_n 1, 1) := by decide +kernel
theorem dX8_ones_2 : decode cX8_ones 2 = .ok (.iconst 0, 1) := by decide +kernel
theorem dX8_ones_3 : decode cX8_ones 3 = .ok (.istore_n 2, 1) := by decide +kernel
theorem dX8_ones_4 : decode cX8_ones 4 = .ok (.iload_n 2, 1) := by decide +kernel
theorem dX8_ones_5 : decode cX8_ones 5 = .ok (.bipush 6, 2) := by decide +kernel
theorem dX8_ones_7 : decode cX8_ones 7 = .ok (.if_icmp .ge 17, 3) := by decide +kernel
theorem dX8_ones_10 : decode cX8_ones 10 = .ok (.iload_n 1, 1) := by decide +kernel
theorem dX8_ones_11 : decode cX8_ones 11 = .ok (.iload_n 0, 1) := by decide +kernel
theorem dX8_ones_12 : decode cX8_ones 12 = .ok (.iload_n 2, 1) := by decide +kernel
theorem dX8_ones_13 : decode cX8_ones 13 = .ok (.ishr, 1) := by decide +kernel
theorem dX8_ones_14 : decode cX8_ones 14 = .ok (.iconst 1, 1) := by decide +kernel
theorem dX8_ones_15 : decode cX8_ones 15 = .ok (.iand, 1) := by decide +kernel
theorem dX8_ones_16 : decode cX8_ones 16 = .ok (.iadd, 1) := by decide +kernel
theorem dX8_ones_17 : decode cX8_ones 17 = .ok (.istore_n 1, 1) := by decide +kernel
theorem dX8_ones_18 : decode cX8_ones 18 = .ok (.iinc 2 1, 3) := by decide +kernel
theorem dX8_ones_21 : decode cX8_ones 21 = .ok (.goto (-17), 3) := by decide +kernel
theorem dX8_ones_24 : decode cX8_ones 24 = .ok (.iload_n 1, 1) := by decide +kernel
theorem dX8_ones_25 : decode cX8_ones 25 = .ok (.ireturn, 1) := by decide +kernel
theorem dX8_findBest_0 : decode cX8_findBest 0 = .ok (.aload_n 0, 1) := by decide +kernel
theorem dX8_findBest_1 : decode cX8_findBest 1 = .ok (.invokevirtual 125, 3) := by decide +kernel
theorem dX8_findBest_4 : decode cX8_findBest 4 = .ok (.aload_n 0, 1) := by decide +kernel
theorem dX8_findBest_5 : decode cX8_findBest 5 = .ok (.invokevirtual 128, 3) := by decide +kernel
theorem dX8_findBest_8 : decode cX8_findBest 8 = .ok (.istore_n 2, 1) := by decide +kernel
theorem dX8_findBest_9 : decode cX8_findBest 9 = .ok (.bipush (-4), 2) := by decide +kernel
theorem dX8_findBest_11 : decode cX8_findBest 11 = .ok (.istore_n 3, 1) := by decide +kernel
theorem dX8_findBest_12 : decode cX8_findBest 12 = .ok (.aload_n 0, 1) := by decide +kernel
theorem dX8_findBest_13 : decode cX8_findBest 13 = .ok (.ldc 94, 2) := by decide +kernel
theorem dX8_findBest_15 : decode cX8_findBest 15 = .ok (.putfield 131, 3) := by decide +kernel
theorem dX8_findBest_18 : decode cX8_findBest 18 = .ok (.iconst 0, 1) := by decide +kernel
theorem dX8_findBest_19 : decode cX8_findBest 19 = .ok (.istore 4, 2) := by decide +kernel
theorem dX8_findBest_21 : decode cX8_findBest 21 = .ok (.iload 4, 2) := by decide +kernel
theorem dX8_findBest_23 : decode cX8_findBest 23 = .ok (.iconst 1, 1) := by decide +kernel
theorem dX8_findBest_24 : decode cX8_findBest 24 = .ok (.aload_n 0, 1) := by decide +kernel
theorem dX8_findBest_25 : decode cX8_findBest 25 = .ok (.getfield 16, 3) := by decide +kernel
theorem dX8_findBest_28 : decode cX8_findBest 28 = .ok (.bipush 36, 2) := by decide +kernel
theorem dX8_findBest_30 : decode cX8_findBest 30 = .ok (.iaload, 1) := by decide +kernel
theorem dX8_findBest_31 : decode cX8_findBest 31 = .ok (.ishl, 1) := by decide +kernel
theorem dX8_findBest_32 : decode cX8_findBest 32 = .ok (.if_icmp .ge 102, 3) := by decide +kernel
theorem dX8_findBest_35 : decode cX8_findBest 35 = .ok (.iload 4, 2) := by decide +kernel
theorem dX8_findBest_37 : decode cX8_findBest 37 = .ok (.iload_n 2, 1) := by decide +kernel
theorem dX8_findBest_38 : decode cX8_findBest 38 = .ok (.iand, 1) := by decide +kernel
theorem dX8_findBest_39 : decode cX8_findBest 39 = .ok (.ifCond .ne 89, 3) := by decide +kernel
theorem dX8_findBest_42 : decode cX8_findBest 42 = .ok (.aload_n 0, 1) := by decide +kernel
theorem dX8_findBest_43 : decode cX8_findBest 43 = .ok (.iload 4, 2) := by decide +kernel
theorem dX8_findBest_45 : decode cX8_findBest 45 = .ok (.iload_n 1, 1) := by decide +kernel
theorem dX8_findBest_46 : decode cX8_findBest 46 = .ok (.invokevirtual 134, 3) := by decide +kernel
theorem dX8_findBest_49 : decode cX8_findBest 49 = .ok (.ifCond .eq 79, 3) := by decide +kernel
theorem dX8_findBest_52 : decode cX8_findBest 52 = .ok (.aload_n 0, 1) := by decide +kernel
theorem dX8_findBest_53 : decode cX8_findBest 53 = .ok (.iload 4, 2) := by decide +kernel
theorem dX8_findBest_55 : decode cX8_findBest 55 = .ok (.iload_n 1, 1) := by decide +kernel
theorem dX8_findBest_56 : decode cX8_findBest 56 = .ok (.invokevirtual 119, 3) := by decide +kernel
theorem dX8_findBest_59 : decode cX8_findBest 59 = .ok (.istore 5, 2) := by decide +kernel
theorem dX8_findBest_61 : decode cX8_findBest 61 = .ok (.iload 5, 2) := by decide +kernel
theorem dX8_findBest_63 : decode cX8_findBest 63 = .ok (.aload_n 0, 1) := by decide +kernel
theorem dX8_findBest_64 : decode cX8_findBest 64 = .ok (.getfield 131, 3) := by decide +kernel
theorem dX8_findBest_67 : decode cX8_findBest 67 = .ok (.if_icmp .lt 24, 3) := by decide +kernel
theorem dX8_findBest_70 : decode cX8_findBest 70 = .ok (.iload 5, 2) := by decide +kernel
theorem dX8_findBest_72 : decode cX8_findBest 72 = .ok (.aload_n 0, 1) := by decide +kernel
theorem dX8_findBest_73 : decode cX8_findBest 73 = .ok (.getfield 131, 3) := by decide +kernel
theorem dX8_findBest_76 : decode cX8_findBest 76 = .ok (.if_icmp .ne 19, 3) := by decide +kernel
theorem dX8_findBest_79 : decode cX8_findBest 79 = .ok (.iload 4, 2) := by decide +kernel
theorem dX8_findBest_81 : decode cX8_findBest 81 = .ok (.invokestatic 137, 3) := by decide +kernel
theorem dX8_findBest_84 : decode cX8_findBest 84 = .ok (.iload_n 3, 1) := by decide +kernel
theorem dX8_findBest_85 : decode cX8_findBest 85 = .ok (.invokestatic 137, 3) := by decide +kernel
theorem dX8_findBest_88 : decode cX8_findBest 88 = .ok (.if_icmp .ge 7, 3) := by decide +kernel
theorem dX8_findBest_91 : decode cX8_findBest 91 = .ok (.iconst 1, 1) := by decide +kernel
theorem dX8_findBest_92 : decode cX8_findBest 92 = .ok (.goto 4, 3) := by decide +kernel
theorem dX8_findBest_95 : decode cX8_findBest 95 = .ok (.iconst 0, 1) := by decide +kernel
theorem dX8_findBest_96 : decode cX8_findBest 96 = .ok (.istore 6, 2) := by decide +kernel
theorem dX8_findBest_98 : decode cX8_findBest 98 = .ok (.iload 6, 2) := by decide +kernel
theorem dX8_findBest_100 : decode cX8_findBest 100 = .ok (.ifCond .eq 8, 3) := by decide +kernel
theorem dX8_findBest_103 : decode cX8_findBest 103 = .ok (.iload 4, 2) := by decide +kernel
theorem dX8_findBest_105 : decode cX8_findBest 105 = .ok (.goto 4, 3) := by decide +kernel
theorem dX8_findBest_108 : decode cX8_findBest 108 = .ok (.iload_n 3, 1) := by decide +kernel
theorem dX8_findBest_109 : decode cX8_findBest 109 = .ok (.istore_n 3, 1) := by decide +kernel
theorem dX8_findBest_110 : decode cX8_findBest 110 = .ok (.aload_n 0, 1) := by decide +kernel
theorem dX8_findBest_111 : decode cX8_findBest 111 = .ok (.iload 6, 2) := by decide +kernel
theorem dX8_findBest_113 : decode cX8_findBest 113 = .ok (.ifCond .eq 8, 3) := by decide +kernel
theorem dX8_findBest_116 : decode cX8_findBest 116 = .ok (.iload 5, 2) := by decide +kernel
theorem dX8_findBest_118 : decode cX8_findBest 118 = .ok (.goto 7, 3) := by decide +kernel
theorem dX8_findBest_121 : decode cX8_findBest 121 = .ok (.aload_n 0, 1) := by decide +kernel
theorem dX8_findBest_122 : decode cX8_findBest 122 = .ok (.getfield 131, 3) := by decide +kernel
theorem dX8_findBest_125 : decode cX8_findBest 125 = .ok (.putfield 131, 3) := by decide +kernel
theorem dX8_findBest_128 : decode cX8_findBest 128 = .ok (.iinc 4 1, 3) := by decide +kernel
theorem dX8_findBest_131 : decode cX8_findBest 131 = .ok (.goto (-110), 3) := by decide +kernel
theorem dX8_findBest_134 : decode cX8_findBest 134 = .ok (.iload_n 3, 1) := by decide +kernel
theorem dX8_findBest_135 : decode cX8_findBest 135 = .ok (.ireturn, 1) := by decide +kernel
theorem dX8_own_0 : decode cX8_own 0 = .ok (.aload_n 0, 1) := by decide +kernel
theorem dX8_own_1 : decode cX8_own 1 = .ok (.getfield 19, 3) := by decide +kernel
theorem dX8_own_4 : decode cX8_own 4 = .ok (.bipush 17, 2) := by decide +kernel
theorem dX8_own_6 : decode cX8_own 6 = .ok (.bipush 14, 2) := by decide +kernel
theorem dX8_own_8 : decode cX8_own 8 = .ok (.iload_n 1, 1) := by decide +kernel
theorem dX8_own_9 : decode cX8_own 9 = .ok (.imul, 1) := by decide +kernel
theorem dX8_own_10 : decode cX8_own 10 = .ok (.iadd, 1) := by decide +kernel
theorem dX8_own_11 : decode cX8_own 11 = .ok (.iload_n 2, 1) := by decide +kernel
theorem dX8_own_12 : decode cX8_own 12 = .ok (.iadd, 1) := by decide +kernel
theorem dX8_own_13 : decode cX8_own 13 = .ok (.iaload, 1) := by decide +kernel
theorem dX8_own_14 : decode cX8_own 14 = .ok (.ireturn, 1) := by decide +kernel
theorem dX8_standing_0 : decode cX8_standing 0 = .ok (.iconst 0, 1) := by decide +kernel
theorem dX8_standing_1 : decode cX8_standing 1 = .ok (.istore_n 2, 1) := by decide +kernel
theorem dX8_standing_2 : decode cX8_standing 2 = .ok (.iconst 0, 1) := by decide +kernel
theorem dX8_standing_3 : decode cX8_standing 3 = .ok (.istore_n 3, 1) := by decide +kernel
theorem dX8_standing_4 : decode cX8_standing 4 = .ok (.iload_n 3, 1) := by decide +kernel
theorem dX8_standing_5 : decode cX8_standing 5 = .ok (.aload_n 0, 1) := by decide +kernel
theorem dX8_standing_6 : decode cX8_standing 6 = .ok (.getfield 16, 3) := by decide +kernel
theorem dX8_standing_9 : decode cX8_standing 9 = .ok (.bipush 36, 2) := by decide +kernel
theorem dX8_standing_11 : decode cX8_standing 11 = .ok (.iaload, 1) := by decide +kernel
theorem dX8_standing_12 : decode cX8_standing 12 = .ok (.if_icmp .ge 29, 3) := by decide +kernel
theorem dX8_standing_15 : decode cX8_standing 15 = .ok (.iload_n 2, 1) := by decide +kernel
theorem dX8_standing_16 : decode cX8_standing 16 = .ok (.aload_n 0, 1) := by decide +kernel
theorem dX8_standing_17 : decode cX8_standing 17 = .ok (.iload_n 3, 1) := by decide +kernel
theorem dX8_standing_18 : decode cX8_standing 18 = .ok (.iconst 0, 1) := by decide +kernel
theorem dX8_standing_19 : decode cX8_standing 19 = .ok (.invokevirtual 122, 3) := by decide +kernel
theorem dX8_standing_22 : decode cX8_standing 22 = .ok (.iload_n 1, 1) := by decide +kernel
theorem dX8_standing_23 : decode cX8_standing 23 = .ok (.if_icmp .lt 9, 3) := by decide +kernel
theorem dX8_standing_26 : decode cX8_standing 26 = .ok (.iconst 1, 1) := by decide +kernel
theorem dX8_standing_27 : decode cX8_standing 27 = .ok (.iload_n 3, 1) := by decide +kernel
theorem dX8_standing_28 : decode cX8_standing 28 = .ok (.ishl, 1) := by decide +kernel
theorem dX8_standing_29 : decode cX8_standing 29 = .ok (.goto 4, 3) := by decide +kernel
theorem dX8_standing_32 : decode cX8_standing 32 = .ok (.iconst 0, 1) := by decide +kernel
theorem dX8_standing_33 : decode cX8_standing 33 = .ok (.ior, 1) := by decide +kernel
theorem dX8_standing_34 : decode cX8_standing 34 = .ok (.istore_n 2, 1) := by decide +kernel
theorem dX8_standing_35 : decode cX8_standing 35 = .ok (.iinc 3 1, 3) := by decide +kernel
theorem dX8_standing_38 : decode cX8_standing 38 = .ok (.goto (-34), 3) := by decide +kernel
theorem dX8_standing_41 : decode cX8_standing 41 = .ok (.iload_n 2, 1) := by decide +kernel
theorem dX8_standing_42 : decode cX8_standing 42 = .ok (.ireturn, 1) := by decide +kernel
theorem dX8_made_0 : decode cX8_made 0 = .ok (.aload_n 0, 1) := by decide +kernel
theorem dX8_made_1 : decode cX8_made 1 = .ok (.iconst 2, 1) := by decide +kernel
theorem dX8_made_2 : decode cX8_made 2 = .ok (.invokevirtual 140, 3) := by decide +kernel
theorem dX8_made_5 : decode cX8_made 5 = .ok (.istore_n 1, 1) := by decide +kernel
theorem dX8_made_6 : decode cX8_made 6 = .ok (.aload_n 0, 1) := by decide +kernel
theorem dX8_made_7 : decode cX8_made 7 = .ok (.getfield 19, 3) := by decide +kernel
theorem dX8_made_10 : decode cX8_made 10 = .ok (.iconst 0, 1) := by decide +kernel
theorem dX8_made_11 : decode cX8_made 11 = .ok (.iaload, 1) := by decide +kernel
theorem dX8_made_12 : decode cX8_made 12 = .ok (.istore_n 2, 1) := by decide +kernel
theorem dX8_made_13 : decode cX8_made 13 = .ok (.aload_n 0, 1) := by decide +kernel
theorem dX8_made_14 : decode cX8_made 14 = .ok (.invokevirtual 125, 3) := by decide +kernel
theorem dX8_made_17 : decode cX8_made 17 = .ok (.aload_n 0, 1) := by decide +kernel
theorem dX8_made_18 : decode cX8_made 18 = .ok (.iload_n 1, 1) := by decide +kernel
theorem dX8_made_19 : decode cX8_made 19 = .ok (.iload_n 2, 1) := by decide +kernel
theorem dX8_made_20 : decode cX8_made 20 = .ok (.invokevirtual 134, 3) := by decide +kernel
theorem dX8_made_23 : decode cX8_made 23 = .ok (.ifCond .eq 11, 3) := by decide +kernel
theorem dX8_made_26 : decode cX8_made 26 = .ok (.aload_n 0, 1) := by decide +kernel
theorem dX8_made_27 : decode cX8_made 27 = .ok (.iload_n 1, 1) := by decide +kernel
theorem dX8_made_28 : decode cX8_made 28 = .ok (.iload_n 2, 1) := by decide +kernel
theorem dX8_made_29 : decode cX8_made 29 = .ok (.invokevirtual 143, 3) := by decide +kernel
theorem dX8_made_32 : decode cX8_made 32 = .ok (.iload_n 2, 1) := by decide +kernel
theorem dX8_made_33 : decode cX8_made 33 = .ok (.ireturn, 1) := by decide +kernel
theorem dX8_made_34 : decode cX8_made 34 = .ok (.iload_n 2, 1) := by decide +kernel
theorem dX8_made_35 : decode cX8_made 35 = .ok (.aload_n 0, 1) := by decide +kernel
theorem dX8_made_36 : decode cX8_made 36 = .ok (.iload_n 1, 1) := by decide +kernel
theorem dX8_made_37 : decode cX8_made 37 = .ok (.iconst 0, 1) := by decide +kernel
theorem dX8_made_38 : decode cX8_made 38 = .ok (.invokevirtual 90, 3) := by decide +kernel
theorem dX8_made_41 : decode cX8_made 41 = .ok (.if_icmp .ge 7, 3) := by decide +kernel
theorem dX8_made_44 : decode cX8_made 44 = .ok (.iconst 1, 1) := by decide +kernel
theorem dX8_made_45 : decode cX8_made 45 = .ok (.goto 4, 3) := by decide +kernel
theorem dX8_made_48 : decode cX8_made 48 = .ok (.iconst 0, 1) := by decide +kernel
theorem dX8_made_49 : decode cX8_made 49 = .ok (.istore_n 3, 1) := by decide +kernel
theorem dX8_made_50 : decode cX8_made 50 = .ok (.iconst 0, 1) := by decide +kernel
theorem dX8_made_51 : decode cX8_made 51 = .ok (.istore 4, 2) := by decide +kernel
theorem dX8_made_53 : decode cX8_made 53 = .ok (.iload 4, 2) := by decide +kernel
theorem dX8_made_55 : decode cX8_made 55 = .ok (.aload_n 0, 1) := by decide +kernel
theorem dX8_made_56 : decode cX8_made 56 = .ok (.getfield 16, 3) := by decide +kernel
theorem dX8_made_59 : decode cX8_made 59 = .ok (.bipush 36, 2) := by decide +kernel
theorem dX8_made_61 : decode cX8_made 61 = .ok (.iaload, 1) := by decide +kernel
theorem dX8_made_62 : decode cX8_made 62 = .ok (.if_icmp .ge 48, 3) := by decide +kernel
theorem dX8_made_65 : decode cX8_made 65 = .ok (.aload_n 0, 1) := by decide +kernel
theorem dX8_made_66 : decode cX8_made 66 = .ok (.getfield 34, 3) := by decide +kernel
theorem dX8_made_69 : decode cX8_made 69 = .ok (.iload 4, 2) := by decide +kernel
theorem dX8_made_71 : decode cX8_made 71 = .ok (.iload_n 1, 1) := by decide +kernel
theorem dX8_made_72 : decode cX8_made 72 = .ok (.iload 4, 2) := by decide +kernel
theorem dX8_made_74 : decode cX8_made 74 = .ok (.invokestatic 86, 3) := by decide +kernel
theorem dX8_made_77 : decode cX8_made 77 = .ok (.ifCond .ne 7, 3) := by decide +kernel
theorem dX8_made_80 : decode cX8_made 80 = .ok (.iconst 0, 1) := by decide +kernel
theorem dX8_made_81 : decode cX8_made 81 = .ok (.goto 22, 3) := by decide +kernel
theorem dX8_made_84 : decode cX8_made 84 = .ok (.iload_n 3, 1) := by decide +kernel
theorem dX8_made_85 : decode cX8_made 85 = .ok (.ifCond .eq 12, 3) := by decide +kernel
theorem dX8_made_88 : decode cX8_made 88 = .ok (.aload_n 0, 1) := by decide +kernel
theorem dX8_made_89 : decode cX8_made 89 = .ok (.iload 4, 2) := by decide +kernel
theorem dX8_made_91 : decode cX8_made 91 = .ok (.invokevirtual 95, 3) := by decide +kernel
theorem dX8_made_94 : decode cX8_made 94 = .ok (.goto 9, 3) := by decide +kernel
theorem dX8_made_97 : decode cX8_made 97 = .ok (.aload_n 0, 1) := by decide +kernel
theorem dX8_made_98 : decode cX8_made 98 = .ok (.iload 4, 2) := by decide +kernel
theorem dX8_made_100 : decode cX8_made 100 = .ok (.invokevirtual 99, 3) := by decide +kernel
theorem dX8_made_103 : decode cX8_made 103 = .ok (.iastore, 1) := by decide +kernel
theorem dX8_made_104 : decode cX8_made 104 = .ok (.iinc 4 1, 3) := by decide +kernel
theorem dX8_made_107 : decode cX8_made 107 = .ok (.goto (-54), 3) := by decide +kernel
theorem dX8_made_110 : decode cX8_made 110 = .ok (.aload_n 0, 1) := by decide +kernel
theorem dX8_made_111 : decode cX8_made 111 = .ok (.iload_n 1, 1) := by decide +kernel
theorem dX8_made_112 : decode cX8_made 112 = .ok (.iload_n 3, 1) := by decide +kernel
theorem dX8_made_113 : decode cX8_made 113 = .ok (.ifCond .eq 7, 3) := by decide +kernel
theorem dX8_made_116 : decode cX8_made 116 = .ok (.iconst 0, 1) := by decide +kernel
theorem dX8_made_117 : decode cX8_made 117 = .ok (.goto 4, 3) := by decide +kernel
theorem dX8_made_120 : decode cX8_made 120 = .ok (.iconst 1, 1) := by decide +kernel
theorem dX8_made_121 : decode cX8_made 121 = .ok (.invokevirtual 90, 3) := by decide +kernel
theorem dX8_made_124 : decode cX8_made 124 = .ok (.ireturn, 1) := by decide +kernel
theorem dX8_powerNow_0 : decode cX8_powerNow 0 = .ok (.aload_n 0, 1) := by decide +kernel
theorem dX8_powerNow_1 : decode cX8_powerNow 1 = .ok (.invokevirtual 147, 3) := by decide +kernel
theorem dX8_powerNow_4 : decode cX8_powerNow 4 = .ok (.pop, 1) := by decide +kernel
theorem dX8_powerNow_5 : decode cX8_powerNow 5 = .ok (.iconst 0, 1) := by decide +kernel
theorem dX8_powerNow_6 : decode cX8_powerNow 6 = .ok (.istore_n 1, 1) := by decide +kernel
theorem dX8_powerNow_7 : decode cX8_powerNow 7 = .ok (.iconst 0, 1) := by decide +kernel
theorem dX8_powerNow_8 : decode cX8_powerNow 8 = .ok (.istore_n 2, 1) := by decide +kernel
theorem dX8_powerNow_9 : decode cX8_powerNow 9 = .ok (.iload_n 2, 1) := by decide +kernel
theorem dX8_powerNow_10 : decode cX8_powerNow 10 = .ok (.aload_n 0, 1) := by decide +kernel
theorem dX8_powerNow_11 : decode cX8_powerNow 11 = .ok (.getfield 16, 3) := by decide +kernel
theorem dX8_powerNow_14 : decode cX8_powerNow 14 = .ok (.bipush 36, 2) := by decide +kernel
theorem dX8_powerNow_16 : decode cX8_powerNow 16 = .ok (.iaload, 1) := by decide +kernel
theorem dX8_powerNow_17 : decode cX8_powerNow 17 = .ok (.if_icmp .ge 41, 3) := by decide +kernel
theorem dX8_powerNow_20 : decode cX8_powerNow 20 = .ok (.iload_n 1, 1) := by decide +kernel
theorem dX8_powerNow_21 : decode cX8_powerNow 21 = .ok (.aload_n 0, 1) := by decide +kernel
theorem dX8_powerNow_22 : decode cX8_powerNow 22 = .ok (.iload_n 2, 1) := by decide +kernel
theorem dX8_powerNow_23 : decode cX8_powerNow 23 = .ok (.iconst 0, 1) := by decide +kernel
theorem dX8_powerNow_24 : decode cX8_powerNow 24 = .ok (.invokevirtual 122, 3) := by decide +kernel
theorem dX8_powerNow_27 : decode cX8_powerNow 27 = .ok (.iconst 2, 1) := by decide +kernel
theorem dX8_powerNow_28 : decode cX8_powerNow 28 = .ok (.if_icmp .ne 21, 3) := by decide +kernel
theorem dX8_powerNow_31 : decode cX8_powerNow 31 = .ok (.aload_n 0, 1) := by decide +kernel
theorem dX8_powerNow_32 : decode cX8_powerNow 32 = .ok (.iload_n 2, 1) := by decide +kernel
theorem dX8_powerNow_33 : decode cX8_powerNow 33 = .ok (.aload_n 0, 1) := by decide +kernel
theorem dX8_powerNow_34 : decode cX8_powerNow 34 = .ok (.getfield 34, 3) := by decide +kernel
theorem dX8_powerNow_37 : decode cX8_powerNow 37 = .ok (.iload_n 2, 1) := by decide +kernel
theorem dX8_powerNow_38 : decode cX8_powerNow 38 = .ok (.iaload, 1) := by decide +kernel
theorem dX8_powerNow_39 : decode cX8_powerNow 39 = .ok (.aload_n 0, 1) := by decide +kernel
theorem dX8_powerNow_40 : decode cX8_powerNow 40 = .ok (.invokevirtual 106, 3) := by decide +kernel
theorem dX8_powerNow_43 : decode cX8_powerNow 43 = .ok (.invokevirtual 102, 3) := by decide +kernel
theorem dX8_powerNow_46 : decode cX8_powerNow 46 = .ok (.goto 4, 3) := by decide +kernel
theorem dX8_powerNow_49 : decode cX8_powerNow 49 = .ok (.iconst 0, 1) := by decide +kernel
theorem dX8_powerNow_50 : decode cX8_powerNow 50 = .ok (.iadd, 1) := by decide +kernel
theorem dX8_powerNow_51 : decode cX8_powerNow 51 = .ok (.istore_n 1, 1) := by decide +kernel
theorem dX8_powerNow_52 : decode cX8_powerNow 52 = .ok (.iinc 2 1, 3) := by decide +kernel
theorem dX8_powerNow_55 : decode cX8_powerNow 55 = .ok (.goto (-46), 3) := by decide +kernel
theorem dX8_powerNow_58 : decode cX8_powerNow 58 = .ok (.iload_n 1, 1) := by decide +kernel
theorem dX8_powerNow_59 : decode cX8_powerNow 59 = .ok (.ireturn, 1) := by decide +kernel
theorem dX8_isGapOver_0 : decode cX8_isGapOver 0 = .ok (.iload_n 1, 1) := by decide +kernel
theorem dX8_isGapOver_1 : decode cX8_isGapOver 1 = .ok (.aload_n 0, 1) := by decide +kernel
theorem dX8_isGapOver_2 : decode cX8_isGapOver 2 = .ok (.getfield 19, 3) := by decide +kernel
theorem dX8_isGapOver_5 : decode cX8_isGapOver 5 = .ok (.bipush 9, 2) := by decide +kernel
theorem dX8_isGapOver_7 : decode cX8_isGapOver 7 = .ok (.iaload, 1) := by decide +kernel
theorem dX8_isGapOver_8 : decode cX8_isGapOver 8 = .ok (.isub, 1) := by decide +kernel
theorem dX8_isGapOver_9 : decode cX8_isGapOver 9 = .ok (.aload_n 0, 1) := by decide +kernel
theorem dX8_isGapOver_10 : decode cX8_isGapOver 10 = .ok (.getfield 16, 3) := by decide +kernel
theorem dX8_isGapOver_13 : decode cX8_isGapOver 13 = .ok (.bipush 40, 2) := by decide +kernel
theorem dX8_isGapOver_15 : decode cX8_isGapOver 15 = .ok (.iaload, 1) := by decide +kernel
theorem dX8_isGapOver_16 : decode cX8_isGapOver 16 = .ok (.if_icmp .le 7, 3) := by decide +kernel
theorem dX8_isGapOver_19 : decode cX8_isGapOver 19 = .ok (.iconst 1, 1) := by decide +kernel
theorem dX8_isGapOver_20 : decode cX8_isGapOver 20 = .ok (.goto 4, 3) := by decide +kernel
theorem dX8_isGapOver_23 : decode cX8_isGapOver 23 = .ok (.iconst 0, 1) := by decide +kernel
theorem dX8_isGapOver_24 : decode cX8_isGapOver 24 = .ok (.ireturn, 1) := by decide +kernel
theorem dX8_mayStart_0 : decode cX8_mayStart 0 = .ok (.iconst 0, 1) := by decide +kernel
theorem dX8_mayStart_1 : decode cX8_mayStart 1 = .ok (.istore_n 3, 1) := by decide +kernel
theorem dX8_mayStart_2 : decode cX8_mayStart 2 = .ok (.iconst 5, 1) := by decide +kernel
theorem dX8_mayStart_3 : decode cX8_mayStart 3 = .ok (.istore 4, 2) := by decide +kernel
theorem dX8_mayStart_5 : decode cX8_mayStart 5 = .ok (.iload 4, 2) := by decide +kernel
theorem dX8_mayStart_7 : decode cX8_mayStart 7 = .ok (.bipush 14, 2) := by decide +kernel
theorem dX8_mayStart_9 : decode cX8_mayStart 9 = .ok (.if_icmp .ge 31, 3) := by decide +kernel
theorem dX8_mayStart_12 : decode cX8_mayStart 12 = .ok (.iload_n 3, 1) := by decide +kernel
theorem dX8_mayStart_13 : decode cX8_mayStart 13 = .ok (.aload_n 0, 1) := by decide +kernel
theorem dX8_mayStart_14 : decode cX8_mayStart 14 = .ok (.iload_n 1, 1) := by decide +kernel
theorem dX8_mayStart_15 : decode cX8_mayStart 15 = .ok (.iload 4, 2) := by decide +kernel
theorem dX8_mayStart_17 : decode cX8_mayStart 17 = .ok (.invokevirtual 122, 3) := by decide +kernel
theorem dX8_mayStart_20 : decode cX8_mayStart 20 = .ok (.iload_n 2, 1) := by decide +kernel
theorem dX8_mayStart_21 : decode cX8_mayStart 21 = .ok (.bipush 59, 2) := by decide +kernel
theorem dX8_mayStart_23 : decode cX8_mayStart 23 = .ok (.isub, 1) := by decide +kernel
theorem dX8_mayStart_24 : decode cX8_mayStart 24 = .ok (.if_icmp .lt 7, 3) := by decide +kernel
theorem dX8_mayStart_27 : decode cX8_mayStart 27 = .ok (.iconst 1, 1) := by decide +kernel
theorem dX8_mayStart_28 : decode cX8_mayStart 28 = .ok (.goto 4, 3) := by decide +kernel
theorem dX8_mayStart_31 : decode cX8_mayStart 31 = .ok (.iconst 0, 1) := by decide +kernel
theorem dX8_mayStart_32 : decode cX8_mayStart 32 = .ok (.iadd, 1) := by decide +kernel
theorem dX8_mayStart_33 : decode cX8_mayStart 33 = .ok (.istore_n 3, 1) := by decide +kernel
theorem dX8_mayStart_34 : decode cX8_mayStart 34 = .ok (.iinc 4 1, 3) := by decide +kernel
theorem dX8_mayStart_37 : decode cX8_mayStart 37 = .ok (.goto (-32), 3) := by decide +kernel
theorem dX8_mayStart_40 : decode cX8_mayStart 40 = .ok (.aload_n 0, 1) := by decide +kernel
theorem dX8_mayStart_41 : decode cX8_mayStart 41 = .ok (.iload_n 1, 1) := by decide +kernel
theorem dX8_mayStart_42 : decode cX8_mayStart 42 = .ok (.iconst 0, 1) := by decide +kernel
theorem dX8_mayStart_43 : decode cX8_mayStart 43 = .ok (.invokevirtual 122, 3) := by decide +kernel
theorem dX8_mayStart_46 : decode cX8_mayStart 46 = .ok (.ifCond .ne 53, 3) := by decide +kernel
theorem dX8_mayStart_49 : decode cX8_mayStart 49 = .ok (.aload_n 0, 1) := by decide +kernel
theorem dX8_mayStart_50 : decode cX8_mayStart 50 = .ok (.iload_n 1, 1) := by decide +kernel
theorem dX8_mayStart_51 : decode cX8_mayStart 51 = .ok (.iconst 3, 1) := by decide +kernel
theorem dX8_mayStart_52 : decode cX8_mayStart 52 = .ok (.invokevirtual 122, 3) := by decide +kernel
theorem dX8_mayStart_55 : decode cX8_mayStart 55 = .ok (.ifCond .ne 44, 3) := by decide +kernel
theorem dX8_mayStart_58 : decode cX8_mayStart 58 = .ok (.iload_n 2, 1) := by decide +kernel
theorem dX8_mayStart_59 : decode cX8_mayStart 59 = .ok (.aload_n 0, 1) := by decide +kernel
theorem dX8_mayStart_60 : decode cX8_mayStart 60 = .ok (.iload_n 1, 1) := by decide +kernel
theorem dX8_mayStart_61 : decode cX8_mayStart 61 = .ok (.iconst 4, 1) := by decide +kernel
theorem dX8_mayStart_62 : decode cX8_mayStart 62 = .ok (.invokevirtual 122, 3) := by decide +kernel
theorem dX8_mayStart_65 : decode cX8_mayStart 65 = .ok (.isub, 1) := by decide +kernel
theorem dX8_mayStart_66 : decode cX8_mayStart 66 = .ok (.aload_n 0, 1) := by decide +kernel
theorem dX8_mayStart_67 : decode cX8_mayStart 67 = .ok (.getfield 16, 3) := by decide +kernel
theorem dX8_mayStart_70 : decode cX8_mayStart 70 = .ok (.bipush 38, 2) := by decide +kernel
theorem dX8_mayStart_72 : decode cX8_mayStart 72 = .ok (.iaload, 1) := by decide +kernel
theorem dX8_mayStart_73 : decode cX8_mayStart 73 = .ok (.if_icmp .le 26, 3) := by decide +kernel
theorem dX8_mayStart_76 : decode cX8_mayStart 76 = .ok (.iload_n 3, 1) := by decide +kernel
theorem dX8_mayStart_77 : decode cX8_mayStart 77 = .ok (.aload_n 0, 1) := by decide +kernel
theorem dX8_mayStart_78 : decode cX8_mayStart 78 = .ok (.getfield 16, 3) := by decide +kernel
theorem dX8_mayStart_81 : decode cX8_mayStart 81 = .ok (.bipush 39, 2) := by decide +kernel
theorem dX8_mayStart_83 : decode cX8_mayStart 83 = .ok (.iaload, 1) := by decide +kernel
theorem dX8_mayStart_84 : decode cX8_mayStart 84 = .ok (.if_icmp .ge 15, 3) := by decide +kernel
theorem dX8_mayStart_87 : decode cX8_mayStart 87 = .ok (.aload_n 0, 1) := by decide +kernel
theorem dX8_mayStart_88 : decode cX8_mayStart 88 = .ok (.iload_n 2, 1) := by decide +kernel
theorem dX8_mayStart_89 : decode cX8_mayStart 89 = .ok (.invokevirtual 150, 3) := by decide +kernel
theorem dX8_mayStart_92 : decode cX8_mayStart 92 = .ok (.ifCond .eq 7, 3) := by decide +kernel
theorem dX8_mayStart_95 : decode cX8_mayStart 95 = .ok (.iconst 1, 1) := by decide +kernel
theorem dX8_mayStart_96 : decode cX8_mayStart 96 = .ok (.goto 4, 3) := by decide +kernel
theorem dX8_mayStart_99 : decode cX8_mayStart 99 = .ok (.iconst 0, 1) := by decide +kernel
theorem dX8_mayStart_100 : decode cX8_mayStart 100 = .ok (.ireturn, 1) := by decide +kernel
theorem dX8_start_0 : decode cX8_start 0 = .ok (.bipush 17, 2) := by decide +kernel
theorem dX8_start_2 : decode cX8_start 2 = .ok (.bipush 14, 2) := by decide +kernel
theorem dX8_start_4 : decode cX8_start 4 = .ok (.iload_n 1, 1) := by decide +kernel
theorem dX8_start_5 : decode cX8_start 5 = .ok (.imul, 1) := by decide +kernel
theorem dX8_start_6 : decode cX8_start 6 = .ok (.iadd, 1) := by decide +kernel
theorem dX8_start_7 : decode cX8_start 7 = .ok (.istore_n 3, 1) := by decide +kernel
theorem dX8_start_8 : decode cX8_start 8 = .ok (.aload_n 0, 1) := by decide +kernel
theorem dX8_start_9 : decode cX8_start 9 = .ok (.getfield 19, 3) := by decide +kernel
theorem dX8_start_12 : decode cX8_start 12 = .ok (.iload_n 3, 1) := by decide +kernel
theorem dX8_start_13 : decode cX8_start 13 = .ok (.iconst 1, 1) := by decide +kernel
theorem dX8_start_14 : decode cX8_start 14 = .ok (.iastore, 1) := by decide +kernel
theorem dX8_start_15 : decode cX8_start 15 = .ok (.aload_n 0, 1) := by decide +kernel
theorem dX8_start_16 : decode cX8_start 16 = .ok (.getfield 19, 3) := by decide +kernel
theorem dX8_start_19 : decode cX8_start 19 = .ok (.iload_n 3, 1) := by decide +kernel
theorem dX8_start_20 : decode cX8_start 20 = .ok (.iconst 2, 1) := by decide +kernel
theorem dX8_start_21 : decode cX8_start 21 = .ok (.iadd, 1) := by decide +kernel
theorem dX8_start_22 : decode cX8_start 22 = .ok (.dup2, 1) := by decide +kernel
theorem dX8_start_23 : decode cX8_start 23 = .ok (.iaload, 1) := by decide +kernel
theorem dX8_start_24 : decode cX8_start 24 = .ok (.iconst 1, 1) := by decide +kernel
theorem dX8_start_25 : decode cX8_start 25 = .ok (.iadd, 1) := by decide +kernel
theorem dX8_start_26 : decode cX8_start 26 = .ok (.iastore, 1) := by decide +kernel
theorem dX8_start_27 : decode cX8_start 27 = .ok (.bipush 13, 2) := by decide +kernel
theorem dX8_start_29 : decode cX8_start 29 = .ok (.istore 4, 2) := by decide +kernel
theorem dX8_start_31 : decode cX8_start 31 = .ok (.iload 4, 2) := by decide +kernel
theorem dX8_start_33 : decode cX8_start 33 = .ok (.iconst 5, 1) := by decide +kernel
theorem dX8_start_34 : decode cX8_start 34 = .ok (.if_icmp .le 29, 3) := by decide +kernel
theorem dX8_start_37 : decode cX8_start 37 = .ok (.aload_n 0, 1) := by decide +kernel
theorem dX8_start_38 : decode cX8_start 38 = .ok (.getfield 19, 3) := by decide +kernel
theorem dX8_start_41 : decode cX8_start 41 = .ok (.iload_n 3, 1) := by decide +kernel
theorem dX8_start_42 : decode cX8_start 42 = .ok (.iload 4, 2) := by decide +kernel
theorem dX8_start_44 : decode cX8_start 44 = .ok (.iadd, 1) := by decide +kernel
theorem dX8_start_45 : decode cX8_start 45 = .ok (.aload_n 0, 1) := by decide +kernel
theorem dX8_start_46 : decode cX8_start 46 = .ok (.getfield 19, 3) := by decide +kernel
theorem dX8_start_49 : decode cX8_start 49 = .ok (.iload_n 3, 1) := by decide +kernel
theorem dX8_start_50 : decode cX8_start 50 = .ok (.iload 4, 2) := by decide +kernel
theorem dX8_start_52 : decode cX8_start 52 = .ok (.iadd, 1) := by decide +kernel
theorem dX8_start_53 : decode cX8_start 53 = .ok (.iconst 1, 1) := by decide +kernel
theorem dX8_start_54 : decode cX8_start 54 = .ok (.isub, 1) := by decide +kernel
theorem dX8_start_55 : decode cX8_start 55 = .ok (.iaload, 1) := by decide +kernel
theorem dX8_start_56 : decode cX8_start 56 = .ok (.iastore, 1) := by decide +kernel
theorem dX8_start_57 : decode cX8_start 57 = .ok (.iinc 4 (-1), 3) := by decide +kernel
theorem dX8_start_60 : decode cX8_start 60 = .ok (.goto (-29), 3) := by decide +kernel
theorem dX8_start_63 : decode cX8_start 63 = .ok (.aload_n 0, 1) := by decide +kernel
theorem dX8_start_64 : decode cX8_start 64 = .ok (.getfield 19, 3) := by decide +kernel
theorem dX8_start_67 : decode cX8_start 67 = .ok (.iload_n 3, 1) := by decide +kernel
theorem dX8_start_68 : decode cX8_start 68 = .ok (.iconst 5, 1) := by decide +kernel
theorem dX8_start_69 : decode cX8_start 69 = .ok (.iadd, 1) := by decide +kernel
theorem dX8_start_70 : decode cX8_start 70 = .ok (.iload_n 2, 1) := by decide +kernel
theorem dX8_start_71 : decode cX8_start 71 = .ok (.iastore, 1) := by decide +kernel
theorem dX8_start_72 : decode cX8_start 72 = .ok (.aload_n 0, 1) := by decide +kernel
theorem dX8_start_73 : decode cX8_start 73 = .ok (.getfield 19, 3) := by decide +kernel
theorem dX8_start_76 : decode cX8_start 76 = .ok (.bipush 9, 2) := by decide +kernel
theorem dX8_start_78 : decode cX8_start 78 = .ok (.iload_n 2, 1) := by decide +kernel
theorem dX8_start_79 : decode cX8_start 79 = .ok (.iastore, 1) := by decide +kernel
theorem dX8_start_80 : decode cX8_start 80 = .ok (.aload_n 0, 1) := by decide +kernel
theorem dX8_start_81 : decode cX8_start 81 = .ok (.getfield 19, 3) := by decide +kernel
theorem dX8_start_84 : decode cX8_start 84 = .ok (.bipush 7, 2) := by decide +kernel
theorem dX8_start_86 : decode cX8_start 86 = .ok (.dup2, 1) := by decide +kernel
theorem dX8_start_87 : decode cX8_start 87 = .ok (.iaload, 1) := by decide +kernel
theorem dX8_start_88 : decode cX8_start 88 = .ok (.iconst 1, 1) := by decide +kernel
theorem dX8_start_89 : decode cX8_start 89 = .ok (.iadd, 1) := by decide +kernel
theorem dX8_start_90 : decode cX8_start 90 = .ok (.iastore, 1) := by decide +kernel
theorem dX8_start_91 : decode cX8_start 91 = .ok (.return_, 1) := by decide +kernel
theorem dX8_stop_0 : decode cX8_stop 0 = .ok (.aload_n 0, 1) := by decide +kernel
theorem dX8_stop_1 : decode cX8_stop 1 = .ok (.getfield 19, 3) := by decide +kernel
theorem dX8_stop_4 : decode cX8_stop 4 = .ok (.bipush 17, 2) := by decide +kernel
theorem dX8_stop_6 : decode cX8_stop 6 = .ok (.bipush 14, 2) := by decide +kernel
theorem dX8_stop_8 : decode cX8_stop 8 = .ok (.iload_n 1, 1) := by decide +kernel
theorem dX8_stop_9 : decode cX8_stop 9 = .ok (.imul, 1) := by decide +kernel
theorem dX8_stop_10 : decode cX8_stop 10 = .ok (.iadd, 1) := by decide +kernel
theorem dX8_stop_11 : decode cX8_stop 11 = .ok (.iconst 0, 1) := by decide +kernel
theorem dX8_stop_12 : decode cX8_stop 12 = .ok (.iastore, 1) := by decide +kernel
theorem dX8_stop_13 : decode cX8_stop 13 = .ok (.aload_n 0, 1) := by decide +kernel
theorem dX8_stop_14 : decode cX8_stop 14 = .ok (.getfield 19, 3) := by decide +kernel
theorem dX8_stop_17 : decode cX8_stop 17 = .ok (.bipush 17, 2) := by decide +kernel
theorem dX8_stop_19 : decode cX8_stop 19 = .ok (.bipush 14, 2) := by decide +kernel
theorem dX8_stop_21 : decode cX8_stop 21 = .ok (.iload_n 1, 1) := by decide +kernel
theorem dX8_stop_22 : decode cX8_stop 22 = .ok (.imul, 1) := by decide +kernel
theorem dX8_stop_23 : decode cX8_stop 23 = .ok (.iadd, 1) := by decide +kernel
theorem dX8_stop_24 : decode cX8_stop 24 = .ok (.iconst 4, 1) := by decide +kernel
theorem dX8_stop_25 : decode cX8_stop 25 = .ok (.iadd, 1) := by decide +kernel
theorem dX8_stop_26 : decode cX8_stop 26 = .ok (.iload_n 2, 1) := by decide +kernel
theorem dX8_stop_27 : decode cX8_stop 27 = .ok (.iastore, 1) := by decide +kernel
theorem dX8_stop_28 : decode cX8_stop 28 = .ok (.return_, 1) := by decide +kernel
theorem dX8_starter_0 : decode cX8_starter 0 = .ok (.bipush (-4), 2) := by decide +kernel
theorem dX8_starter_2 : decode cX8_starter 2 = .ok (.istore_n 2, 1) := by decide +kernel
theorem dX8_starter_3 : decode cX8_starter 3 = .ok (.aload_n 0, 1) := by decide +kernel
theorem dX8_starter_4 : decode cX8_starter 4 = .ok (.getfield 16, 3) := by decide +kernel
theorem dX8_starter_7 : decode cX8_starter 7 = .ok (.bipush 36, 2) := by decide +kernel
theorem dX8_starter_9 : decode cX8_starter 9 = .ok (.iaload, 1) := by decide +kernel
theorem dX8_starter_10 : decode cX8_starter 10 = .ok (.iconst 1, 1) := by decide +kernel
theorem dX8_starter_11 : decode cX8_starter 11 = .ok (.isub, 1) := by decide +kernel
theorem dX8_starter_12 : decode cX8_starter 12 = .ok (.istore_n 3, 1) := by decide +kernel
theorem dX8_starter_13 : decode cX8_starter 13 = .ok (.iload_n 3, 1) := by decide +kernel
theorem dX8_starter_14 : decode cX8_starter 14 = .ok (.ifCond .lt 45, 3) := by decide +kernel
theorem dX8_starter_17 : decode cX8_starter 17 = .ok (.aload_n 0, 1) := by decide +kernel
theorem dX8_starter_18 : decode cX8_starter 18 = .ok (.iload_n 3, 1) := by decide +kernel
theorem dX8_starter_19 : decode cX8_starter 19 = .ok (.iload_n 1, 1) := by decide +kernel
theorem dX8_starter_20 : decode cX8_starter 20 = .ok (.invokevirtual 153, 3) := by decide +kernel
theorem dX8_starter_23 : decode cX8_starter 23 = .ok (.ifCond .eq 28, 3) := by decide +kernel
theorem dX8_starter_26 : decode cX8_starter 26 = .ok (.iload_n 2, 1) := by decide +kernel
theorem dX8_starter_27 : decode cX8_starter 27 = .ok (.bipush (-4), 2) := by decide +kernel
theorem dX8_starter_29 : decode cX8_starter 29 = .ok (.if_icmp .eq 18, 3) := by decide +kernel
theorem dX8_starter_32 : decode cX8_starter 32 = .ok (.aload_n 0, 1) := by decide +kernel
theorem dX8_starter_33 : decode cX8_starter 33 = .ok (.iload_n 3, 1) := by decide +kernel
theorem dX8_starter_34 : decode cX8_starter 34 = .ok (.iconst 1, 1) := by decide +kernel
theorem dX8_starter_35 : decode cX8_starter 35 = .ok (.invokevirtual 122, 3) := by decide +kernel
theorem dX8_starter_38 : decode cX8_starter 38 = .ok (.aload_n 0, 1) := by decide +kernel
theorem dX8_starter_39 : decode cX8_starter 39 = .ok (.iload_n 2, 1) := by decide +kernel
theorem dX8_starter_40 : decode cX8_starter 40 = .ok (.iconst 1, 1) := by decide +kernel
theorem dX8_starter_41 : decode cX8_starter 41 = .ok (.invokevirtual 122, 3) := by decide +kernel
theorem dX8_starter_44 : decode cX8_starter 44 = .ok (.if_icmp .gt 7, 3) := by decide +kernel
theorem dX8_starter_47 : decode cX8_starter 47 = .ok (.iload_n 3, 1) := by decide +kernel
theorem dX8_starter_48 : decode cX8_starter 48 = .ok (.goto 4, 3) := by decide +kernel
theorem dX8_starter_51 : decode cX8_starter 51 = .ok (.iload_n 2, 1) := by decide +kernel
theorem dX8_starter_52 : decode cX8_starter 52 = .ok (.istore_n 2, 1) := by decide +kernel
theorem dX8_starter_53 : decode cX8_starter 53 = .ok (.iinc 3 (-1), 3) := by decide +kernel
theorem dX8_starter_56 : decode cX8_starter 56 = .ok (.goto (-43), 3) := by decide +kernel
theorem dX8_starter_59 : decode cX8_starter 59 = .ok (.iload_n 2, 1) := by decide +kernel
theorem dX8_starter_60 : decode cX8_starter 60 = .ok (.ireturn, 1) := by decide +kernel
theorem dX8_stopper_0 : decode cX8_stopper 0 = .ok (.bipush (-4), 2) := by decide +kernel
theorem dX8_stopper_2 : decode cX8_stopper 2 = .ok (.istore_n 2, 1) := by decide +kernel
theorem dX8_stopper_3 : decode cX8_stopper 3 = .ok (.iconst 0, 1) := by decide +kernel
theorem dX8_stopper_4 : decode cX8_stopper 4 = .ok (.istore_n 3, 1) := by decide +kernel
theorem dX8_stopper_5 : decode cX8_stopper 5 = .ok (.iload_n 3, 1) := by decide +kernel
theorem dX8_stopper_6 : decode cX8_stopper 6 = .ok (.aload_n 0, 1) := by decide +kernel
theorem dX8_stopper_7 : decode cX8_stopper 7 = .ok (.getfield 16, 3) := by decide +kernel
theorem dX8_stopper_10 : decode cX8_stopper 10 = .ok (.bipush 36, 2) := by decide +kernel
theorem dX8_stopper_12 : decode cX8_stopper 12 = .ok (.iaload, 1) := by decide +kernel
theorem dX8_stopper_13 : decode cX8_stopper 13 = .ok (.if_icmp .ge 76, 3) := by decide +kernel
theorem dX8_stopper_16 : decode cX8_stopper 16 = .ok (.aload_n 0, 1) := by decide +kernel
theorem dX8_stopper_17 : decode cX8_stopper 17 = .ok (.iload_n 3, 1) := by decide +kernel
theorem dX8_stopper_18 : decode cX8_stopper 18 = .ok (.iconst 0, 1) := by decide +kernel
theorem dX8_stopper_19 : decode cX8_stopper 19 = .ok (.invokevirtual 122, 3) := by decide +kernel
theorem dX8_stopper_22 : decode cX8_stopper 22 = .ok (.iconst 2, 1) := by decide +kernel
theorem dX8_stopper_23 : decode cX8_stopper 23 = .ok (.if_icmp .ne 25, 3) := by decide +kernel
theorem dX8_stopper_26 : decode cX8_stopper 26 = .ok (.iload_n 1, 1) := by decide +kernel
theorem dX8_stopper_27 : decode cX8_stopper 27 = .ok (.aload_n 0, 1) := by decide +kernel
theorem dX8_stopper_28 : decode cX8_stopper 28 = .ok (.iload_n 3, 1) := by decide +kernel
theorem dX8_stopper_29 : decode cX8_stopper 29 = .ok (.iconst 5, 1) := by decide +kernel
theorem dX8_stopper_30 : decode cX8_stopper 30 = .ok (.invokevirtual 122, 3) := by decide +kernel
theorem dX8_stopper_33 : decode cX8_stopper 33 = .ok (.isub, 1) := by decide +kernel
theorem dX8_stopper_34 : decode cX8_stopper 34 = .ok (.aload_n 0, 1) := by decide +kernel
theorem dX8_stopper_35 : decode cX8_stopper 35 = .ok (.getfield 16, 3) := by decide +kernel
theorem dX8_stopper_38 : decode cX8_stopper 38 = .ok (.bipush 37, 2) := by decide +kernel
theorem dX8_stopper_40 : decode cX8_stopper 40 = .ok (.iaload, 1) := by decide +kernel
theorem dX8_stopper_41 : decode cX8_stopper 41 = .ok (.if_icmp .le 7, 3) := by decide +kernel
theorem dX8_stopper_44 : decode cX8_stopper 44 = .ok (.iconst 1, 1) := by decide +kernel
theorem dX8_stopper_45 : decode cX8_stopper 45 = .ok (.goto 4, 3) := by decide +kernel
theorem dX8_stopper_48 : decode cX8_stopper 48 = .ok (.iconst 0, 1) := by decide +kernel
theorem dX8_stopper_49 : decode cX8_stopper 49 = .ok (.istore 4, 2) := by decide +kernel
theorem dX8_stopper_51 : decode cX8_stopper 51 = .ok (.iload 4, 2) := by decide +kernel
theorem dX8_stopper_53 : decode cX8_stopper 53 = .ok (.ifCond .eq 28, 3) := by decide +kernel
theorem dX8_stopper_56 : decode cX8_stopper 56 = .ok (.iload_n 2, 1) := by decide +kernel
theorem dX8_stopper_57 : decode cX8_stopper 57 = .ok (.bipush (-4), 2) := by decide +kernel
theorem dX8_stopper_59 : decode cX8_stopper 59 = .ok (.if_icmp .eq 18, 3) := by decide +kernel
theorem dX8_stopper_62 : decode cX8_stopper 62 = .ok (.aload_n 0, 1) := by decide +kernel
theorem dX8_stopper_63 : decode cX8_stopper 63 = .ok (.iload_n 3, 1) := by decide +kernel
theorem dX8_stopper_64 : decode cX8_stopper 64 = .ok (.iconst 1, 1) := by decide +kernel
theorem dX8_stopper_65 : decode cX8_stopper 65 = .ok (.invokevirtual 122, 3) := by decide +kernel
theorem dX8_stopper_68 : decode cX8_stopper 68 = .ok (.aload_n 0, 1) := by decide +kernel
theorem dX8_stopper_69 : decode cX8_stopper 69 = .ok (.iload_n 2, 1) := by decide +kernel
theorem dX8_stopper_70 : decode cX8_stopper 70 = .ok (.iconst 1, 1) := by decide +kernel
theorem dX8_stopper_71 : decode cX8_stopper 71 = .ok (.invokevirtual 122, 3) := by decide +kernel
theorem dX8_stopper_74 : decode cX8_stopper 74 = .ok (.if_icmp .lt 7, 3) := by decide +kernel
theorem dX8_stopper_77 : decode cX8_stopper 77 = .ok (.iload_n 3, 1) := by decide +kernel
theorem dX8_stopper_78 : decode cX8_stopper 78 = .ok (.goto 4, 3) := by decide +kernel
theorem dX8_stopper_81 : decode cX8_stopper 81 = .ok (.iload_n 2, 1) := by decide +kernel
theorem dX8_stopper_82 : decode cX8_stopper 82 = .ok (.istore_n 2, 1) := by decide +kernel
theorem dX8_stopper_83 : decode cX8_stopper 83 = .ok (.iinc 3 1, 3) := by decide +kernel
theorem dX8_stopper_86 : decode cX8_stopper 86 = .ok (.goto (-81), 3) := by decide +kernel
theorem dX8_stopper_89 : decode cX8_stopper 89 = .ok (.iload_n 2, 1) := by decide +kernel
theorem dX8_stopper_90 : decode cX8_stopper 90 = .ok (.ireturn, 1) := by decide +kernel
theorem dX8_unlist_0 : decode cX8_unlist 0 = .ok (.iconst 0, 1) := by decide +kernel
theorem dX8_unlist_1 : decode cX8_unlist 1 = .ok (.istore_n 2, 1) := by decide +kernel
theorem dX8_unlist_2 : decode cX8_unlist 2 = .ok (.iconst 0, 1) := by decide +kernel
theorem dX8_unlist_3 : decode cX8_unlist 3 = .ok (.istore_n 3, 1) := by decide +kernel
theorem dX8_unlist_4 : decode cX8_unlist 4 = .ok (.iload_n 3, 1) := by decide +kernel
theorem dX8_unlist_5 : decode cX8_unlist 5 = .ok (.aload_n 0, 1) := by decide +kernel
theorem dX8_unlist_6 : decode cX8_unlist 6 = .ok (.getfield 19, 3) := by decide +kernel
theorem dX8_unlist_9 : decode cX8_unlist 9 = .ok (.bipush 10, 2) := by decide +kernel
theorem dX8_unlist_11 : decode cX8_unlist 11 = .ok (.iaload, 1) := by decide +kernel
theorem dX8_unlist_12 : decode cX8_unlist 12 = .ok (.if_icmp .ge 43, 3) := by decide +kernel
theorem dX8_unlist_15 : decode cX8_unlist 15 = .ok (.aload_n 0, 1) := by decide +kernel
theorem dX8_unlist_16 : decode cX8_unlist 16 = .ok (.getfield 19, 3) := by decide +kernel
theorem dX8_unlist_19 : decode cX8_unlist 19 = .ok (.bipush 11, 2) := by decide +kernel
theorem dX8_unlist_21 : decode cX8_unlist 21 = .ok (.iload_n 3, 1) := by decide +kernel
theorem dX8_unlist_22 : decode cX8_unlist 22 = .ok (.iadd, 1) := by decide +kernel
theorem dX8_unlist_23 : decode cX8_unlist 23 = .ok (.iaload, 1) := by decide +kernel
theorem dX8_unlist_24 : decode cX8_unlist 24 = .ok (.iload_n 1, 1) := by decide +kernel
theorem dX8_unlist_25 : decode cX8_unlist 25 = .ok (.if_icmp .eq 24, 3) := by decide +kernel
theorem dX8_unlist_28 : decode cX8_unlist 28 = .ok (.aload_n 0, 1) := by decide +kernel
theorem dX8_unlist_29 : decode cX8_unlist 29 = .ok (.getfield 19, 3) := by decide +kernel
theorem dX8_unlist_32 : decode cX8_unlist 32 = .ok (.bipush 11, 2) := by decide +kernel
theorem dX8_unlist_34 : decode cX8_unlist 34 = .ok (.iload_n 2, 1) := by decide +kernel
theorem dX8_unlist_35 : decode cX8_unlist 35 = .ok (.iadd, 1) := by decide +kernel
theorem dX8_unlist_36 : decode cX8_unlist 36 = .ok (.aload_n 0, 1) := by decide +kernel
theorem dX8_unlist_37 : decode cX8_unlist 37 = .ok (.getfield 19, 3) := by decide +kernel
theorem dX8_unlist_40 : decode cX8_unlist 40 = .ok (.bipush 11, 2) := by decide +kernel
theorem dX8_unlist_42 : decode cX8_unlist 42 = .ok (.iload_n 3, 1) := by decide +kernel
theorem dX8_unlist_43 : decode cX8_unlist 43 = .ok (.iadd, 1) := by decide +kernel
theorem dX8_unlist_44 : decode cX8_unlist 44 = .ok (.iaload, 1) := by decide +kernel
theorem dX8_unlist_45 : decode cX8_unlist 45 = .ok (.iastore, 1) := by decide +kernel
theorem dX8_unlist_46 : decode cX8_unlist 46 = .ok (.iinc 2 1, 3) := by decide +kernel
theorem dX8_unlist_49 : decode cX8_unlist 49 = .ok (.iinc 3 1, 3) := by decide +kernel
theorem dX8_unlist_52 : decode cX8_unlist 52 = .ok (.goto (-48), 3) := by decide +kernel
theorem dX8_unlist_55 : decode cX8_unlist 55 = .ok (.aload_n 0, 1) := by decide +kernel
theorem dX8_unlist_56 : decode cX8_unlist 56 = .ok (.getfield 19, 3) := by decide +kernel
theorem dX8_unlist_59 : decode cX8_unlist 59 = .ok (.bipush 10, 2) := by decide +kernel
theorem dX8_unlist_61 : decode cX8_unlist 61 = .ok (.iload_n 2, 1) := by decide +kernel
theorem dX8_unlist_62 : decode cX8_unlist 62 = .ok (.iastore, 1) := by decide +kernel
theorem dX8_unlist_63 : decode cX8_unlist 63 = .ok (.return_, 1) := by decide +kernel
theorem dX8_tickOnce_0 : decode cX8_tickOnce 0 = .ok (.aload_n 0, 1) := by decide +kernel
theorem dX8_tickOnce_1 : decode cX8_tickOnce 1 = .ok (.getfield 19, 3) := by decide +kernel
theorem dX8_tickOnce_4 : decode cX8_tickOnce 4 = .ok (.bipush 8, 2) := by decide +kernel
theorem dX8_tickOnce_6 : decode cX8_tickOnce 6 = .ok (.dup2, 1) := by decide +kernel
theorem dX8_tickOnce_7 : decode cX8_tickOnce 7 = .ok (.iaload, 1) := by decide +kernel
theorem dX8_tickOnce_8 : decode cX8_tickOnce 8 = .ok (.aload_n 0, 1) := by decide +kernel
theorem dX8_tickOnce_9 : decode cX8_tickOnce 9 = .ok (.invokevirtual 156, 3) := by decide +kernel
theorem dX8_tickOnce_12 : decode cX8_tickOnce 12 = .ok (.iadd, 1) := by decide +kernel
theorem dX8_tickOnce_13 : decode cX8_tickOnce 13 = .ok (.iastore, 1) := by decide +kernel
theorem dX8_tickOnce_14 : decode cX8_tickOnce 14 = .ok (.aload_n 0, 1) := by decide +kernel
theorem dX8_tickOnce_15 : decode cX8_tickOnce 15 = .ok (.getfield 19, 3) := by decide +kernel
theorem dX8_tickOnce_18 : decode cX8_tickOnce 18 = .ok (.iconst 4, 1) := by decide +kernel
theorem dX8_tickOnce_19 : decode cX8_tickOnce 19 = .ok (.dup2, 1) := by decide +kernel
theorem dX8_tickOnce_20 : decode cX8_tickOnce 20 = .ok (.iaload, 1) := by decide +kernel
theorem dX8_tickOnce_21 : decode cX8_tickOnce 21 = .ok (.iconst 1, 1) := by decide +kernel
theorem dX8_tickOnce_22 : decode cX8_tickOnce 22 = .ok (.iadd, 1) := by decide +kernel
theorem dX8_tickOnce_23 : decode cX8_tickOnce 23 = .ok (.iastore, 1) := by decide +kernel
theorem dX8_tickOnce_24 : decode cX8_tickOnce 24 = .ok (.aload_n 0, 1) := by decide +kernel
theorem dX8_tickOnce_25 : decode cX8_tickOnce 25 = .ok (.getfield 19, 3) := by decide +kernel
theorem dX8_tickOnce_28 : decode cX8_tickOnce 28 = .ok (.iconst 4, 1) := by decide +kernel
theorem dX8_tickOnce_29 : decode cX8_tickOnce 29 = .ok (.iaload, 1) := by decide +kernel
theorem dX8_tickOnce_30 : decode cX8_tickOnce 30 = .ok (.istore_n 1, 1) := by decide +kernel
theorem dX8_tickOnce_31 : decode cX8_tickOnce 31 = .ok (.iconst 0, 1) := by decide +kernel
theorem dX8_tickOnce_32 : decode cX8_tickOnce 32 = .ok (.istore_n 2, 1) := by decide +kernel
theorem dX8_tickOnce_33 : decode cX8_tickOnce 33 = .ok (.iload_n 2, 1) := by decide +kernel
theorem dX8_tickOnce_34 : decode cX8_tickOnce 34 = .ok (.aload_n 0, 1) := by decide +kernel
theorem dX8_tickOnce_35 : decode cX8_tickOnce 35 = .ok (.getfield 16, 3) := by decide +kernel
theorem dX8_tickOnce_38 : decode cX8_tickOnce 38 = .ok (.bipush 36, 2) := by decide +kernel
theorem dX8_tickOnce_40 : decode cX8_tickOnce 40 = .ok (.iaload, 1) := by decide +kernel
theorem dX8_tickOnce_41 : decode cX8_tickOnce 41 = .ok (.if_icmp .ge 82, 3) := by decide +kernel
theorem dX8_tickOnce_44 : decode cX8_tickOnce 44 = .ok (.aload_n 0, 1) := by decide +kernel
theorem dX8_tickOnce_45 : decode cX8_tickOnce 45 = .ok (.getfield 19, 3) := by decide +kernel
theorem dX8_tickOnce_48 : decode cX8_tickOnce 48 = .ok (.bipush 17, 2) := by decide +kernel
theorem dX8_tickOnce_50 : decode cX8_tickOnce 50 = .ok (.bipush 14, 2) := by decide +kernel
theorem dX8_tickOnce_52 : decode cX8_tickOnce 52 = .ok (.iload_n 2, 1) := by decide +kernel
theorem dX8_tickOnce_53 : decode cX8_tickOnce 53 = .ok (.imul, 1) := by decide +kernel
theorem dX8_tickOnce_54 : decode cX8_tickOnce 54 = .ok (.iadd, 1) := by decide +kernel
theorem dX8_tickOnce_55 : decode cX8_tickOnce 55 = .ok (.iconst 1, 1) := by decide +kernel
theorem dX8_tickOnce_56 : decode cX8_tickOnce 56 = .ok (.iadd, 1) := by decide +kernel
theorem dX8_tickOnce_57 : decode cX8_tickOnce 57 = .ok (.dup2, 1) := by decide +kernel
theorem dX8_tickOnce_58 : decode cX8_tickOnce 58 = .ok (.iaload, 1) := by decide +kernel
theorem dX8_tickOnce_59 : decode cX8_tickOnce 59 = .ok (.aload_n 0, 1) := by decide +kernel
theorem dX8_tickOnce_60 : decode cX8_tickOnce 60 = .ok (.iload_n 2, 1) := by decide +kernel
theorem dX8_tickOnce_61 : decode cX8_tickOnce 61 = .ok (.iconst 0, 1) := by decide +kernel
theorem dX8_tickOnce_62 : decode cX8_tickOnce 62 = .ok (.invokevirtual 122, 3) := by decide +kernel
theorem dX8_tickOnce_65 : decode cX8_tickOnce 65 = .ok (.ifCond .le 7, 3) := by decide +kernel
theorem dX8_tickOnce_68 : decode cX8_tickOnce 68 = .ok (.iconst 1, 1) := by decide +kernel
theorem dX8_tickOnce_69 : decode cX8_tickOnce 69 = .ok (.goto 4, 3) := by decide +kernel
theorem dX8_tickOnce_72 : decode cX8_tickOnce 72 = .ok (.iconst 0, 1) := by decide +kernel
theorem dX8_tickOnce_73 : decode cX8_tickOnce 73 = .ok (.iadd, 1) := by decide +kernel
theorem dX8_tickOnce_74 : decode cX8_tickOnce 74 = .ok (.iastore, 1) := by decide +kernel
theorem dX8_tickOnce_75 : decode cX8_tickOnce 75 = .ok (.aload_n 0, 1) := by decide +kernel
theorem dX8_tickOnce_76 : decode cX8_tickOnce 76 = .ok (.getfield 19, 3) := by decide +kernel
theorem dX8_tickOnce_79 : decode cX8_tickOnce 79 = .ok (.bipush 17, 2) := by decide +kernel
theorem dX8_tickOnce_81 : decode cX8_tickOnce 81 = .ok (.bipush 14, 2) := by decide +kernel
theorem dX8_tickOnce_83 : decode cX8_tickOnce 83 = .ok (.iload_n 2, 1) := by decide +kernel
theorem dX8_tickOnce_84 : decode cX8_tickOnce 84 = .ok (.imul, 1) := by decide +kernel
theorem dX8_tickOnce_85 : decode cX8_tickOnce 85 = .ok (.iadd, 1) := by decide +kernel
theorem dX8_tickOnce_86 : decode cX8_tickOnce 86 = .ok (.dup2, 1) := by decide +kernel
theorem dX8_tickOnce_87 : decode cX8_tickOnce 87 = .ok (.iaload, 1) := by decide +kernel
theorem dX8_tickOnce_88 : decode cX8_tickOnce 88 = .ok (.aload_n 0, 1) := by decide +kernel
theorem dX8_tickOnce_89 : decode cX8_tickOnce 89 = .ok (.iload_n 2, 1) := by decide +kernel
theorem dX8_tickOnce_90 : decode cX8_tickOnce 90 = .ok (.iconst 0, 1) := by decide +kernel
theorem dX8_tickOnce_91 : decode cX8_tickOnce 91 = .ok (.invokevirtual 122, 3) := by decide +kernel
theorem dX8_tickOnce_94 : decode cX8_tickOnce 94 = .ok (.iconst 1, 1) := by decide +kernel
theorem dX8_tickOnce_95 : decode cX8_tickOnce 95 = .ok (.if_icmp .ne 19, 3) := by decide +kernel
theorem dX8_tickOnce_98 : decode cX8_tickOnce 98 = .ok (.iload_n 1, 1) := by decide +kernel
theorem dX8_tickOnce_99 : decode cX8_tickOnce 99 = .ok (.aload_n 0, 1) := by decide +kernel
theorem dX8_tickOnce_100 : decode cX8_tickOnce 100 = .ok (.iload_n 2, 1) := by decide +kernel
theorem dX8_tickOnce_101 : decode cX8_tickOnce 101 = .ok (.iconst 5, 1) := by decide +kernel
theorem dX8_tickOnce_102 : decode cX8_tickOnce 102 = .ok (.invokevirtual 122, 3) := by decide +kernel
theorem dX8_tickOnce_105 : decode cX8_tickOnce 105 = .ok (.isub, 1) := by decide +kernel
theorem dX8_tickOnce_106 : decode cX8_tickOnce 106 = .ok (.iconst 3, 1) := by decide +kernel
theorem dX8_tickOnce_107 : decode cX8_tickOnce 107 = .ok (.if_icmp .lt 7, 3) := by decide +kernel
theorem dX8_tickOnce_110 : decode cX8_tickOnce 110 = .ok (.iconst 1, 1) := by decide +kernel
theorem dX8_tickOnce_111 : decode cX8_tickOnce 111 = .ok (.goto 4, 3) := by decide +kernel
theorem dX8_tickOnce_114 : decode cX8_tickOnce 114 = .ok (.iconst 0, 1) := by decide +kernel
theorem dX8_tickOnce_115 : decode cX8_tickOnce 115 = .ok (.iadd, 1) := by decide +kernel
theorem dX8_tickOnce_116 : decode cX8_tickOnce 116 = .ok (.iastore, 1) := by decide +kernel
theorem dX8_tickOnce_117 : decode cX8_tickOnce 117 = .ok (.iinc 2 1, 3) := by decide +kernel
theorem dX8_tickOnce_120 : decode cX8_tickOnce 120 = .ok (.goto (-87), 3) := by decide +kernel
theorem dX8_tickOnce_123 : decode cX8_tickOnce 123 = .ok (.aload_n 0, 1) := by decide +kernel
theorem dX8_tickOnce_124 : decode cX8_tickOnce 124 = .ok (.getfield 19, 3) := by decide +kernel
theorem dX8_tickOnce_127 : decode cX8_tickOnce 127 = .ok (.bipush 10, 2) := by decide +kernel
theorem dX8_tickOnce_129 : decode cX8_tickOnce 129 = .ok (.iaload, 1) := by decide +kernel
theorem dX8_tickOnce_130 : decode cX8_tickOnce 130 = .ok (.ifCond .le 31, 3) := by decide +kernel
theorem dX8_tickOnce_133 : decode cX8_tickOnce 133 = .ok (.aload_n 0, 1) := by decide +kernel
theorem dX8_tickOnce_134 : decode cX8_tickOnce 134 = .ok (.iload_n 1, 1) := by decide +kernel
theorem dX8_tickOnce_135 : decode cX8_tickOnce 135 = .ok (.invokevirtual 150, 3) := by decide +kernel
theorem dX8_tickOnce_138 : decode cX8_tickOnce 138 = .ok (.ifCond .eq 22, 3) := by decide +kernel
theorem dX8_tickOnce_141 : decode cX8_tickOnce 141 = .ok (.aload_n 0, 1) := by decide +kernel
theorem dX8_tickOnce_142 : decode cX8_tickOnce 142 = .ok (.getfield 19, 3) := by decide +kernel
theorem dX8_tickOnce_145 : decode cX8_tickOnce 145 = .ok (.bipush 11, 2) := by decide +kernel
theorem dX8_tickOnce_147 : decode cX8_tickOnce 147 = .ok (.iaload, 1) := by decide +kernel
theorem dX8_tickOnce_148 : decode cX8_tickOnce 148 = .ok (.istore_n 2, 1) := by decide +kernel
theorem dX8_tickOnce_149 : decode cX8_tickOnce 149 = .ok (.aload_n 0, 1) := by decide +kernel
theorem dX8_tickOnce_150 : decode cX8_tickOnce 150 = .ok (.iload_n 2, 1) := by decide +kernel
theorem dX8_tickOnce_151 : decode cX8_tickOnce 151 = .ok (.invokevirtual 159, 3) := by decide +kernel
theorem dX8_tickOnce_154 : decode cX8_tickOnce 154 = .ok (.aload_n 0, 1) := by decide +kernel
theorem dX8_tickOnce_155 : decode cX8_tickOnce 155 = .ok (.iload_n 2, 1) := by decide +kernel
theorem dX8_tickOnce_156 : decode cX8_tickOnce 156 = .ok (.iload_n 1, 1) := by decide +kernel
theorem dX8_tickOnce_157 : decode cX8_tickOnce 157 = .ok (.invokevirtual 163, 3) := by decide +kernel
theorem dX8_tickOnce_160 : decode cX8_tickOnce 160 = .ok (.return_, 1) := by decide +kernel
theorem dX8_tickOnce_161 : decode cX8_tickOnce 161 = .ok (.aload_n 0, 1) := by decide +kernel
theorem dX8_tickOnce_162 : decode cX8_tickOnce 162 = .ok (.iconst 1, 1) := by decide +kernel
theorem dX8_tickOnce_163 : decode cX8_tickOnce 163 = .ok (.invokevirtual 140, 3) := by decide +kernel
theorem dX8_tickOnce_166 : decode cX8_tickOnce 166 = .ok (.istore_n 2, 1) := by decide +kernel
theorem dX8_tickOnce_167 : decode cX8_tickOnce 167 = .ok (.bipush 100, 2) := by decide +kernel
theorem dX8_tickOnce_169 : decode cX8_tickOnce 169 = .ok (.aload_n 0, 1) := by decide +kernel
theorem dX8_tickOnce_170 : decode cX8_tickOnce 170 = .ok (.getfield 19, 3) := by decide +kernel
theorem dX8_tickOnce_173 : decode cX8_tickOnce 173 = .ok (.iconst 0, 1) := by decide +kernel
theorem dX8_tickOnce_174 : decode cX8_tickOnce 174 = .ok (.iaload, 1) := by decide +kernel
theorem dX8_tickOnce_175 : decode cX8_tickOnce 175 = .ok (.imul, 1) := by decide +kernel
theorem dX8_tickOnce_176 : decode cX8_tickOnce 176 = .ok (.istore_n 3, 1) := by decide +kernel
theorem dX8_tickOnce_177 : decode cX8_tickOnce 177 = .ok (.aload_n 0, 1) := by decide +kernel
theorem dX8_tickOnce_178 : decode cX8_tickOnce 178 = .ok (.iload_n 1, 1) := by decide +kernel
theorem dX8_tickOnce_179 : decode cX8_tickOnce 179 = .ok (.invokevirtual 166, 3) := by decide +kernel
theorem dX8_tickOnce_182 : decode cX8_tickOnce 182 = .ok (.istore 4, 2) := by decide +kernel
theorem dX8_tickOnce_184 : decode cX8_tickOnce 184 = .ok (.iload_n 3, 1) := by decide +kernel
theorem dX8_tickOnce_185 : decode cX8_tickOnce 185 = .ok (.aload_n 0, 1) := by decide +kernel
theorem dX8_tickOnce_186 : decode cX8_tickOnce 186 = .ok (.getfield 16, 3) := by decide +kernel
theorem dX8_tickOnce_189 : decode cX8_tickOnce 189 = .ok (.bipush 41, 2) := by decide +kernel
theorem dX8_tickOnce_191 : decode cX8_tickOnce 191 = .ok (.iaload, 1) := by decide +kernel
theorem dX8_tickOnce_192 : decode cX8_tickOnce 192 = .ok (.aload_n 0, 1) := by decide +kernel
theorem dX8_tickOnce_193 : decode cX8_tickOnce 193 = .ok (.iload_n 2, 1) := by decide +kernel
theorem dX8_tickOnce_194 : decode cX8_tickOnce 194 = .ok (.iconst 1, 1) := by decide +kernel
theorem dX8_tickOnce_195 : decode cX8_tickOnce 195 = .ok (.invokevirtual 90, 3) := by decide +kernel
theorem dX8_tickOnce_198 : decode cX8_tickOnce 198 = .ok (.imul, 1) := by decide +kernel
theorem dX8_tickOnce_199 : decode cX8_tickOnce 199 = .ok (.if_icmp .le 68, 3) := by decide +kernel
theorem dX8_tickOnce_202 : decode cX8_tickOnce 202 = .ok (.aload_n 0, 1) := by decide +kernel
theorem dX8_tickOnce_203 : decode cX8_tickOnce 203 = .ok (.getfield 19, 3) := by decide +kernel
theorem dX8_tickOnce_206 : decode cX8_tickOnce 206 = .ok (.iconst 5, 1) := by decide +kernel
theorem dX8_tickOnce_207 : decode cX8_tickOnce 207 = .ok (.dup2, 1) := by decide +kernel
theorem dX8_tickOnce_208 : decode cX8_tickOnce 208 = .ok (.iaload, 1) := by decide +kernel
theorem dX8_tickOnce_209 : decode cX8_tickOnce 209 = .ok (.iconst 1, 1) := by decide +kernel
theorem dX8_tickOnce_210 : decode cX8_tickOnce 210 = .ok (.iadd, 1) := by decide +kernel
theorem dX8_tickOnce_211 : decode cX8_tickOnce 211 = .ok (.iastore, 1) := by decide +kernel
theorem dX8_tickOnce_212 : decode cX8_tickOnce 212 = .ok (.aload_n 0, 1) := by decide +kernel
theorem dX8_tickOnce_213 : decode cX8_tickOnce 213 = .ok (.getfield 19, 3) := by decide +kernel
theorem dX8_tickOnce_216 : decode cX8_tickOnce 216 = .ok (.bipush 6, 2) := by decide +kernel
theorem dX8_tickOnce_218 : decode cX8_tickOnce 218 = .ok (.iconst 0, 1) := by decide +kernel
theorem dX8_tickOnce_219 : decode cX8_tickOnce 219 = .ok (.iastore, 1) := by decide +kernel
theorem dX8_tickOnce_220 : decode cX8_tickOnce 220 = .ok (.aload_n 0, 1) := by decide +kernel
theorem dX8_tickOnce_221 : decode cX8_tickOnce 221 = .ok (.iload_n 1, 1) := by decide +kernel
theorem dX8_tickOnce_222 : decode cX8_tickOnce 222 = .ok (.invokevirtual 169, 3) := by decide +kernel
theorem dX8_tickOnce_225 : decode cX8_tickOnce 225 = .ok (.istore 5, 2) := by decide +kernel
theorem dX8_tickOnce_227 : decode cX8_tickOnce 227 = .ok (.aload_n 0, 1) := by decide +kernel
theorem dX8_tickOnce_228 : decode cX8_tickOnce 228 = .ok (.getfield 19, 3) := by decide +kernel
theorem dX8_tickOnce_231 : decode cX8_tickOnce 231 = .ok (.iconst 5, 1) := by decide +kernel
theorem dX8_tickOnce_232 : decode cX8_tickOnce 232 = .ok (.iaload, 1) := by decide +kernel
theorem dX8_tickOnce_233 : decode cX8_tickOnce 233 = .ok (.aload_n 0, 1) := by decide +kernel
theorem dX8_tickOnce_234 : decode cX8_tickOnce 234 = .ok (.getfield 16, 3) := by decide +kernel
theorem dX8_tickOnce_237 : decode cX8_tickOnce 237 = .ok (.bipush 43, 2) := by decide +kernel
theorem dX8_tickOnce_239 : decode cX8_tickOnce 239 = .ok (.iaload, 1) := by decide +kernel
theorem dX8_tickOnce_240 : decode cX8_tickOnce 240 = .ok (.if_icmp .le 24, 3) := by decide +kernel
theorem dX8_tickOnce_243 : decode cX8_tickOnce 243 = .ok (.iload 5, 2) := by decide +kernel
theorem dX8_tickOnce_245 : decode cX8_tickOnce 245 = .ok (.bipush (-4), 2) := by decide +kernel
theorem dX8_tickOnce_247 : decode cX8_tickOnce 247 = .ok (.if_icmp .eq 17, 3) := by decide +kernel
theorem dX8_tickOnce_250 : decode cX8_tickOnce 250 = .ok (.aload_n 0, 1) := by decide +kernel
theorem dX8_tickOnce_251 : decode cX8_tickOnce 251 = .ok (.iload 5, 2) := by decide +kernel
theorem dX8_tickOnce_253 : decode cX8_tickOnce 253 = .ok (.iload_n 1, 1) := by decide +kernel
theorem dX8_tickOnce_254 : decode cX8_tickOnce 254 = .ok (.invokevirtual 163, 3) := by decide +kernel
theorem dX8_tickOnce_257 : decode cX8_tickOnce 257 = .ok (.aload_n 0, 1) := by decide +kernel
theorem dX8_tickOnce_258 : decode cX8_tickOnce 258 = .ok (.getfield 19, 3) := by decide +kernel
theorem dX8_tickOnce_261 : decode cX8_tickOnce 261 = .ok (.iconst 5, 1) := by decide +kernel
theorem dX8_tickOnce_262 : decode cX8_tickOnce 262 = .ok (.iconst 0, 1) := by decide +kernel
theorem dX8_tickOnce_263 : decode cX8_tickOnce 263 = .ok (.iastore, 1) := by decide +kernel
theorem dX8_tickOnce_264 : decode cX8_tickOnce 264 = .ok (.goto 103, 3) := by decide +kernel
theorem dX8_tickOnce_267 : decode cX8_tickOnce 267 = .ok (.iload 4, 2) := by decide +kernel
theorem dX8_tickOnce_269 : decode cX8_tickOnce 269 = .ok (.bipush (-4), 2) := by decide +kernel
theorem dX8_tickOnce_271 : decode cX8_tickOnce 271 = .ok (.if_icmp .eq 81, 3) := by decide +kernel
theorem dX8_tickOnce_274 : decode cX8_tickOnce 274 = .ok (.iload_n 3, 1) := by decide +kernel
theorem dX8_tickOnce_275 : decode cX8_tickOnce 275 = .ok (.aload_n 0, 1) := by decide +kernel
theorem dX8_tickOnce_276 : decode cX8_tickOnce 276 = .ok (.getfield 16, 3) := by decide +kernel
theorem dX8_tickOnce_279 : decode cX8_tickOnce 279 = .ok (.bipush 42, 2) := by decide +kernel
theorem dX8_tickOnce_281 : decode cX8_tickOnce 281 = .ok (.iaload, 1) := by decide +kernel
theorem dX8_tickOnce_282 : decode cX8_tickOnce 282 = .ok (.aload_n 0, 1) := by decide +kernel
theorem dX8_tickOnce_283 : decode cX8_tickOnce 283 = .ok (.iload_n 2, 1) := by decide +kernel
theorem dX8_tickOnce_284 : decode cX8_tickOnce 284 = .ok (.iconst 1, 1) := by decide +kernel
theorem dX8_tickOnce_285 : decode cX8_tickOnce 285 = .ok (.invokevirtual 90, 3) := by decide +kernel
theorem dX8_tickOnce_288 : decode cX8_tickOnce 288 = .ok (.aload_n 0, 1) := by decide +kernel
theorem dX8_tickOnce_289 : decode cX8_tickOnce 289 = .ok (.iload 4, 2) := by decide +kernel
theorem dX8_tickOnce_291 : decode cX8_tickOnce 291 = .ok (.invokevirtual 99, 3) := by decide +kernel
theorem dX8_tickOnce_294 : decode cX8_tickOnce 294 = .ok (.isub, 1) := by decide +kernel
theorem dX8_tickOnce_295 : decode cX8_tickOnce 295 = .ok (.imul, 1) := by decide +kernel
theorem dX8_tickOnce_296 : decode cX8_tickOnce 296 = .ok (.if_icmp .ge 56, 3) := by decide +kernel
theorem dX8_tickOnce_299 : decode cX8_tickOnce 299 = .ok (.aload_n 0, 1) := by decide +kernel
theorem dX8_tickOnce_300 : decode cX8_tickOnce 300 = .ok (.getfield 19, 3) := by decide +kernel
theorem dX8_tickOnce_303 : decode cX8_tickOnce 303 = .ok (.bipush 6, 2) := by decide +kernel
theorem dX8_tickOnce_305 : decode cX8_tickOnce 305 = .ok (.dup2, 1) := by decide +kernel
theorem dX8_tickOnce_306 : decode cX8_tickOnce 306 = .ok (.iaload, 1) := by decide +kernel
theorem dX8_tickOnce_307 : decode cX8_tickOnce 307 = .ok (.iconst 1, 1) := by decide +kernel
theorem dX8_tickOnce_308 : decode cX8_tickOnce 308 = .ok (.iadd, 1) := by decide +kernel
theorem dX8_tickOnce_309 : decode cX8_tickOnce 309 = .ok (.iastore, 1) := by decide +kernel
theorem dX8_tickOnce_310 : decode cX8_tickOnce 310 = .ok (.aload_n 0, 1) := by decide +kernel
theorem dX8_tickOnce_311 : decode cX8_tickOnce 311 = .ok (.getfield 19, 3) := by decide +kernel
theorem dX8_tickOnce_314 : decode cX8_tickOnce 314 = .ok (.iconst 5, 1) := by decide +kernel
theorem dX8_tickOnce_315 : decode cX8_tickOnce 315 = .ok (.iconst 0, 1) := by decide +kernel
theorem dX8_tickOnce_316 : decode cX8_tickOnce 316 = .ok (.iastore, 1) := by decide +kernel
theorem dX8_tickOnce_317 : decode cX8_tickOnce 317 = .ok (.aload_n 0, 1) := by decide +kernel
theorem dX8_tickOnce_318 : decode cX8_tickOnce 318 = .ok (.getfield 19, 3) := by decide +kernel
theorem dX8_tickOnce_321 : decode cX8_tickOnce 321 = .ok (.bipush 6, 2) := by decide +kernel
theorem dX8_tickOnce_323 : decode cX8_tickOnce 323 = .ok (.iaload, 1) := by decide +kernel
theorem dX8_tickOnce_324 : decode cX8_tickOnce 324 = .ok (.aload_n 0, 1) := by decide +kernel
theorem dX8_tickOnce_325 : decode cX8_tickOnce 325 = .ok (.getfield 16, 3) := by decide +kernel
theorem dX8_tickOnce_328 : decode cX8_tickOnce 328 = .ok (.bipush 43, 2) := by decide +kernel
theorem dX8_tickOnce_330 : decode cX8_tickOnce 330 = .ok (.iaload, 1) := by decide +kernel
theorem dX8_tickOnce_331 : decode cX8_tickOnce 331 = .ok (.if_icmp .le 36, 3) := by decide +kernel
theorem dX8_tickOnce_334 : decode cX8_tickOnce 334 = .ok (.aload_n 0, 1) := by decide +kernel
theorem dX8_tickOnce_335 : decode cX8_tickOnce 335 = .ok (.iload 4, 2) := by decide +kernel
theorem dX8_tickOnce_337 : decode cX8_tickOnce 337 = .ok (.iload_n 1, 1) := by decide +kernel
theorem dX8_tickOnce_338 : decode cX8_tickOnce 338 = .ok (.invokevirtual 172, 3) := by decide +kernel
theorem dX8_tickOnce_341 : decode cX8_tickOnce 341 = .ok (.aload_n 0, 1) := by decide +kernel
theorem dX8_tickOnce_342 : decode cX8_tickOnce 342 = .ok (.getfield 19, 3) := by decide +kernel
theorem dX8_tickOnce_345 : decode cX8_tickOnce 345 = .ok (.bipush 6, 2) := by decide +kernel
theorem dX8_tickOnce_347 : decode cX8_tickOnce 347 = .ok (.iconst 0, 1) := by decide +kernel
theorem dX8_tickOnce_348 : decode cX8_tickOnce 348 = .ok (.iastore, 1) := by decide +kernel
theorem dX8_tickOnce_349 : decode cX8_tickOnce 349 = .ok (.goto 18, 3) := by decide +kernel
theorem dX8_tickOnce_352 : decode cX8_tickOnce 352 = .ok (.aload_n 0, 1) := by decide +kernel
theorem dX8_tickOnce_353 : decode cX8_tickOnce 353 = .ok (.getfield 19, 3) := by decide +kernel
theorem dX8_tickOnce_356 : decode cX8_tickOnce 356 = .ok (.iconst 5, 1) := by decide +kernel
theorem dX8_tickOnce_357 : decode cX8_tickOnce 357 = .ok (.iconst 0, 1) := by decide +kernel
theorem dX8_tickOnce_358 : decode cX8_tickOnce 358 = .ok (.iastore, 1) := by decide +kernel
theorem dX8_tickOnce_359 : decode cX8_tickOnce 359 = .ok (.aload_n 0, 1) := by decide +kernel
theorem dX8_tickOnce_360 : decode cX8_tickOnce 360 = .ok (.getfield 19, 3) := by decide +kernel
theorem dX8_tickOnce_363 : decode cX8_tickOnce 363 = .ok (.bipush 6, 2) := by decide +kernel
theorem dX8_tickOnce_365 : decode cX8_tickOnce 365 = .ok (.iconst 0, 1) := by decide +kernel
theorem dX8_tickOnce_366 : decode cX8_tickOnce 366 = .ok (.iastore, 1) := by decide +kernel
theorem dX8_tickOnce_367 : decode cX8_tickOnce 367 = .ok (.return_, 1) := by decide +kernel
theorem dX8_note_0 : decode cX8_note 0 = .ok (.aload_n 0, 1) := by decide +kernel
theorem dX8_note_1 : decode cX8_note 1 = .ok (.getfield 47, 3) := by decide +kernel
theorem dX8_note_4 : decode cX8_note 4 = .ok (.iconst 4, 1) := by decide +kernel
theorem dX8_note_5 : decode cX8_note 5 = .ok (.if_icmp .ne 43, 3) := by decide +kernel
theorem dX8_note_8 : decode cX8_note 8 = .ok (.iconst 0, 1) := by decide +kernel
theorem dX8_note_9 : decode cX8_note 9 = .ok (.istore_n 1, 1) := by decide +kernel
theorem dX8_note_10 : decode cX8_note 10 = .ok (.iload_n 1, 1) := by decide +kernel
theorem dX8_note_11 : decode cX8_note 11 = .ok (.sipush 303, 3) := by decide +kernel
theorem dX8_note_14 : decode cX8_note 14 = .ok (.if_icmp .ge 24, 3) := by decide +kernel
theorem dX8_note_17 : decode cX8_note 17 = .ok (.aload_n 0, 1) := by decide +kernel
theorem dX8_note_18 : decode cX8_note 18 = .ok (.getfield 25, 3) := by decide +kernel
theorem dX8_note_21 : decode cX8_note 21 = .ok (.iload_n 1, 1) := by decide +kernel
theorem dX8_note_22 : decode cX8_note 22 = .ok (.aload_n 0, 1) := by decide +kernel
theorem dX8_note_23 : decode cX8_note 23 = .ok (.getfield 25, 3) := by decide +kernel
theorem dX8_note_26 : decode cX8_note 26 = .ok (.iload_n 1, 1) := by decide +kernel
theorem dX8_note_27 : decode cX8_note 27 = .ok (.bipush 101, 2) := by decide +kernel
theorem dX8_note_29 : decode cX8_note 29 = .ok (.iadd, 1) := by decide +kernel
theorem dX8_note_30 : decode cX8_note 30 = .ok (.iaload, 1) := by decide +kernel
theorem dX8_note_31 : decode cX8_note 31 = .ok (.iastore, 1) := by decide +kernel
theorem dX8_note_32 : decode cX8_note 32 = .ok (.iinc 1 1, 3) := by decide +kernel
theorem dX8_note_35 : decode cX8_note 35 = .ok (.goto (-25), 3) := by decide +kernel
theorem dX8_note_38 : decode cX8_note 38 = .ok (.aload_n 0, 1) := by decide +kernel
theorem dX8_note_39 : decode cX8_note 39 = .ok (.dup, 1) := by decide +kernel
theorem dX8_note_40 : decode cX8_note 40 = .ok (.getfield 47, 3) := by decide +kernel
theorem dX8_note_43 : decode cX8_note 43 = .ok (.iconst 1, 1) := by decide +kernel
theorem dX8_note_44 : decode cX8_note 44 = .ok (.isub, 1) := by decide +kernel
theorem dX8_note_45 : decode cX8_note 45 = .ok (.putfield 47, 3) := by decide +kernel
theorem dX8_note_48 : decode cX8_note 48 = .ok (.iconst 0, 1) := by decide +kernel
theorem dX8_note_49 : decode cX8_note 49 = .ok (.istore_n 1, 1) := by decide +kernel
theorem dX8_note_50 : decode cX8_note 50 = .ok (.iload_n 1, 1) := by decide +kernel
theorem dX8_note_51 : decode cX8_note 51 = .ok (.bipush 101, 2) := by decide +kernel
theorem dX8_note_53 : decode cX8_note 53 = .ok (.if_icmp .ge 29, 3) := by decide +kernel
theorem dX8_note_56 : decode cX8_note 56 = .ok (.aload_n 0, 1) := by decide +kernel
theorem dX8_note_57 : decode cX8_note 57 = .ok (.getfield 25, 3) := by decide +kernel
theorem dX8_note_60 : decode cX8_note 60 = .ok (.bipush 101, 2) := by decide +kernel
theorem dX8_note_62 : decode cX8_note 62 = .ok (.aload_n 0, 1) := by decide +kernel
theorem dX8_note_63 : decode cX8_note 63 = .ok (.getfield 47, 3) := by decide +kernel
theorem dX8_note_66 : decode cX8_note 66 = .ok (.imul, 1) := by decide +kernel
theorem dX8_note_67 : decode cX8_note 67 = .ok (.iload_n 1, 1) := by decide +kernel
theorem dX8_note_68 : decode cX8_note 68 = .ok (.iadd, 1) := by decide +kernel
theorem dX8_note_69 : decode cX8_note 69 = .ok (.aload_n 0, 1) := by decide +kernel
theorem dX8_note_70 : decode cX8_note 70 = .ok (.getfield 19, 3) := by decide +kernel
theorem dX8_note_73 : decode cX8_note 73 = .ok (.iload_n 1, 1) := by decide +kernel
theorem dX8_note_74 : decode cX8_note 74 = .ok (.iaload, 1) := by decide +kernel
theorem dX8_note_75 : decode cX8_note 75 = .ok (.iastore, 1) := by decide +kernel
theorem dX8_note_76 : decode cX8_note 76 = .ok (.iinc 1 1, 3) := by decide +kernel
theorem dX8_note_79 : decode cX8_note 79 = .ok (.goto (-29), 3) := by decide +kernel
theorem dX8_note_82 : decode cX8_note 82 = .ok (.aload_n 0, 1) := by decide +kernel
theorem dX8_note_83 : decode cX8_note 83 = .ok (.dup, 1) := by decide +kernel
theorem dX8_note_84 : decode cX8_note 84 = .ok (.getfield 47, 3) := by decide +kernel
theorem dX8_note_87 : decode cX8_note 87 = .ok (.iconst 1, 1) := by decide +kernel
theorem dX8_note_88 : decode cX8_note 88 = .ok (.iadd, 1) := by decide +kernel
theorem dX8_note_89 : decode cX8_note 89 = .ok (.putfield 47, 3) := by decide +kernel
theorem dX8_note_92 : decode cX8_note 92 = .ok (.return_, 1) := by decide +kernel
theorem dX8_undo_0 : decode cX8_undo 0 = .ok (.aload_n 0, 1) := by decide +kernel
theorem dX8_undo_1 : decode cX8_undo 1 = .ok (.getfield 47, 3) := by decide +kernel
theorem dX8_undo_4 : decode cX8_undo 4 = .ok (.ifCond .ne 6, 3) := by decide +kernel
theorem dX8_undo_7 : decode cX8_undo 7 = .ok (.bipush (-2), 2) := by decide +kernel
theorem dX8_undo_9 : decode cX8_undo 9 = .ok (.ireturn, 1) := by decide +kernel
theorem dX8_undo_10 : decode cX8_undo 10 = .ok (.aload_n 0, 1) := by decide +kernel
theorem dX8_undo_11 : decode cX8_undo 11 = .ok (.dup, 1) := by decide +kernel
theorem dX8_undo_12 : decode cX8_undo 12 = .ok (.getfield 47, 3) := by decide +kernel
theorem dX8_undo_15 : decode cX8_undo 15 = .ok (.iconst 1, 1) := by decide +kernel
theorem dX8_undo_16 : decode cX8_undo 16 = .ok (.isub, 1) := by decide +kernel
theorem dX8_undo_17 : decode cX8_undo 17 = .ok (.putfield 47, 3) := by decide +kernel
theorem dX8_undo_20 : decode cX8_undo 20 = .ok (.iconst 0, 1) := by decide +kernel
theorem dX8_undo_21 : decode cX8_undo 21 = .ok (.istore_n 1, 1) := by decide +kernel
theorem dX8_undo_22 : decode cX8_undo 22 = .ok (.iload_n 1, 1) := by decide +kernel
theorem dX8_undo_23 : decode cX8_undo 23 = .ok (.bipush 101, 2) := by decide +kernel
theorem dX8_undo_25 : decode cX8_undo 25 = .ok (.if_icmp .ge 29, 3) := by decide +kernel
theorem dX8_undo_28 : decode cX8_undo 28 = .ok (.aload_n 0, 1) := by decide +kernel
theorem dX8_undo_29 : decode cX8_undo 29 = .ok (.getfield 19, 3) := by decide +kernel
theorem dX8_undo_32 : decode cX8_undo 32 = .ok (.iload_n 1, 1) := by decide +kernel
theorem dX8_undo_33 : decode cX8_undo 33 = .ok (.aload_n 0, 1) := by decide +kernel
theorem dX8_undo_34 : decode cX8_undo 34 = .ok (.getfield 25, 3) := by decide +kernel
theorem dX8_undo_37 : decode cX8_undo 37 = .ok (.bipush 101, 2) := by decide +kernel
theorem dX8_undo_39 : decode cX8_undo 39 = .ok (.aload_n 0, 1) := by decide +kernel
theorem dX8_undo_40 : decode cX8_undo 40 = .ok (.getfield 47, 3) := by decide +kernel
theorem dX8_undo_43 : decode cX8_undo 43 = .ok (.imul, 1) := by decide +kernel
theorem dX8_undo_44 : decode cX8_undo 44 = .ok (.iload_n 1, 1) := by decide +kernel
theorem dX8_undo_45 : decode cX8_undo 45 = .ok (.iadd, 1) := by decide +kernel
theorem dX8_undo_46 : decode cX8_undo 46 = .ok (.iaload, 1) := by decide +kernel
theorem dX8_undo_47 : decode cX8_undo 47 = .ok (.iastore, 1) := by decide +kernel
theorem dX8_undo_48 : decode cX8_undo 48 = .ok (.iinc 1 1, 3) := by decide +kernel
theorem dX8_undo_51 : decode cX8_undo 51 = .ok (.goto (-29), 3) := by decide +kernel
theorem dX8_undo_54 : decode cX8_undo 54 = .ok (.aload_n 0, 1) := by decide +kernel
theorem dX8_undo_55 : decode cX8_undo 55 = .ok (.getfield 47, 3) := by decide +kernel
theorem dX8_undo_58 : decode cX8_undo 58 = .ok (.ireturn, 1) := by decide +kernel
theorem dX8_tell_0 : decode cX8_tell 0 = .ok (.iload_n 1, 1) := by decide +kernel
theorem dX8_tell_1 : decode cX8_tell 1 = .ok (.ifCond .ne 14, 3) := by decide +kernel
theorem dX8_tell_4 : decode cX8_tell 4 = .ok (.iload_n 2, 1) := by decide +kernel
theorem dX8_tell_5 : decode cX8_tell 5 = .ok (.iconst 0, 1) := by decide +kernel
theorem dX8_tell_6 : decode cX8_tell 6 = .ok (.sipush 480, 3) := by decide +kernel
theorem dX8_tell_9 : decode cX8_tell 9 = .ok (.invokestatic 61, 3) := by decide +kernel
theorem dX8_tell_12 : decode cX8_tell 12 = .ok (.goto 54, 3) := by decide +kernel
theorem dX8_tell_15 : decode cX8_tell 15 = .ok (.iload_n 1, 1) := by decide +kernel
theorem dX8_tell_16 : decode cX8_tell 16 = .ok (.iconst 1, 1) := by decide +kernel
theorem dX8_tell_17 : decode cX8_tell 17 = .ok (.if_icmp .ne 14, 3) := by decide +kernel
theorem dX8_tell_20 : decode cX8_tell 20 = .ok (.iload_n 2, 1) := by decide +kernel
theorem dX8_tell_21 : decode cX8_tell 21 = .ok (.iconst 0, 1) := by decide +kernel
theorem dX8_tell_22 : decode cX8_tell 22 = .ok (.sipush 240, 3) := by decide +kernel
theorem dX8_tell_25 : decode cX8_tell 25 = .ok (.invokestatic 61, 3) := by decide +kernel
theorem dX8_tell_28 : decode cX8_tell 28 = .ok (.goto 38, 3) := by decide +kernel
theorem dX8_tell_31 : decode cX8_tell 31 = .ok (.iload_n 1, 1) := by decide +kernel
theorem dX8_tell_32 : decode cX8_tell 32 = .ok (.iconst 2, 1) := by decide +kernel
theorem dX8_tell_33 : decode cX8_tell 33 = .ok (.if_icmp .ne 13, 3) := by decide +kernel
theorem dX8_tell_36 : decode cX8_tell 36 = .ok (.iload_n 2, 1) := by decide +kernel
theorem dX8_tell_37 : decode cX8_tell 37 = .ok (.iconst 0, 1) := by decide +kernel
theorem dX8_tell_38 : decode cX8_tell 38 = .ok (.bipush 45, 2) := by decide +kernel
theorem dX8_tell_40 : decode cX8_tell 40 = .ok (.invokestatic 61, 3) := by decide +kernel
theorem dX8_tell_43 : decode cX8_tell 43 = .ok (.goto 23, 3) := by decide +kernel
theorem dX8_tell_46 : decode cX8_tell 46 = .ok (.iload_n 1, 1) := by decide +kernel
theorem dX8_tell_47 : decode cX8_tell 47 = .ok (.iconst 3, 1) := by decide +kernel
theorem dX8_tell_48 : decode cX8_tell 48 = .ok (.if_icmp .ne 17, 3) := by decide +kernel
theorem dX8_tell_51 : decode cX8_tell 51 = .ok (.iload_n 2, 1) := by decide +kernel
theorem dX8_tell_52 : decode cX8_tell 52 = .ok (.iconst 4, 1) := by decide +kernel
theorem dX8_tell_53 : decode cX8_tell 53 = .ok (.bipush 14, 2) := by decide +kernel
theorem dX8_tell_55 : decode cX8_tell 55 = .ok (.invokestatic 61, 3) := by decide +kernel
theorem dX8_tell_58 : decode cX8_tell 58 = .ok (.ifCond .eq 7, 3) := by decide +kernel
theorem dX8_tell_61 : decode cX8_tell 61 = .ok (.iconst 1, 1) := by decide +kernel
theorem dX8_tell_62 : decode cX8_tell 62 = .ok (.goto 4, 3) := by decide +kernel
theorem dX8_tell_65 : decode cX8_tell 65 = .ok (.iconst 0, 1) := by decide +kernel
theorem dX8_tell_66 : decode cX8_tell 66 = .ok (.istore_n 3, 1) := by decide +kernel
theorem dX8_tell_67 : decode cX8_tell 67 = .ok (.iload_n 3, 1) := by decide +kernel
theorem dX8_tell_68 : decode cX8_tell 68 = .ok (.ifCond .ne 5, 3) := by decide +kernel
theorem dX8_tell_71 : decode cX8_tell 71 = .ok (.iconst (-1), 1) := by decide +kernel
theorem dX8_tell_72 : decode cX8_tell 72 = .ok (.ireturn, 1) := by decide +kernel
theorem dX8_tell_73 : decode cX8_tell 73 = .ok (.aload_n 0, 1) := by decide +kernel
theorem dX8_tell_74 : decode cX8_tell 74 = .ok (.getfield 19, 3) := by decide +kernel
theorem dX8_tell_77 : decode cX8_tell 77 = .ok (.iload_n 1, 1) := by decide +kernel
theorem dX8_tell_78 : decode cX8_tell 78 = .ok (.iaload, 1) := by decide +kernel
theorem dX8_tell_79 : decode cX8_tell 79 = .ok (.istore 4, 2) := by decide +kernel
theorem dX8_tell_81 : decode cX8_tell 81 = .ok (.iload 4, 2) := by decide +kernel
theorem dX8_tell_83 : decode cX8_tell 83 = .ok (.iload_n 2, 1) := by decide +kernel
theorem dX8_tell_84 : decode cX8_tell 84 = .ok (.if_icmp .ne 6, 3) := by decide +kernel
theorem dX8_tell_87 : decode cX8_tell 87 = .ok (.bipush (-2), 2) := by decide +kernel
theorem dX8_tell_89 : decode cX8_tell 89 = .ok (.ireturn, 1) := by decide +kernel
theorem dX8_tell_90 : decode cX8_tell 90 = .ok (.aload_n 0, 1) := by decide +kernel
theorem dX8_tell_91 : decode cX8_tell 91 = .ok (.invokevirtual 175, 3) := by decide +kernel
theorem dX8_tell_94 : decode cX8_tell 94 = .ok (.aload_n 0, 1) := by decide +kernel
theorem dX8_tell_95 : decode cX8_tell 95 = .ok (.getfield 19, 3) := by decide +kernel
theorem dX8_tell_98 : decode cX8_tell 98 = .ok (.iload_n 1, 1) := by decide +kernel
theorem dX8_tell_99 : decode cX8_tell 99 = .ok (.iload_n 2, 1) := by decide +kernel
theorem dX8_tell_100 : decode cX8_tell 100 = .ok (.iastore, 1) := by decide +kernel
theorem dX8_tell_101 : decode cX8_tell 101 = .ok (.iload 4, 2) := by decide +kernel
theorem dX8_tell_103 : decode cX8_tell 103 = .ok (.ireturn, 1) := by decide +kernel
theorem dX8_isMachine_0 : decode cX8_isMachine 0 = .ok (.iload_n 1, 1) := by decide +kernel
theorem dX8_isMachine_1 : decode cX8_isMachine 1 = .ok (.iconst 0, 1) := by decide +kernel
theorem dX8_isMachine_2 : decode cX8_isMachine 2 = .ok (.aload_n 0, 1) := by decide +kernel
theorem dX8_isMachine_3 : decode cX8_isMachine 3 = .ok (.getfield 16, 3) := by decide +kernel
theorem dX8_isMachine_6 : decode cX8_isMachine 6 = .ok (.bipush 36, 2) := by decide +kernel
theorem dX8_isMachine_8 : decode cX8_isMachine 8 = .ok (.iaload, 1) := by decide +kernel
theorem dX8_isMachine_9 : decode cX8_isMachine 9 = .ok (.iconst 1, 1) := by decide +kernel
theorem dX8_isMachine_10 : decode cX8_isMachine 10 = .ok (.isub, 1) := by decide +kernel
theorem dX8_isMachine_11 : decode cX8_isMachine 11 = .ok (.invokestatic 61, 3) := by decide +kernel
theorem dX8_isMachine_14 : decode cX8_isMachine 14 = .ok (.ireturn, 1) := by decide +kernel
theorem dX8_lock_0 : decode cX8_lock 0 = .ok (.aload_n 0, 1) := by decide +kernel
theorem dX8_lock_1 : decode cX8_lock 1 = .ok (.iload_n 1, 1) := by decide +kernel
theorem dX8_lock_2 : decode cX8_lock 2 = .ok (.invokevirtual 178, 3) := by decide +kernel
theorem dX8_lock_5 : decode cX8_lock 5 = .ok (.ifCond .eq 12, 3) := by decide +kernel
theorem dX8_lock_8 : decode cX8_lock 8 = .ok (.iload_n 2, 1) := by decide +kernel
theorem dX8_lock_9 : decode cX8_lock 9 = .ok (.iconst 0, 1) := by decide +kernel
theorem dX8_lock_10 : decode cX8_lock 10 = .ok (.iconst 1, 1) := by decide +kernel
theorem dX8_lock_11 : decode cX8_lock 11 = .ok (.invokestatic 61, 3) := by decide +kernel
theorem dX8_lock_14 : decode cX8_lock 14 = .ok (.ifCond .ne 5, 3) := by decide +kernel
theorem dX8_lock_17 : decode cX8_lock 17 = .ok (.iconst (-1), 1) := by decide +kernel
theorem dX8_lock_18 : decode cX8_lock 18 = .ok (.ireturn, 1) := by decide +kernel
theorem dX8_lock_19 : decode cX8_lock 19 = .ok (.aload_n 0, 1) := by decide +kernel
theorem dX8_lock_20 : decode cX8_lock 20 = .ok (.iload_n 1, 1) := by decide +kernel
theorem dX8_lock_21 : decode cX8_lock 21 = .ok (.iconst 3, 1) := by decide +kernel
theorem dX8_lock_22 : decode cX8_lock 22 = .ok (.invokevirtual 122, 3) := by decide +kernel
theorem dX8_lock_25 : decode cX8_lock 25 = .ok (.iload_n 2, 1) := by decide +kernel
theorem dX8_lock_26 : decode cX8_lock 26 = .ok (.if_icmp .ne 6, 3) := by decide +kernel
theorem dX8_lock_29 : decode cX8_lock 29 = .ok (.bipush (-2), 2) := by decide +kernel
theorem dX8_lock_31 : decode cX8_lock 31 = .ok (.ireturn, 1) := by decide +kernel
theorem dX8_lock_32 : decode cX8_lock 32 = .ok (.aload_n 0, 1) := by decide +kernel
theorem dX8_lock_33 : decode cX8_lock 33 = .ok (.invokevirtual 175, 3) := by decide +kernel
theorem dX8_lock_36 : decode cX8_lock 36 = .ok (.aload_n 0, 1) := by decide +kernel
theorem dX8_lock_37 : decode cX8_lock 37 = .ok (.getfield 19, 3) := by decide +kernel
theorem dX8_lock_40 : decode cX8_lock 40 = .ok (.bipush 17, 2) := by decide +kernel
theorem dX8_lock_42 : decode cX8_lock 42 = .ok (.bipush 14, 2) := by decide +kernel
theorem dX8_lock_44 : decode cX8_lock 44 = .ok (.iload_n 1, 1) := by decide +kernel
theorem dX8_lock_45 : decode cX8_lock 45 = .ok (.imul, 1) := by decide +kernel
theorem dX8_lock_46 : decode cX8_lock 46 = .ok (.iadd, 1) := by decide +kernel
theorem dX8_lock_47 : decode cX8_lock 47 = .ok (.iconst 3, 1) := by decide +kernel
theorem dX8_lock_48 : decode cX8_lock 48 = .ok (.iadd, 1) := by decide +kernel
theorem dX8_lock_49 : decode cX8_lock 49 = .ok (.iload_n 2, 1) := by decide +kernel
theorem dX8_lock_50 : decode cX8_lock 50 = .ok (.iastore, 1) := by decide +kernel
theorem dX8_lock_51 : decode cX8_lock 51 = .ok (.iload_n 2, 1) := by decide +kernel
theorem dX8_lock_52 : decode cX8_lock 52 = .ok (.iconst 1, 1) := by decide +kernel
theorem dX8_lock_53 : decode cX8_lock 53 = .ok (.if_icmp .ne 28, 3) := by decide +kernel
theorem dX8_lock_56 : decode cX8_lock 56 = .ok (.aload_n 0, 1) := by decide +kernel
theorem dX8_lock_57 : decode cX8_lock 57 = .ok (.iload_n 1, 1) := by decide +kernel
theorem dX8_lock_58 : decode cX8_lock 58 = .ok (.invokevirtual 159, 3) := by decide +kernel
theorem dX8_lock_61 : decode cX8_lock 61 = .ok (.aload_n 0, 1) := by decide +kernel
theorem dX8_lock_62 : decode cX8_lock 62 = .ok (.iload_n 1, 1) := by decide +kernel
theorem dX8_lock_63 : decode cX8_lock 63 = .ok (.iconst 0, 1) := by decide +kernel
theorem dX8_lock_64 : decode cX8_lock 64 = .ok (.invokevirtual 122, 3) := by decide +kernel
theorem dX8_lock_67 : decode cX8_lock 67 = .ok (.ifCond .le 14, 3) := by decide +kernel
theorem dX8_lock_70 : decode cX8_lock 70 = .ok (.aload_n 0, 1) := by decide +kernel
theorem dX8_lock_71 : decode cX8_lock 71 = .ok (.iload_n 1, 1) := by decide +kernel
theorem dX8_lock_72 : decode cX8_lock 72 = .ok (.aload_n 0, 1) := by decide +kernel
theorem dX8_lock_73 : decode cX8_lock 73 = .ok (.getfield 19, 3) := by decide +kernel
theorem dX8_lock_76 : decode cX8_lock 76 = .ok (.iconst 4, 1) := by decide +kernel
theorem dX8_lock_77 : decode cX8_lock 77 = .ok (.iaload, 1) := by decide +kernel
theorem dX8_lock_78 : decode cX8_lock 78 = .ok (.invokevirtual 172, 3) := by decide +kernel
theorem dX8_lock_81 : decode cX8_lock 81 = .ok (.aload_n 0, 1) := by decide +kernel
theorem dX8_lock_82 : decode cX8_lock 82 = .ok (.invokevirtual 128, 3) := by decide +kernel
theorem dX8_lock_85 : decode cX8_lock 85 = .ok (.invokestatic 137, 3) := by decide +kernel
theorem dX8_lock_88 : decode cX8_lock 88 = .ok (.ireturn, 1) := by decide +kernel
theorem dX8_dip_0 : decode cX8_dip 0 = .ok (.aload_n 0, 1) := by decide +kernel
theorem dX8_dip_1 : decode cX8_dip 1 = .ok (.invokevirtual 175, 3) := by decide +kernel
theorem dX8_dip_4 : decode cX8_dip 4 = .ok (.iconst 0, 1) := by decide +kernel
theorem dX8_dip_5 : decode cX8_dip 5 = .ok (.istore_n 1, 1) := by decide +kernel
theorem dX8_dip_6 : decode cX8_dip 6 = .ok (.aload_n 0, 1) := by decide +kernel
theorem dX8_dip_7 : decode cX8_dip 7 = .ok (.iconst 1, 1) := by decide +kernel
theorem dX8_dip_8 : decode cX8_dip 8 = .ok (.invokevirtual 140, 3) := by decide +kernel
theorem dX8_dip_11 : decode cX8_dip 11 = .ok (.ifCond .eq 104, 3) := by decide +kernel
theorem dX8_dip_14 : decode cX8_dip 14 = .ok (.bipush (-4), 2) := by decide +kernel
theorem dX8_dip_16 : decode cX8_dip 16 = .ok (.istore_n 2, 1) := by decide +kernel
theorem dX8_dip_17 : decode cX8_dip 17 = .ok (.aload_n 0, 1) := by decide +kernel
theorem dX8_dip_18 : decode cX8_dip 18 = .ok (.getfield 16, 3) := by decide +kernel
theorem dX8_dip_21 : decode cX8_dip 21 = .ok (.bipush 36, 2) := by decide +kernel
theorem dX8_dip_23 : decode cX8_dip 23 = .ok (.iaload, 1) := by decide +kernel
theorem dX8_dip_24 : decode cX8_dip 24 = .ok (.iconst 1, 1) := by decide +kernel
theorem dX8_dip_25 : decode cX8_dip 25 = .ok (.isub, 1) := by decide +kernel
theorem dX8_dip_26 : decode cX8_dip 26 = .ok (.istore_n 3, 1) := by decide +kernel
theorem dX8_dip_27 : decode cX8_dip 27 = .ok (.iload_n 3, 1) := by decide +kernel
theorem dX8_dip_28 : decode cX8_dip 28 = .ok (.ifCond .lt 43, 3) := by decide +kernel
theorem dX8_dip_31 : decode cX8_dip 31 = .ok (.aload_n 0, 1) := by decide +kernel
theorem dX8_dip_32 : decode cX8_dip 32 = .ok (.iload_n 3, 1) := by decide +kernel
theorem dX8_dip_33 : decode cX8_dip 33 = .ok (.iconst 0, 1) := by decide +kernel
theorem dX8_dip_34 : decode cX8_dip 34 = .ok (.invokevirtual 122, 3) := by decide +kernel
theorem dX8_dip_37 : decode cX8_dip 37 = .ok (.ifCond .le 26, 3) := by decide +kernel
theorem dX8_dip_40 : decode cX8_dip 40 = .ok (.iload_n 2, 1) := by decide +kernel
theorem dX8_dip_41 : decode cX8_dip 41 = .ok (.bipush (-4), 2) := by decide +kernel
theorem dX8_dip_43 : decode cX8_dip 43 = .ok (.if_icmp .eq 16, 3) := by decide +kernel
theorem dX8_dip_46 : decode cX8_dip 46 = .ok (.aload_n 0, 1) := by decide +kernel
theorem dX8_dip_47 : decode cX8_dip 47 = .ok (.iload_n 3, 1) := by decide +kernel
theorem dX8_dip_48 : decode cX8_dip 48 = .ok (.invokevirtual 99, 3) := by decide +kernel
theorem dX8_dip_51 : decode cX8_dip 51 = .ok (.aload_n 0, 1) := by decide +kernel
theorem dX8_dip_52 : decode cX8_dip 52 = .ok (.iload_n 2, 1) := by decide +kernel
theorem dX8_dip_53 : decode cX8_dip 53 = .ok (.invokevirtual 99, 3) := by decide +kernel
theorem dX8_dip_56 : decode cX8_dip 56 = .ok (.if_icmp .lt 7, 3) := by decide +kernel
theorem dX8_dip_59 : decode cX8_dip 59 = .ok (.iload_n 3, 1) := by decide +kernel
theorem dX8_dip_60 : decode cX8_dip 60 = .ok (.goto 4, 3) := by decide +kernel
theorem dX8_dip_63 : decode cX8_dip 63 = .ok (.iload_n 2, 1) := by decide +kernel
theorem dX8_dip_64 : decode cX8_dip 64 = .ok (.istore_n 2, 1) := by decide +kernel
theorem dX8_dip_65 : decode cX8_dip 65 = .ok (.iinc 3 (-1), 3) := by decide +kernel
theorem dX8_dip_68 : decode cX8_dip 68 = .ok (.goto (-41), 3) := by decide +kernel
theorem dX8_dip_71 : decode cX8_dip 71 = .ok (.aload_n 0, 1) := by decide +kernel
theorem dX8_dip_72 : decode cX8_dip 72 = .ok (.iload_n 2, 1) := by decide +kernel
theorem dX8_dip_73 : decode cX8_dip 73 = .ok (.aload_n 0, 1) := by decide +kernel
theorem dX8_dip_74 : decode cX8_dip 74 = .ok (.getfield 19, 3) := by decide +kernel
theorem dX8_dip_77 : decode cX8_dip 77 = .ok (.iconst 4, 1) := by decide +kernel
theorem dX8_dip_78 : decode cX8_dip 78 = .ok (.iaload, 1) := by decide +kernel
theorem dX8_dip_79 : decode cX8_dip 79 = .ok (.invokevirtual 172, 3) := by decide +kernel
theorem dX8_dip_82 : decode cX8_dip 82 = .ok (.aload_n 0, 1) := by decide +kernel
theorem dX8_dip_83 : decode cX8_dip 83 = .ok (.getfield 19, 3) := by decide +kernel
theorem dX8_dip_86 : decode cX8_dip 86 = .ok (.bipush 11, 2) := by decide +kernel
theorem dX8_dip_88 : decode cX8_dip 88 = .ok (.aload_n 0, 1) := by decide +kernel
theorem dX8_dip_89 : decode cX8_dip 89 = .ok (.getfield 19, 3) := by decide +kernel
theorem dX8_dip_92 : decode cX8_dip 92 = .ok (.bipush 10, 2) := by decide +kernel
theorem dX8_dip_94 : decode cX8_dip 94 = .ok (.iaload, 1) := by decide +kernel
theorem dX8_dip_95 : decode cX8_dip 95 = .ok (.iadd, 1) := by decide +kernel
theorem dX8_dip_96 : decode cX8_dip 96 = .ok (.iload_n 2, 1) := by decide +kernel
theorem dX8_dip_97 : decode cX8_dip 97 = .ok (.iastore, 1) := by decide +kernel
theorem dX8_dip_98 : decode cX8_dip 98 = .ok (.aload_n 0, 1) := by decide +kernel
theorem dX8_dip_99 : decode cX8_dip 99 = .ok (.getfield 19, 3) := by decide +kernel
theorem dX8_dip_102 : decode cX8_dip 102 = .ok (.bipush 10, 2) := by decide +kernel
theorem dX8_dip_104 : decode cX8_dip 104 = .ok (.dup2, 1) := by decide +kernel
theorem dX8_dip_105 : decode cX8_dip 105 = .ok (.iaload, 1) := by decide +kernel
theorem dX8_dip_106 : decode cX8_dip 106 = .ok (.iconst 1, 1) := by decide +kernel
theorem dX8_dip_107 : decode cX8_dip 107 = .ok (.iadd, 1) := by decide +kernel
theorem dX8_dip_108 : decode cX8_dip 108 = .ok (.iastore, 1) := by decide +kernel
theorem dX8_dip_109 : decode cX8_dip 109 = .ok (.iinc 1 1, 3) := by decide +kernel
theorem dX8_dip_112 : decode cX8_dip 112 = .ok (.goto (-106), 3) := by decide +kernel
theorem dX8_dip_115 : decode cX8_dip 115 = .ok (.aload_n 0, 1) := by decide +kernel
theorem dX8_dip_116 : decode cX8_dip 116 = .ok (.getfield 19, 3) := by decide +kernel
theorem dX8_dip_119 : decode cX8_dip 119 = .ok (.iconst 5, 1) := by decide +kernel
theorem dX8_dip_120 : decode cX8_dip 120 = .ok (.iconst 0, 1) := by decide +kernel
theorem dX8_dip_121 : decode cX8_dip 121 = .ok (.iastore, 1) := by decide +kernel
theorem dX8_dip_122 : decode cX8_dip 122 = .ok (.aload_n 0, 1) := by decide +kernel
theorem dX8_dip_123 : decode cX8_dip 123 = .ok (.getfield 19, 3) := by decide +kernel
theorem dX8_dip_126 : decode cX8_dip 126 = .ok (.bipush 6, 2) := by decide +kernel
theorem dX8_dip_128 : decode cX8_dip 128 = .ok (.iconst 0, 1) := by decide +kernel
theorem dX8_dip_129 : decode cX8_dip 129 = .ok (.iastore, 1) := by decide +kernel
theorem dX8_dip_130 : decode cX8_dip 130 = .ok (.iload_n 1, 1) := by decide +kernel
theorem dX8_dip_131 : decode cX8_dip 131 = .ok (.ireturn, 1) := by decide +kernel
theorem dX8_tick_0 : decode cX8_tick 0 = .ok (.iload_n 1, 1) := by decide +kernel
theorem dX8_tick_1 : decode cX8_tick 1 = .ok (.iconst 1, 1) := by decide +kernel
theorem dX8_tick_2 : decode cX8_tick 2 = .ok (.bipush 60, 2) := by decide +kernel
theorem dX8_tick_4 : decode cX8_tick 4 = .ok (.invokestatic 61, 3) := by decide +kernel
theorem dX8_tick_7 : decode cX8_tick 7 = .ok (.ifCond .ne 5, 3) := by decide +kernel
theorem dX8_tick_10 : decode cX8_tick 10 = .ok (.iconst (-1), 1) := by decide +kernel
theorem dX8_tick_11 : decode cX8_tick 11 = .ok (.ireturn, 1) := by decide +kernel
theorem dX8_tick_12 : decode cX8_tick 12 = .ok (.aload_n 0, 1) := by decide +kernel
theorem dX8_tick_13 : decode cX8_tick 13 = .ok (.getfield 19, 3) := by decide +kernel
theorem dX8_tick_16 : decode cX8_tick 16 = .ok (.iconst 4, 1) := by decide +kernel
theorem dX8_tick_17 : decode cX8_tick 17 = .ok (.iaload, 1) := by decide +kernel
theorem dX8_tick_18 : decode cX8_tick 18 = .ok (.iload_n 1, 1) := by decide +kernel
theorem dX8_tick_19 : decode cX8_tick 19 = .ok (.iadd, 1) := by decide +kernel
theorem dX8_tick_20 : decode cX8_tick 20 = .ok (.sipush 9999, 3) := by decide +kernel
theorem dX8_tick_23 : decode cX8_tick 23 = .ok (.if_icmp .le 6, 3) := by decide +kernel
theorem dX8_tick_26 : decode cX8_tick 26 = .ok (.bipush (-2), 2) := by decide +kernel
theorem dX8_tick_28 : decode cX8_tick 28 = .ok (.ireturn, 1) := by decide +kernel
theorem dX8_tick_29 : decode cX8_tick 29 = .ok (.aload_n 0, 1) := by decide +kernel
theorem dX8_tick_30 : decode cX8_tick 30 = .ok (.invokevirtual 175, 3) := by decide +kernel
theorem dX8_tick_33 : decode cX8_tick 33 = .ok (.aload_n 0, 1) := by decide +kernel
theorem dX8_tick_34 : decode cX8_tick 34 = .ok (.getfield 19, 3) := by decide +kernel
theorem dX8_tick_37 : decode cX8_tick 37 = .ok (.bipush 7, 2) := by decide +kernel
theorem dX8_tick_39 : decode cX8_tick 39 = .ok (.iaload, 1) := by decide +kernel
theorem dX8_tick_40 : decode cX8_tick 40 = .ok (.istore_n 2, 1) := by decide +kernel
theorem dX8_tick_41 : decode cX8_tick 41 = .ok (.iconst 0, 1) := by decide +kernel
theorem dX8_tick_42 : decode cX8_tick 42 = .ok (.istore_n 3, 1) := by decide +kernel
theorem dX8_tick_43 : decode cX8_tick 43 = .ok (.iload_n 3, 1) := by decide +kernel
theorem dX8_tick_44 : decode cX8_tick 44 = .ok (.iload_n 1, 1) := by decide +kernel
theorem dX8_tick_45 : decode cX8_tick 45 = .ok (.if_icmp .ge 13, 3) := by decide +kernel
theorem dX8_tick_48 : decode cX8_tick 48 = .ok (.aload_n 0, 1) := by decide +kernel
theorem dX8_tick_49 : decode cX8_tick 49 = .ok (.invokevirtual 181, 3) := by decide +kernel
theorem dX8_tick_52 : decode cX8_tick 52 = .ok (.iinc 3 1, 3) := by decide +kernel
theorem dX8_tick_55 : decode cX8_tick 55 = .ok (.goto (-12), 3) := by decide +kernel
theorem dX8_tick_58 : decode cX8_tick 58 = .ok (.aload_n 0, 1) := by decide +kernel
theorem dX8_tick_59 : decode cX8_tick 59 = .ok (.getfield 19, 3) := by decide +kernel
theorem dX8_tick_62 : decode cX8_tick 62 = .ok (.bipush 7, 2) := by decide +kernel
theorem dX8_tick_64 : decode cX8_tick 64 = .ok (.iaload, 1) := by decide +kernel
theorem dX8_tick_65 : decode cX8_tick 65 = .ok (.iload_n 2, 1) := by decide +kernel
theorem dX8_tick_66 : decode cX8_tick 66 = .ok (.isub, 1) := by decide +kernel
theorem dX8_tick_67 : decode cX8_tick 67 = .ok (.ireturn, 1) := by decide +kernel
theorem dX8_placeInList_0 : decode cX8_placeInList 0 = .ok (.bipush (-4), 2) := by decide +kernel
theorem dX8_placeInList_2 : decode cX8_placeInList 2 = .ok (.istore_n 2, 1) := by decide +kernel
theorem dX8_placeInList_3 : decode cX8_placeInList 3 = .ok (.iconst 0, 1) := by decide +kernel
theorem dX8_placeInList_4 : decode cX8_placeInList 4 = .ok (.istore_n 3, 1) := by decide +kernel
theorem dX8_placeInList_5 : decode cX8_placeInList 5 = .ok (.iload_n 3, 1) := by decide +kernel
theorem dX8_placeInList_6 : decode cX8_placeInList 6 = .ok (.aload_n 0, 1) := by decide +kernel
theorem dX8_placeInList_7 : decode cX8_placeInList 7 = .ok (.getfield 19, 3) := by decide +kernel
theorem dX8_placeInList_10 : decode cX8_placeInList 10 = .ok (.bipush 10, 2) := by decide +kernel
theorem dX8_placeInList_12 : decode cX8_placeInList 12 = .ok (.iaload, 1) := by decide +kernel
theorem dX8_placeInList_13 : decode cX8_placeInList 13 = .ok (.if_icmp .ge 28, 3) := by decide +kernel
theorem dX8_placeInList_16 : decode cX8_placeInList 16 = .ok (.aload_n 0, 1) := by decide +kernel
theorem dX8_placeInList_17 : decode cX8_placeInList 17 = .ok (.getfield 19, 3) := by decide +kernel
theorem dX8_placeInList_20 : decode cX8_placeInList 20 = .ok (.bipush 11, 2) := by decide +kernel
theorem dX8_placeInList_22 : decode cX8_placeInList 22 = .ok (.iload_n 3, 1) := by decide +kernel
theorem dX8_placeInList_23 : decode cX8_placeInList 23 = .ok (.iadd, 1) := by decide +kernel
theorem dX8_placeInList_24 : decode cX8_placeInList 24 = .ok (.iaload, 1) := by decide +kernel
theorem dX8_placeInList_25 : decode cX8_placeInList 25 = .ok (.iload_n 1, 1) := by decide +kernel
theorem dX8_placeInList_26 : decode cX8_placeInList 26 = .ok (.if_icmp .ne 7, 3) := by decide +kernel
theorem dX8_placeInList_29 : decode cX8_placeInList 29 = .ok (.iload_n 3, 1) := by decide +kernel
theorem dX8_placeInList_30 : decode cX8_placeInList 30 = .ok (.goto 4, 3) := by decide +kernel
theorem dX8_placeInList_33 : decode cX8_placeInList 33 = .ok (.iload_n 2, 1) := by decide +kernel
theorem dX8_placeInList_34 : decode cX8_placeInList 34 = .ok (.istore_n 2, 1) := by decide +kernel
theorem dX8_placeInList_35 : decode cX8_placeInList 35 = .ok (.iinc 3 1, 3) := by decide +kernel
theorem dX8_placeInList_38 : decode cX8_placeInList 38 = .ok (.goto (-33), 3) := by decide +kernel
theorem dX8_placeInList_41 : decode cX8_placeInList 41 = .ok (.iload_n 2, 1) := by decide +kernel
theorem dX8_placeInList_42 : decode cX8_placeInList 42 = .ok (.ireturn, 1) := by decide +kernel
theorem dX8_machine_0 : decode cX8_machine 0 = .ok (.aload_n 0, 1) := by decide +kernel
theorem dX8_machine_1 : decode cX8_machine 1 = .ok (.iload_n 1, 1) := by decide +kernel
theorem dX8_machine_2 : decode cX8_machine 2 = .ok (.invokevirtual 178, 3) := by decide +kernel
theorem dX8_machine_5 : decode cX8_machine 5 = .ok (.ifCond .eq 13, 3) := by decide +kernel
theorem dX8_machine_8 : decode cX8_machine 8 = .ok (.iload_n 2, 1) := by decide +kernel
theorem dX8_machine_9 : decode cX8_machine 9 = .ok (.iconst 0, 1) := by decide +kernel
theorem dX8_machine_10 : decode cX8_machine 10 = .ok (.bipush 12, 2) := by decide +kernel
theorem dX8_machine_12 : decode cX8_machine 12 = .ok (.invokestatic 61, 3) := by decide +kernel
theorem dX8_machine_15 : decode cX8_machine 15 = .ok (.ifCond .ne 5, 3) := by decide +kernel
theorem dX8_machine_18 : decode cX8_machine 18 = .ok (.iconst (-1), 1) := by decide +kernel
theorem dX8_machine_19 : decode cX8_machine 19 = .ok (.ireturn, 1) := by decide +kernel
theorem dX8_machine_20 : decode cX8_machine 20 = .ok (.iload_n 2, 1) := by decide +kernel
theorem dX8_machine_21 : decode cX8_machine 21 = .ok (.bipush 6, 2) := by decide +kernel
theorem dX8_machine_23 : decode cX8_machine 23 = .ok (.if_icmp .ge 15, 3) := by decide +kernel
theorem dX8_machine_26 : decode cX8_machine 26 = .ok (.aload_n 0, 1) := by decide +kernel
theorem dX8_machine_27 : decode cX8_machine 27 = .ok (.getfield 16, 3) := by decide +kernel
theorem dX8_machine_30 : decode cX8_machine 30 = .ok (.bipush 6, 2) := by decide +kernel
theorem dX8_machine_32 : decode cX8_machine 32 = .ok (.iload_n 1, 1) := by decide +kernel
theorem dX8_machine_33 : decode cX8_machine 33 = .ok (.imul, 1) := by decide +kernel
theorem dX8_machine_34 : decode cX8_machine 34 = .ok (.iload_n 2, 1) := by decide +kernel
theorem dX8_machine_35 : decode cX8_machine 35 = .ok (.iadd, 1) := by decide +kernel
theorem dX8_machine_36 : decode cX8_machine 36 = .ok (.iaload, 1) := by decide +kernel
theorem dX8_machine_37 : decode cX8_machine 37 = .ok (.ireturn, 1) := by decide +kernel
theorem dX8_machine_38 : decode cX8_machine 38 = .ok (.iload_n 2, 1) := by decide +kernel
theorem dX8_machine_39 : decode cX8_machine 39 = .ok (.bipush 10, 2) := by decide +kernel
theorem dX8_machine_41 : decode cX8_machine 41 = .ok (.if_icmp .ge 13, 3) := by decide +kernel
theorem dX8_machine_44 : decode cX8_machine 44 = .ok (.aload_n 0, 1) := by decide +kernel
theorem dX8_machine_45 : decode cX8_machine 45 = .ok (.iload_n 1, 1) := by decide +kernel
theorem dX8_machine_46 : decode cX8_machine 46 = .ok (.iload_n 2, 1) := by decide +kernel
theorem dX8_machine_47 : decode cX8_machine 47 = .ok (.bipush 6, 2) := by decide +kernel
theorem dX8_machine_49 : decode cX8_machine 49 = .ok (.isub, 1) := by decide +kernel
theorem dX8_machine_50 : decode cX8_machine 50 = .ok (.invokevirtual 122, 3) := by decide +kernel
theorem dX8_machine_53 : decode cX8_machine 53 = .ok (.ireturn, 1) := by decide +kernel
theorem dX8_machine_54 : decode cX8_machine 54 = .ok (.iload_n 2, 1) := by decide +kernel
theorem dX8_machine_55 : decode cX8_machine 55 = .ok (.bipush 10, 2) := by decide +kernel
theorem dX8_machine_57 : decode cX8_machine 57 = .ok (.if_icmp .ne 25, 3) := by decide +kernel
theorem dX8_machine_60 : decode cX8_machine 60 = .ok (.aload_n 0, 1) := by decide +kernel
theorem dX8_machine_61 : decode cX8_machine 61 = .ok (.iload_n 1, 1) := by decide +kernel
theorem dX8_machine_62 : decode cX8_machine 62 = .ok (.aload_n 0, 1) := by decide +kernel
theorem dX8_machine_63 : decode cX8_machine 63 = .ok (.getfield 19, 3) := by decide +kernel
theorem dX8_machine_66 : decode cX8_machine 66 = .ok (.iconst 4, 1) := by decide +kernel
theorem dX8_machine_67 : decode cX8_machine 67 = .ok (.iaload, 1) := by decide +kernel
theorem dX8_machine_68 : decode cX8_machine 68 = .ok (.iconst 1, 1) := by decide +kernel
theorem dX8_machine_69 : decode cX8_machine 69 = .ok (.iadd, 1) := by decide +kernel
theorem dX8_machine_70 : decode cX8_machine 70 = .ok (.invokevirtual 153, 3) := by decide +kernel
theorem dX8_machine_73 : decode cX8_machine 73 = .ok (.ifCond .eq 7, 3) := by decide +kernel
theorem dX8_machine_76 : decode cX8_machine 76 = .ok (.iconst 1, 1) := by decide +kernel
theorem dX8_machine_77 : decode cX8_machine 77 = .ok (.goto 4, 3) := by decide +kernel
theorem dX8_machine_80 : decode cX8_machine 80 = .ok (.iconst 0, 1) := by decide +kernel
theorem dX8_machine_81 : decode cX8_machine 81 = .ok (.ireturn, 1) := by decide +kernel
theorem dX8_machine_82 : decode cX8_machine 82 = .ok (.iload_n 2, 1) := by decide +kernel
theorem dX8_machine_83 : decode cX8_machine 83 = .ok (.bipush 11, 2) := by decide +kernel
theorem dX8_machine_85 : decode cX8_machine 85 = .ok (.if_icmp .ne 15, 3) := by decide +kernel
theorem dX8_machine_88 : decode cX8_machine 88 = .ok (.aload_n 0, 1) := by decide +kernel
theorem dX8_machine_89 : decode cX8_machine 89 = .ok (.invokevirtual 147, 3) := by decide +kernel
theorem dX8_machine_92 : decode cX8_machine 92 = .ok (.pop, 1) := by decide +kernel
theorem dX8_machine_93 : decode cX8_machine 93 = .ok (.aload_n 0, 1) := by decide +kernel
theorem dX8_machine_94 : decode cX8_machine 94 = .ok (.getfield 34, 3) := by decide +kernel
theorem dX8_machine_97 : decode cX8_machine 97 = .ok (.iload_n 1, 1) := by decide +kernel
theorem dX8_machine_98 : decode cX8_machine 98 = .ok (.iaload, 1) := by decide +kernel
theorem dX8_machine_99 : decode cX8_machine 99 = .ok (.ireturn, 1) := by decide +kernel
theorem dX8_machine_100 : decode cX8_machine 100 = .ok (.aload_n 0, 1) := by decide +kernel
theorem dX8_machine_101 : decode cX8_machine 101 = .ok (.iload_n 1, 1) := by decide +kernel
theorem dX8_machine_102 : decode cX8_machine 102 = .ok (.invokevirtual 184, 3) := by decide +kernel
theorem dX8_machine_105 : decode cX8_machine 105 = .ok (.ireturn, 1) := by decide +kernel
theorem dX8_power_0 : decode cX8_power 0 = .ok (.aload_n 0, 1) := by decide +kernel
theorem dX8_power_1 : decode cX8_power 1 = .ok (.iload_n 1, 1) := by decide +kernel
theorem dX8_power_2 : decode cX8_power 2 = .ok (.invokevirtual 178, 3) := by decide +kernel
theorem dX8_power_5 : decode cX8_power 5 = .ok (.ifCond .eq 33, 3) := by decide +kernel
theorem dX8_power_8 : decode cX8_power 8 = .ok (.iload_n 2, 1) := by decide +kernel
theorem dX8_power_9 : decode cX8_power 9 = .ok (.iconst 0, 1) := by decide +kernel
theorem dX8_power_10 : decode cX8_power 10 = .ok (.bipush 99, 2) := by decide +kernel
theorem dX8_power_12 : decode cX8_power 12 = .ok (.invokestatic 61, 3) := by decide +kernel
theorem dX8_power_15 : decode cX8_power 15 = .ok (.ifCond .eq 23, 3) := by decide +kernel
theorem dX8_power_18 : decode cX8_power 18 = .ok (.iload_n 3, 1) := by decide +kernel
theorem dX8_power_19 : decode cX8_power 19 = .ok (.iconst 0, 1) := by decide +kernel
theorem dX8_power_20 : decode cX8_power 20 = .ok (.bipush 45, 2) := by decide +kernel
theorem dX8_power_22 : decode cX8_power 22 = .ok (.invokestatic 61, 3) := by decide +kernel
theorem dX8_power_25 : decode cX8_power 25 = .ok (.ifCond .eq 13, 3) := by decide +kernel
theorem dX8_power_28 : decode cX8_power 28 = .ok (.aload_n 0, 1) := by decide +kernel
theorem dX8_power_29 : decode cX8_power 29 = .ok (.iload_n 1, 1) := by decide +kernel
theorem dX8_power_30 : decode cX8_power 30 = .ok (.iload_n 2, 1) := by decide +kernel
theorem dX8_power_31 : decode cX8_power 31 = .ok (.iload_n 3, 1) := by decide +kernel
theorem dX8_power_32 : decode cX8_power 32 = .ok (.invokevirtual 102, 3) := by decide +kernel
theorem dX8_power_35 : decode cX8_power 35 = .ok (.goto 4, 3) := by decide +kernel
theorem dX8_power_38 : decode cX8_power 38 = .ok (.iconst (-1), 1) := by decide +kernel
theorem dX8_power_39 : decode cX8_power 39 = .ok (.ireturn, 1) := by decide +kernel
theorem dX8_share_0 : decode cX8_share 0 = .ok (.iload_n 1, 1) := by decide +kernel
theorem dX8_share_1 : decode cX8_share 1 = .ok (.iconst 0, 1) := by decide +kernel
theorem dX8_share_2 : decode cX8_share 2 = .ok (.iconst 1, 1) := by decide +kernel
theorem dX8_share_3 : decode cX8_share 3 = .ok (.aload_n 0, 1) := by decide +kernel
theorem dX8_share_4 : decode cX8_share 4 = .ok (.getfield 16, 3) := by decide +kernel
theorem dX8_share_7 : decode cX8_share 7 = .ok (.bipush 36, 2) := by decide +kernel
theorem dX8_share_9 : decode cX8_share 9 = .ok (.iaload, 1) := by decide +kernel
theorem dX8_share_10 : decode cX8_share 10 = .ok (.ishl, 1) := by decide +kernel
theorem dX8_share_11 : decode cX8_share 11 = .ok (.iconst 1, 1) := by decide +kernel
theorem dX8_share_12 : decode cX8_share 12 = .ok (.isub, 1) := by decide +kernel
theorem dX8_share_13 : decode cX8_share 13 = .ok (.invokestatic 61, 3) := by decide +kernel
theorem dX8_share_16 : decode cX8_share 16 = .ok (.ifCond .eq 27, 3) := by decide +kernel
theorem dX8_share_19 : decode cX8_share 19 = .ok (.iload_n 2, 1) := by decide +kernel
theorem dX8_share_20 : decode cX8_share 20 = .ok (.iconst 0, 1) := by decide +kernel
theorem dX8_share_21 : decode cX8_share 21 = .ok (.sipush 480, 3) := by decide +kernel
theorem dX8_share_24 : decode cX8_share 24 = .ok (.invokestatic 61, 3) := by decide +kernel
theorem dX8_share_27 : decode cX8_share 27 = .ok (.ifCond .eq 16, 3) := by decide +kernel
theorem dX8_share_30 : decode cX8_share 30 = .ok (.iload_n 3, 1) := by decide +kernel
theorem dX8_share_31 : decode cX8_share 31 = .ok (.iconst (-1), 1) := by decide +kernel
theorem dX8_share_32 : decode cX8_share 32 = .ok (.if_icmp .eq 13, 3) := by decide +kernel
theorem dX8_share_35 : decode cX8_share 35 = .ok (.aload_n 0, 1) := by decide +kernel
theorem dX8_share_36 : decode cX8_share 36 = .ok (.iload_n 3, 1) := by decide +kernel
theorem dX8_share_37 : decode cX8_share 37 = .ok (.invokevirtual 178, 3) := by decide +kernel
theorem dX8_share_40 : decode cX8_share 40 = .ok (.ifCond .ne 5, 3) := by decide +kernel
theorem dX8_share_43 : decode cX8_share 43 = .ok (.iconst (-1), 1) := by decide +kernel
theorem dX8_share_44 : decode cX8_share 44 = .ok (.ireturn, 1) := by decide +kernel
theorem dX8_share_45 : decode cX8_share 45 = .ok (.aload_n 0, 1) := by decide +kernel
theorem dX8_share_46 : decode cX8_share 46 = .ok (.iload_n 1, 1) := by decide +kernel
theorem dX8_share_47 : decode cX8_share 47 = .ok (.iload_n 2, 1) := by decide +kernel
theorem dX8_share_48 : decode cX8_share 48 = .ok (.invokevirtual 134, 3) := by decide +kernel
theorem dX8_share_51 : decode cX8_share 51 = .ok (.ifCond .ne 6, 3) := by decide +kernel
theorem dX8_share_54 : decode cX8_share 54 = .ok (.bipush (-4), 2) := by decide +kernel
theorem dX8_share_56 : decode cX8_share 56 = .ok (.ireturn, 1) := by decide +kernel
theorem dX8_share_57 : decode cX8_share 57 = .ok (.aload_n 0, 1) := by decide +kernel
theorem dX8_share_58 : decode cX8_share 58 = .ok (.invokevirtual 125, 3) := by decide +kernel
theorem dX8_share_61 : decode cX8_share 61 = .ok (.iload_n 3, 1) := by decide +kernel
theorem dX8_share_62 : decode cX8_share 62 = .ok (.iconst (-1), 1) := by decide +kernel
theorem dX8_share_63 : decode cX8_share 63 = .ok (.if_icmp .ne 10, 3) := by decide +kernel
theorem dX8_share_66 : decode cX8_share 66 = .ok (.aload_n 0, 1) := by decide +kernel
theorem dX8_share_67 : decode cX8_share 67 = .ok (.iload_n 1, 1) := by decide +kernel
theorem dX8_share_68 : decode cX8_share 68 = .ok (.iload_n 2, 1) := by decide +kernel
theorem dX8_share_69 : decode cX8_share 69 = .ok (.invokevirtual 119, 3) := by decide +kernel
theorem dX8_share_72 : decode cX8_share 72 = .ok (.ireturn, 1) := by decide +kernel
theorem dX8_share_73 : decode cX8_share 73 = .ok (.aload_n 0, 1) := by decide +kernel
theorem dX8_share_74 : decode cX8_share 74 = .ok (.iload_n 1, 1) := by decide +kernel
theorem dX8_share_75 : decode cX8_share 75 = .ok (.iload_n 2, 1) := by decide +kernel
theorem dX8_share_76 : decode cX8_share 76 = .ok (.invokevirtual 143, 3) := by decide +kernel
theorem dX8_share_79 : decode cX8_share 79 = .ok (.aload_n 0, 1) := by decide +kernel
theorem dX8_share_80 : decode cX8_share 80 = .ok (.getfield 34, 3) := by decide +kernel
theorem dX8_share_83 : decode cX8_share 83 = .ok (.iload_n 3, 1) := by decide +kernel
theorem dX8_share_84 : decode cX8_share 84 = .ok (.iaload, 1) := by decide +kernel
theorem dX8_share_85 : decode cX8_share 85 = .ok (.ireturn, 1) := by decide +kernel
theorem dX8_best_0 : decode cX8_best 0 = .ok (.iload_n 1, 1) := by decide +kernel
theorem dX8_best_1 : decode cX8_best 1 = .ok (.iconst 0, 1) := by decide +kernel
theorem dX8_best_2 : decode cX8_best 2 = .ok (.sipush 480, 3) := by decide +kernel
theorem dX8_best_5 : decode cX8_best 5 = .ok (.invokestatic 61, 3) := by decide +kernel
theorem dX8_best_8 : decode cX8_best 8 = .ok (.ifCond .eq 12, 3) := by decide +kernel
theorem dX8_best_11 : decode cX8_best 11 = .ok (.iload_n 2, 1) := by decide +kernel
theorem dX8_best_12 : decode cX8_best 12 = .ok (.iconst 0, 1) := by decide +kernel
theorem dX8_best_13 : decode cX8_best 13 = .ok (.iconst 1, 1) := by decide +kernel
theorem dX8_best_14 : decode cX8_best 14 = .ok (.invokestatic 61, 3) := by decide +kernel
theorem dX8_best_17 : decode cX8_best 17 = .ok (.ifCond .ne 5, 3) := by decide +kernel
theorem dX8_best_20 : decode cX8_best 20 = .ok (.iconst (-1), 1) := by decide +kernel
theorem dX8_best_21 : decode cX8_best 21 = .ok (.ireturn, 1) := by decide +kernel
theorem dX8_best_22 : decode cX8_best 22 = .ok (.aload_n 0, 1) := by decide +kernel
theorem dX8_best_23 : decode cX8_best 23 = .ok (.iload_n 1, 1) := by decide +kernel
theorem dX8_best_24 : decode cX8_best 24 = .ok (.invokevirtual 187, 3) := by decide +kernel
theorem dX8_best_27 : decode cX8_best 27 = .ok (.istore_n 3, 1) := by decide +kernel
theorem dX8_best_28 : decode cX8_best 28 = .ok (.iload_n 3, 1) := by decide +kernel
theorem dX8_best_29 : decode cX8_best 29 = .ok (.bipush (-4), 2) := by decide +kernel
theorem dX8_best_31 : decode cX8_best 31 = .ok (.if_icmp .ne 8, 3) := by decide +kernel
theorem dX8_best_34 : decode cX8_best 34 = .ok (.bipush (-4), 2) := by decide +kernel
theorem dX8_best_36 : decode cX8_best 36 = .ok (.goto 15, 3) := by decide +kernel
theorem dX8_best_39 : decode cX8_best 39 = .ok (.iload_n 2, 1) := by decide +kernel
theorem dX8_best_40 : decode cX8_best 40 = .ok (.ifCond .ne 7, 3) := by decide +kernel
theorem dX8_best_43 : decode cX8_best 43 = .ok (.iload_n 3, 1) := by decide +kernel
theorem dX8_best_44 : decode cX8_best 44 = .ok (.goto 7, 3) := by decide +kernel
theorem dX8_best_47 : decode cX8_best 47 = .ok (.aload_n 0, 1) := by decide +kernel
theorem dX8_best_48 : decode cX8_best 48 = .ok (.getfield 131, 3) := by decide +kernel
theorem dX8_best_51 : decode cX8_best 51 = .ok (.ireturn, 1) := by decide +kernel
theorem dX8_more_0 : decode cX8_more 0 = .ok (.aload_n 0, 1) := by decide +kernel
theorem dX8_more_1 : decode cX8_more 1 = .ok (.invokevirtual 147, 3) := by decide +kernel
theorem dX8_more_4 : decode cX8_more 4 = .ok (.istore_n 1, 1) := by decide +kernel
theorem dX8_more_5 : decode cX8_more 5 = .ok (.iload_n 1, 1) := by decide +kernel
theorem dX8_more_6 : decode cX8_more 6 = .ok (.aload_n 0, 1) := by decide +kernel
theorem dX8_more_7 : decode cX8_more 7 = .ok (.getfield 19, 3) := by decide +kernel
theorem dX8_more_10 : decode cX8_more 10 = .ok (.iconst 0, 1) := by decide +kernel
theorem dX8_more_11 : decode cX8_more 11 = .ok (.iaload, 1) := by decide +kernel
theorem dX8_more_12 : decode cX8_more 12 = .ok (.if_icmp .eq 6, 3) := by decide +kernel
theorem dX8_more_15 : decode cX8_more 15 = .ok (.bipush (-4), 2) := by decide +kernel
theorem dX8_more_17 : decode cX8_more 17 = .ok (.ireturn, 1) := by decide +kernel
theorem dX8_more_18 : decode cX8_more 18 = .ok (.aload_n 0, 1) := by decide +kernel
theorem dX8_more_19 : decode cX8_more 19 = .ok (.invokevirtual 156, 3) := by decide +kernel
theorem dX8_more_22 : decode cX8_more 22 = .ok (.istore_n 2, 1) := by decide +kernel
theorem dX8_more_23 : decode cX8_more 23 = .ok (.aload_n 0, 1) := by decide +kernel
theorem dX8_more_24 : decode cX8_more 24 = .ok (.aload_n 0, 1) := by decide +kernel
theorem dX8_more_25 : decode cX8_more 25 = .ok (.getfield 19, 3) := by decide +kernel
theorem dX8_more_28 : decode cX8_more 28 = .ok (.iconst 0, 1) := by decide +kernel
theorem dX8_more_29 : decode cX8_more 29 = .ok (.iaload, 1) := by decide +kernel
theorem dX8_more_30 : decode cX8_more 30 = .ok (.invokevirtual 187, 3) := by decide +kernel
theorem dX8_more_33 : decode cX8_more 33 = .ok (.bipush (-4), 2) := by decide +kernel
theorem dX8_more_35 : decode cX8_more 35 = .ok (.if_icmp .ne 8, 3) := by decide +kernel
theorem dX8_more_38 : decode cX8_more 38 = .ok (.bipush (-4), 2) := by decide +kernel
theorem dX8_more_40 : decode cX8_more 40 = .ok (.goto 9, 3) := by decide +kernel
theorem dX8_more_43 : decode cX8_more 43 = .ok (.iload_n 2, 1) := by decide +kernel
theorem dX8_more_44 : decode cX8_more 44 = .ok (.aload_n 0, 1) := by decide +kernel
theorem dX8_more_45 : decode cX8_more 45 = .ok (.getfield 131, 3) := by decide +kernel
theorem dX8_more_48 : decode cX8_more 48 = .ok (.isub, 1) := by decide +kernel
theorem dX8_more_49 : decode cX8_more 49 = .ok (.ireturn, 1) := by decide +kernel
theorem dX8_now_0 : decode cX8_now 0 = .ok (.iload_n 1, 1) := by decide +kernel
theorem dX8_now_1 : decode cX8_now 1 = .ok (.iconst 0, 1) := by decide +kernel
theorem dX8_now_2 : decode cX8_now 2 = .ok (.bipush 6, 2) := by decide +kernel
theorem dX8_now_4 : decode cX8_now 4 = .ok (.invokestatic 61, 3) := by decide +kernel
theorem dX8_now_7 : decode cX8_now 7 = .ok (.ifCond .ne 5, 3) := by decide +kernel
theorem dX8_now_10 : decode cX8_now 10 = .ok (.iconst (-1), 1) := by decide +kernel
theorem dX8_now_11 : decode cX8_now 11 = .ok (.ireturn, 1) := by decide +kernel
theorem dX8_now_12 : decode cX8_now 12 = .ok (.aload_n 0, 1) := by decide +kernel
theorem dX8_now_13 : decode cX8_now 13 = .ok (.getfield 19, 3) := by decide +kernel
theorem dX8_now_16 : decode cX8_now 16 = .ok (.iconst 0, 1) := by decide +kernel
theorem dX8_now_17 : decode cX8_now 17 = .ok (.iaload, 1) := by decide +kernel
theorem dX8_now_18 : decode cX8_now 18 = .ok (.aload_n 0, 1) := by decide +kernel
theorem dX8_now_19 : decode cX8_now 19 = .ok (.invokevirtual 147, 3) := by decide +kernel
theorem dX8_now_22 : decode cX8_now 22 = .ok (.isub, 1) := by decide +kernel
theorem dX8_now_23 : decode cX8_now 23 = .ok (.istore_n 2, 1) := by decide +kernel
theorem dX8_now_24 : decode cX8_now 24 = .ok (.aload_n 0, 1) := by decide +kernel
theorem dX8_now_25 : decode cX8_now 25 = .ok (.aload_n 0, 1) := by decide +kernel
theorem dX8_now_26 : decode cX8_now 26 = .ok (.iconst 1, 1) := by decide +kernel
theorem dX8_now_27 : decode cX8_now 27 = .ok (.invokevirtual 140, 3) := by decide +kernel
theorem dX8_now_30 : decode cX8_now 30 = .ok (.iconst 5, 1) := by decide +kernel
theorem dX8_now_31 : decode cX8_now 31 = .ok (.invokevirtual 90, 3) := by decide +kernel
theorem dX8_now_34 : decode cX8_now 34 = .ok (.aload_n 0, 1) := by decide +kernel
theorem dX8_now_35 : decode cX8_now 35 = .ok (.getfield 19, 3) := by decide +kernel
theorem dX8_now_38 : decode cX8_now 38 = .ok (.iconst 1, 1) := by decide +kernel
theorem dX8_now_39 : decode cX8_now 39 = .ok (.iaload, 1) := by decide +kernel
theorem dX8_now_40 : decode cX8_now 40 = .ok (.isub, 1) := by decide +kernel
theorem dX8_now_41 : decode cX8_now 41 = .ok (.istore_n 3, 1) := by decide +kernel
theorem dX8_now_42 : decode cX8_now 42 = .ok (.iload_n 1, 1) := by decide +kernel
theorem dX8_now_43 : decode cX8_now 43 = .ok (.tableswitch 83 0 5 #[37, 42, 52, 63, 68, 78], 37) := by decide +kernel
theorem dX8_now_80 : decode cX8_now 80 = .ok (.aload_n 0, 1) := by decide +kernel
theorem dX8_now_81 : decode cX8_now 81 = .ok (.invokevirtual 147, 3) := by decide +kernel
theorem dX8_now_84 : decode cX8_now 84 = .ok (.ireturn, 1) := by decide +kernel
theorem dX8_now_85 : decode cX8_now 85 = .ok (.iload_n 2, 1) := by decide +kernel
theorem dX8_now_86 : decode cX8_now 86 = .ok (.ifCond .le 7, 3) := by decide +kernel
theorem dX8_now_89 : decode cX8_now 89 = .ok (.iload_n 2, 1) := by decide +kernel
theorem dX8_now_90 : decode cX8_now 90 = .ok (.goto 4, 3) := by decide +kernel
theorem dX8_now_93 : decode cX8_now 93 = .ok (.iconst 0, 1) := by decide +kernel
theorem dX8_now_94 : decode cX8_now 94 = .ok (.ireturn, 1) := by decide +kernel
theorem dX8_now_95 : decode cX8_now 95 = .ok (.iload_n 2, 1) := by decide +kernel
theorem dX8_now_96 : decode cX8_now 96 = .ok (.ifCond .ge 8, 3) := by decide +kernel
theorem dX8_now_99 : decode cX8_now 99 = .ok (.iload_n 2, 1) := by decide +kernel
theorem dX8_now_100 : decode cX8_now 100 = .ok (.ineg, 1) := by decide +kernel
theorem dX8_now_101 : decode cX8_now 101 = .ok (.goto 4, 3) := by decide +kernel
theorem dX8_now_104 : decode cX8_now 104 = .ok (.iconst 0, 1) := by decide +kernel
theorem dX8_now_105 : decode cX8_now 105 = .ok (.ireturn, 1) := by decide +kernel
theorem dX8_now_106 : decode cX8_now 106 = .ok (.aload_n 0, 1) := by decide +kernel
theorem dX8_now_107 : decode cX8_now 107 = .ok (.invokevirtual 156, 3) := by decide +kernel
theorem dX8_now_110 : decode cX8_now 110 = .ok (.ireturn, 1) := by decide +kernel
theorem dX8_now_111 : decode cX8_now 111 = .ok (.iload_n 3, 1) := by decide +kernel
theorem dX8_now_112 : decode cX8_now 112 = .ok (.ifCond .le 7, 3) := by decide +kernel
theorem dX8_now_115 : decode cX8_now 115 = .ok (.iload_n 3, 1) := by decide +kernel
theorem dX8_now_116 : decode cX8_now 116 = .ok (.goto 4, 3) := by decide +kernel
theorem dX8_now_119 : decode cX8_now 119 = .ok (.iconst 0, 1) := by decide +kernel
theorem dX8_now_120 : decode cX8_now 120 = .ok (.ireturn, 1) := by decide +kernel
theorem dX8_now_121 : decode cX8_now 121 = .ok (.aload_n 0, 1) := by decide +kernel
theorem dX8_now_122 : decode cX8_now 122 = .ok (.invokevirtual 106, 3) := by decide +kernel
theorem dX8_now_125 : decode cX8_now 125 = .ok (.ireturn, 1) := by decide +kernel
theorem dX8_now_126 : decode cX8_now 126 = .ok (.aload_n 0, 1) := by decide +kernel
theorem dX8_now_127 : decode cX8_now 127 = .ok (.invokevirtual 190, 3) := by decide +kernel
theorem dX8_now_130 : decode cX8_now 130 = .ok (.ireturn, 1) := by decide +kernel
theorem dX8_ahead_0 : decode cX8_ahead 0 = .ok (.iload_n 1, 1) := by decide +kernel
theorem dX8_ahead_1 : decode cX8_ahead 1 = .ok (.iconst 1, 1) := by decide +kernel
theorem dX8_ahead_2 : decode cX8_ahead 2 = .ok (.bipush 60, 2) := by decide +kernel
theorem dX8_ahead_4 : decode cX8_ahead 4 = .ok (.invokestatic 61, 3) := by decide +kernel
theorem dX8_ahead_7 : decode cX8_ahead 7 = .ok (.ifCond .eq 12, 3) := by decide +kernel
theorem dX8_ahead_10 : decode cX8_ahead 10 = .ok (.iload_n 2, 1) := by decide +kernel
theorem dX8_ahead_11 : decode cX8_ahead 11 = .ok (.iconst 0, 1) := by decide +kernel
theorem dX8_ahead_12 : decode cX8_ahead 12 = .ok (.iconst 3, 1) := by decide +kernel
theorem dX8_ahead_13 : decode cX8_ahead 13 = .ok (.invokestatic 61, 3) := by decide +kernel
theorem dX8_ahead_16 : decode cX8_ahead 16 = .ok (.ifCond .ne 5, 3) := by decide +kernel
theorem dX8_ahead_19 : decode cX8_ahead 19 = .ok (.iconst (-1), 1) := by decide +kernel
theorem dX8_ahead_20 : decode cX8_ahead 20 = .ok (.ireturn, 1) := by decide +kernel
theorem dX8_ahead_21 : decode cX8_ahead 21 = .ok (.iconst 0, 1) := by decide +kernel
theorem dX8_ahead_22 : decode cX8_ahead 22 = .ok (.istore_n 3, 1) := by decide +kernel
theorem dX8_ahead_23 : decode cX8_ahead 23 = .ok (.iload_n 3, 1) := by decide +kernel
theorem dX8_ahead_24 : decode cX8_ahead 24 = .ok (.bipush 101, 2) := by decide +kernel
theorem dX8_ahead_26 : decode cX8_ahead 26 = .ok (.if_icmp .ge 21, 3) := by decide +kernel
theorem dX8_ahead_29 : decode cX8_ahead 29 = .ok (.aload_n 0, 1) := by decide +kernel
theorem dX8_ahead_30 : decode cX8_ahead 30 = .ok (.getfield 22, 3) := by decide +kernel
theorem dX8_ahead_33 : decode cX8_ahead 33 = .ok (.iload_n 3, 1) := by decide +kernel
theorem dX8_ahead_34 : decode cX8_ahead 34 = .ok (.aload_n 0, 1) := by decide +kernel
theorem dX8_ahead_35 : decode cX8_ahead 35 = .ok (.getfield 19, 3) := by decide +kernel
theorem dX8_ahead_38 : decode cX8_ahead 38 = .ok (.iload_n 3, 1) := by decide +kernel
theorem dX8_ahead_39 : decode cX8_ahead 39 = .ok (.iaload, 1) := by decide +kernel
theorem dX8_ahead_40 : decode cX8_ahead 40 = .ok (.iastore, 1) := by decide +kernel
theorem dX8_ahead_41 : decode cX8_ahead 41 = .ok (.iinc 3 1, 3) := by decide +kernel
theorem dX8_ahead_44 : decode cX8_ahead 44 = .ok (.goto (-21), 3) := by decide +kernel
theorem dX8_ahead_47 : decode cX8_ahead 47 = .ok (.iconst 0, 1) := by decide +kernel
theorem dX8_ahead_48 : decode cX8_ahead 48 = .ok (.istore_n 3, 1) := by decide +kernel
theorem dX8_ahead_49 : decode cX8_ahead 49 = .ok (.iconst 0, 1) := by decide +kernel
theorem dX8_ahead_50 : decode cX8_ahead 50 = .ok (.istore 4, 2) := by decide +kernel
theorem dX8_ahead_52 : decode cX8_ahead 52 = .ok (.iload 4, 2) := by decide +kernel
theorem dX8_ahead_54 : decode cX8_ahead 54 = .ok (.iload_n 1, 1) := by decide +kernel
theorem dX8_ahead_55 : decode cX8_ahead 55 = .ok (.if_icmp .ge 34, 3) := by decide +kernel
theorem dX8_ahead_58 : decode cX8_ahead 58 = .ok (.aload_n 0, 1) := by decide +kernel
theorem dX8_ahead_59 : decode cX8_ahead 59 = .ok (.invokevirtual 181, 3) := by decide +kernel
theorem dX8_ahead_62 : decode cX8_ahead 62 = .ok (.iload_n 3, 1) := by decide +kernel
theorem dX8_ahead_63 : decode cX8_ahead 63 = .ok (.aload_n 0, 1) := by decide +kernel
theorem dX8_ahead_64 : decode cX8_ahead 64 = .ok (.invokevirtual 147, 3) := by decide +kernel
theorem dX8_ahead_67 : decode cX8_ahead 67 = .ok (.aload_n 0, 1) := by decide +kernel
theorem dX8_ahead_68 : decode cX8_ahead 68 = .ok (.getfield 19, 3) := by decide +kernel
theorem dX8_ahead_71 : decode cX8_ahead 71 = .ok (.iconst 0, 1) := by decide +kernel
theorem dX8_ahead_72 : decode cX8_ahead 72 = .ok (.iaload, 1) := by decide +kernel
theorem dX8_ahead_73 : decode cX8_ahead 73 = .ok (.if_icmp .ge 7, 3) := by decide +kernel
theorem dX8_ahead_76 : decode cX8_ahead 76 = .ok (.iconst 1, 1) := by decide +kernel
theorem dX8_ahead_77 : decode cX8_ahead 77 = .ok (.goto 4, 3) := by decide +kernel
theorem dX8_ahead_80 : decode cX8_ahead 80 = .ok (.iconst 0, 1) := by decide +kernel
theorem dX8_ahead_81 : decode cX8_ahead 81 = .ok (.iadd, 1) := by decide +kernel
theorem dX8_ahead_82 : decode cX8_ahead 82 = .ok (.istore_n 3, 1) := by decide +kernel
theorem dX8_ahead_83 : decode cX8_ahead 83 = .ok (.iinc 4 1, 3) := by decide +kernel
theorem dX8_ahead_86 : decode cX8_ahead 86 = .ok (.goto (-34), 3) := by decide +kernel
theorem dX8_ahead_89 : decode cX8_ahead 89 = .ok (.aload_n 0, 1) := by decide +kernel
theorem dX8_ahead_90 : decode cX8_ahead 90 = .ok (.iconst 1, 1) := by decide +kernel
theorem dX8_ahead_91 : decode cX8_ahead 91 = .ok (.invokevirtual 140, 3) := by decide +kernel
theorem dX8_ahead_94 : decode cX8_ahead 94 = .ok (.invokestatic 137, 3) := by decide +kernel
theorem dX8_ahead_97 : decode cX8_ahead 97 = .ok (.istore 4, 2) := by decide +kernel
theorem dX8_ahead_99 : decode cX8_ahead 99 = .ok (.aload_n 0, 1) := by decide +kernel
theorem dX8_ahead_100 : decode cX8_ahead 100 = .ok (.getfield 19, 3) := by decide +kernel
theorem dX8_ahead_103 : decode cX8_ahead 103 = .ok (.bipush 7, 2) := by decide +kernel
theorem dX8_ahead_105 : decode cX8_ahead 105 = .ok (.iaload, 1) := by decide +kernel
theorem dX8_ahead_106 : decode cX8_ahead 106 = .ok (.aload_n 0, 1) := by decide +kernel
theorem dX8_ahead_107 : decode cX8_ahead 107 = .ok (.getfield 22, 3) := by decide +kernel
theorem dX8_ahead_110 : decode cX8_ahead 110 = .ok (.bipush 7, 2) := by decide +kernel
theorem dX8_ahead_112 : decode cX8_ahead 112 = .ok (.iaload, 1) := by decide +kernel
theorem dX8_ahead_113 : decode cX8_ahead 113 = .ok (.isub, 1) := by decide +kernel
theorem dX8_ahead_114 : decode cX8_ahead 114 = .ok (.istore 5, 2) := by decide +kernel
theorem dX8_ahead_116 : decode cX8_ahead 116 = .ok (.aload_n 0, 1) := by decide +kernel
theorem dX8_ahead_117 : decode cX8_ahead 117 = .ok (.getfield 19, 3) := by decide +kernel
theorem dX8_ahead_120 : decode cX8_ahead 120 = .ok (.bipush 8, 2) := by decide +kernel
theorem dX8_ahead_122 : decode cX8_ahead 122 = .ok (.iaload, 1) := by decide +kernel
theorem dX8_ahead_123 : decode cX8_ahead 123 = .ok (.aload_n 0, 1) := by decide +kernel
theorem dX8_ahead_124 : decode cX8_ahead 124 = .ok (.getfield 22, 3) := by decide +kernel
theorem dX8_ahead_127 : decode cX8_ahead 127 = .ok (.bipush 8, 2) := by decide +kernel
theorem dX8_ahead_129 : decode cX8_ahead 129 = .ok (.iaload, 1) := by decide +kernel
theorem dX8_ahead_130 : decode cX8_ahead 130 = .ok (.isub, 1) := by decide +kernel
theorem dX8_ahead_131 : decode cX8_ahead 131 = .ok (.istore 6, 2) := by decide +kernel
theorem dX8_ahead_133 : decode cX8_ahead 133 = .ok (.iconst 0, 1) := by decide +kernel
theorem dX8_ahead_134 : decode cX8_ahead 134 = .ok (.istore 7, 2) := by decide +kernel
theorem dX8_ahead_136 : decode cX8_ahead 136 = .ok (.iload 7, 2) := by decide +kernel
theorem dX8_ahead_138 : decode cX8_ahead 138 = .ok (.bipush 101, 2) := by decide +kernel
theorem dX8_ahead_140 : decode cX8_ahead 140 = .ok (.if_icmp .ge 23, 3) := by decide +kernel
theorem dX8_ahead_143 : decode cX8_ahead 143 = .ok (.aload_n 0, 1) := by decide +kernel
theorem dX8_ahead_144 : decode cX8_ahead 144 = .ok (.getfield 19, 3) := by decide +kernel
theorem dX8_ahead_147 : decode cX8_ahead 147 = .ok (.iload 7, 2) := by decide +kernel
theorem dX8_ahead_149 : decode cX8_ahead 149 = .ok (.aload_n 0, 1) := by decide +kernel
theorem dX8_ahead_150 : decode cX8_ahead 150 = .ok (.getfield 22, 3) := by decide +kernel
theorem dX8_ahead_153 : decode cX8_ahead 153 = .ok (.iload 7, 2) := by decide +kernel
theorem dX8_ahead_155 : decode cX8_ahead 155 = .ok (.iaload, 1) := by decide +kernel
theorem dX8_ahead_156 : decode cX8_ahead 156 = .ok (.iastore, 1) := by decide +kernel
theorem dX8_ahead_157 : decode cX8_ahead 157 = .ok (.iinc 7 1, 3) := by decide +kernel
theorem dX8_ahead_160 : decode cX8_ahead 160 = .ok (.goto (-24), 3) := by decide +kernel
theorem dX8_ahead_163 : decode cX8_ahead 163 = .ok (.iload_n 2, 1) := by decide +kernel
theorem dX8_ahead_164 : decode cX8_ahead 164 = .ok (.ifCond .ne 8, 3) := by decide +kernel
theorem dX8_ahead_167 : decode cX8_ahead 167 = .ok (.iload 4, 2) := by decide +kernel
theorem dX8_ahead_169 : decode cX8_ahead 169 = .ok (.goto 24, 3) := by decide +kernel
theorem dX8_ahead_172 : decode cX8_ahead 172 = .ok (.iload_n 2, 1) := by decide +kernel
theorem dX8_ahead_173 : decode cX8_ahead 173 = .ok (.iconst 1, 1) := by decide +kernel
theorem dX8_ahead_174 : decode cX8_ahead 174 = .ok (.if_icmp .ne 8, 3) := by decide +kernel
theorem dX8_ahead_177 : decode cX8_ahead 177 = .ok (.iload 5, 2) := by decide +kernel
theorem dX8_ahead_179 : decode cX8_ahead 179 = .ok (.goto 14, 3) := by decide +kernel
theorem dX8_ahead_182 : decode cX8_ahead 182 = .ok (.iload_n 2, 1) := by decide +kernel
theorem dX8_ahead_183 : decode cX8_ahead 183 = .ok (.iconst 2, 1) := by decide +kernel
theorem dX8_ahead_184 : decode cX8_ahead 184 = .ok (.if_icmp .ne 8, 3) := by decide +kernel
theorem dX8_ahead_187 : decode cX8_ahead 187 = .ok (.iload 6, 2) := by decide +kernel
theorem dX8_ahead_189 : decode cX8_ahead 189 = .ok (.goto 4, 3) := by decide +kernel
theorem dX8_ahead_192 : decode cX8_ahead 192 = .ok (.iload_n 3, 1) := by decide +kernel
theorem dX8_ahead_193 : decode cX8_ahead 193 = .ok (.ireturn, 1) := by decide +kernel
theorem dX8_count_0 : decode cX8_count 0 = .ok (.iload_n 1, 1) := by decide +kernel
theorem dX8_count_1 : decode cX8_count 1 = .ok (.tableswitch 152 0 15 #[79, 87, 96, 105, 113, 121, 121, 121, 121, 121, 132, 132, 132, 132, 142, 147], 79) := by decide +kernel
theorem dX8_count_80 : decode cX8_count 80 = .ok (.aload_n 0, 1) := by decide +kernel
theorem dX8_count_81 : decode cX8_count 81 = .ok (.getfield 16, 3) := by decide +kernel
theorem dX8_count_84 : decode cX8_count 84 = .ok (.bipush 36, 2) := by decide +kernel
theorem dX8_count_86 : decode cX8_count 86 = .ok (.iaload, 1) := by decide +kernel
theorem dX8_count_87 : decode cX8_count 87 = .ok (.ireturn, 1) := by decide +kernel
theorem dX8_count_88 : decode cX8_count 88 = .ok (.aload_n 0, 1) := by decide +kernel
theorem dX8_count_89 : decode cX8_count 89 = .ok (.iconst 1, 1) := by decide +kernel
theorem dX8_count_90 : decode cX8_count 90 = .ok (.invokevirtual 140, 3) := by decide +kernel
theorem dX8_count_93 : decode cX8_count 93 = .ok (.invokestatic 137, 3) := by decide +kernel
theorem dX8_count_96 : decode cX8_count 96 = .ok (.ireturn, 1) := by decide +kernel
theorem dX8_count_97 : decode cX8_count 97 = .ok (.aload_n 0, 1) := by decide +kernel
theorem dX8_count_98 : decode cX8_count 98 = .ok (.iconst 2, 1) := by decide +kernel
theorem dX8_count_99 : decode cX8_count 99 = .ok (.invokevirtual 140, 3) := by decide +kernel
theorem dX8_count_102 : decode cX8_count 102 = .ok (.invokestatic 137, 3) := by decide +kernel
theorem dX8_count_105 : decode cX8_count 105 = .ok (.ireturn, 1) := by decide +kernel
theorem dX8_count_106 : decode cX8_count 106 = .ok (.aload_n 0, 1) := by decide +kernel
theorem dX8_count_107 : decode cX8_count 107 = .ok (.invokevirtual 128, 3) := by decide +kernel
theorem dX8_count_110 : decode cX8_count 110 = .ok (.invokestatic 137, 3) := by decide +kernel
theorem dX8_count_113 : decode cX8_count 113 = .ok (.ireturn, 1) := by decide +kernel
theorem dX8_count_114 : decode cX8_count 114 = .ok (.aload_n 0, 1) := by decide +kernel
theorem dX8_count_115 : decode cX8_count 115 = .ok (.getfield 19, 3) := by decide +kernel
theorem dX8_count_118 : decode cX8_count 118 = .ok (.bipush 10, 2) := by decide +kernel
theorem dX8_count_120 : decode cX8_count 120 = .ok (.iaload, 1) := by decide +kernel
theorem dX8_count_121 : decode cX8_count 121 = .ok (.ireturn, 1) := by decide +kernel
theorem dX8_count_122 : decode cX8_count 122 = .ok (.aload_n 0, 1) := by decide +kernel
theorem dX8_count_123 : decode cX8_count 123 = .ok (.getfield 19, 3) := by decide +kernel
theorem dX8_count_126 : decode cX8_count 126 = .ok (.iconst 4, 1) := by decide +kernel
theorem dX8_count_127 : decode cX8_count 127 = .ok (.iload_n 1, 1) := by decide +kernel
theorem dX8_count_128 : decode cX8_count 128 = .ok (.iadd, 1) := by decide +kernel
theorem dX8_count_129 : decode cX8_count 129 = .ok (.iconst 5, 1) := by decide +kernel
theorem dX8_count_130 : decode cX8_count 130 = .ok (.isub, 1) := by decide +kernel
theorem dX8_count_131 : decode cX8_count 131 = .ok (.iaload, 1) := by decide +kernel
theorem dX8_count_132 : decode cX8_count 132 = .ok (.ireturn, 1) := by decide +kernel
theorem dX8_count_133 : decode cX8_count 133 = .ok (.aload_n 0, 1) := by decide +kernel
theorem dX8_count_134 : decode cX8_count 134 = .ok (.getfield 19, 3) := by decide +kernel
theorem dX8_count_137 : decode cX8_count 137 = .ok (.iload_n 1, 1) := by decide +kernel
theorem dX8_count_138 : decode cX8_count 138 = .ok (.bipush 10, 2) := by decide +kernel
theorem dX8_count_140 : decode cX8_count 140 = .ok (.isub, 1) := by decide +kernel
theorem dX8_count_141 : decode cX8_count 141 = .ok (.iaload, 1) := by decide +kernel
theorem dX8_count_142 : decode cX8_count 142 = .ok (.ireturn, 1) := by decide +kernel
theorem dX8_count_143 : decode cX8_count 143 = .ok (.aload_n 0, 1) := by decide +kernel
theorem dX8_count_144 : decode cX8_count 144 = .ok (.getfield 47, 3) := by decide +kernel
theorem dX8_count_147 : decode cX8_count 147 = .ok (.ireturn, 1) := by decide +kernel
theorem dX8_count_148 : decode cX8_count 148 = .ok (.aload_n 0, 1) := by decide +kernel
theorem dX8_count_149 : decode cX8_count 149 = .ok (.getfield 58, 3) := by decide +kernel
theorem dX8_count_152 : decode cX8_count 152 = .ok (.ireturn, 1) := by decide +kernel
theorem dX8_count_153 : decode cX8_count 153 = .ok (.iconst (-1), 1) := by decide +kernel
theorem dX8_count_154 : decode cX8_count 154 = .ok (.ireturn, 1) := by decide +kernel
theorem dL_law_0 : decode code 0 = .ok (.new 7, 3) := by decide +kernel
theorem dL_law_3 : decode code 3 = .ok (.dup, 1) := by decide +kernel
theorem dL_law_4 : decode code 4 = .ok (.invokespecial 9, 3) := by decide +kernel
theorem dL_law_7 : decode code 7 = .ok (.astore_n 1, 1) := by decide +kernel
theorem dL_law_8 : decode code 8 = .ok (.new 10, 3) := by decide +kernel
theorem dL_law_11 : decode code 11 = .ok (.dup, 1) := by decide +kernel
theorem dL_law_12 : decode code 12 = .ok (.invokespecial 12, 3) := by decide +kernel
theorem dL_law_15 : decode code 15 = .ok (.astore_n 2, 1) := by decide +kernel
theorem dL_law_16 : decode code 16 = .ok (.iconst 0, 1) := by decide +kernel
theorem dL_law_17 : decode code 17 = .ok (.istore_n 3, 1) := by decide +kernel
theorem dL_law_18 : decode code 18 = .ok (.iload_n 3, 1) := by decide +kernel
theorem dL_law_19 : decode code 19 = .ok (.aload_n 0, 1) := by decide +kernel
theorem dL_law_20 : decode code 20 = .ok (.arraylength, 1) := by decide +kernel
theorem dL_law_21 : decode code 21 = .ok (.iconst 4, 1) := by decide +kernel
theorem dL_law_22 : decode code 22 = .ok (.isub, 1) := by decide +kernel
theorem dL_law_23 : decode code 23 = .ok (.if_icmp .gt 503, 3) := by decide +kernel
theorem dL_law_26 : decode code 26 = .ok (.aload_n 0, 1) := by decide +kernel
theorem dL_law_27 : decode code 27 = .ok (.iload_n 3, 1) := by decide +kernel
theorem dL_law_28 : decode code 28 = .ok (.iaload, 1) := by decide +kernel
theorem dL_law_29 : decode code 29 = .ok (.bipush 15, 2) := by decide +kernel
theorem dL_law_31 : decode code 31 = .ok (.iand, 1) := by decide +kernel
theorem dL_law_32 : decode code 32 = .ok (.tableswitch 488 0 15 #[80, 103, 116, 129, 142, 175, 208, 221, 244, 257, 290, 333, 376, 409, 432, 465], 80) := by decide +kernel
theorem dL_law_112 : decode code 112 = .ok (.aload_n 1, 1) := by decide +kernel
theorem dL_law_113 : decode code 113 = .ok (.aload_n 0, 1) := by decide +kernel
theorem dL_law_114 : decode code 114 = .ok (.iload_n 3, 1) := by decide +kernel
theorem dL_law_115 : decode code 115 = .ok (.iconst 1, 1) := by decide +kernel
theorem dL_law_116 : decode code 116 = .ok (.iadd, 1) := by decide +kernel
theorem dL_law_117 : decode code 117 = .ok (.iaload, 1) := by decide +kernel
theorem dL_law_118 : decode code 118 = .ok (.invokevirtual 13, 3) := by decide +kernel
theorem dL_law_121 : decode code 121 = .ok (.aload_n 2, 1) := by decide +kernel
theorem dL_law_122 : decode code 122 = .ok (.aload_n 0, 1) := by decide +kernel
theorem dL_law_123 : decode code 123 = .ok (.iload_n 3, 1) := by decide +kernel
theorem dL_law_124 : decode code 124 = .ok (.iconst 1, 1) := by decide +kernel
theorem dL_law_125 : decode code 125 = .ok (.iadd, 1) := by decide +kernel
theorem dL_law_126 : decode code 126 = .ok (.iaload, 1) := by decide +kernel
theorem dL_law_127 : decode code 127 = .ok (.invokevirtual 17, 3) := by decide +kernel
theorem dL_law_130 : decode code 130 = .ok (.if_icmp .eq 390, 3) := by decide +kernel
theorem dL_law_133 : decode code 133 = .ok (.iconst 0, 1) := by decide +kernel
theorem dL_law_134 : decode code 134 = .ok (.ireturn, 1) := by decide +kernel
theorem dL_law_135 : decode code 135 = .ok (.aload_n 1, 1) := by decide +kernel
theorem dL_law_136 : decode code 136 = .ok (.invokevirtual 18, 3) := by decide +kernel
theorem dL_law_139 : decode code 139 = .ok (.aload_n 2, 1) := by decide +kernel
theorem dL_law_140 : decode code 140 = .ok (.invokevirtual 22, 3) := by decide +kernel
theorem dL_law_143 : decode code 143 = .ok (.if_icmp .eq 377, 3) := by decide +kernel
theorem dL_law_146 : decode code 146 = .ok (.iconst 0, 1) := by decide +kernel
theorem dL_law_147 : decode code 147 = .ok (.ireturn, 1) := by decide +kernel
theorem dL_law_148 : decode code 148 = .ok (.aload_n 1, 1) := by decide +kernel
theorem dL_law_149 : decode code 149 = .ok (.invokevirtual 23, 3) := by decide +kernel
theorem dL_law_152 : decode code 152 = .ok (.aload_n 2, 1) := by decide +kernel
theorem dL_law_153 : decode code 153 = .ok (.invokevirtual 26, 3) := by decide +kernel
theorem dL_law_156 : decode code 156 = .ok (.if_icmp .eq 364, 3) := by decide +kernel
theorem dL_law_159 : decode code 159 = .ok (.iconst 0, 1) := by decide +kernel
theorem dL_law_160 : decode code 160 = .ok (.ireturn, 1) := by decide +kernel
theorem dL_law_161 : decode code 161 = .ok (.aload_n 1, 1) := by decide +kernel
theorem dL_law_162 : decode code 162 = .ok (.invokevirtual 27, 3) := by decide +kernel
theorem dL_law_165 : decode code 165 = .ok (.aload_n 2, 1) := by decide +kernel
theorem dL_law_166 : decode code 166 = .ok (.invokevirtual 30, 3) := by decide +kernel
theorem dL_law_169 : decode code 169 = .ok (.if_icmp .eq 351, 3) := by decide +kernel
theorem dL_law_172 : decode code 172 = .ok (.iconst 0, 1) := by decide +kernel
theorem dL_law_173 : decode code 173 = .ok (.ireturn, 1) := by decide +kernel
theorem dL_law_174 : decode code 174 = .ok (.aload_n 1, 1) := by decide +kernel
theorem dL_law_175 : decode code 175 = .ok (.aload_n 0, 1) := by decide +kernel
theorem dL_law_176 : decode code 176 = .ok (.iload_n 3, 1) := by decide +kernel
theorem dL_law_177 : decode code 177 = .ok (.iconst 1, 1) := by decide +kernel
theorem dL_law_178 : decode code 178 = .ok (.iadd, 1) := by decide +kernel
theorem dL_law_179 : decode code 179 = .ok (.iaload, 1) := by decide +kernel
theorem dL_law_180 : decode code 180 = .ok (.aload_n 0, 1) := by decide +kernel
theorem dL_law_181 : decode code 181 = .ok (.iload_n 3, 1) := by decide +kernel
theorem dL_law_182 : decode code 182 = .ok (.iconst 2, 1) := by decide +kernel
theorem dL_law_183 : decode code 183 = .ok (.iadd, 1) := by decide +kernel
theorem dL_law_184 : decode code 184 = .ok (.iaload, 1) := by decide +kernel
theorem dL_law_185 : decode code 185 = .ok (.invokevirtual 31, 3) := by decide +kernel
theorem dL_law_188 : decode code 188 = .ok (.aload_n 2, 1) := by decide +kernel
theorem dL_law_189 : decode code 189 = .ok (.aload_n 0, 1) := by decide +kernel
theorem dL_law_190 : decode code 190 = .ok (.iload_n 3, 1) := by decide +kernel
theorem dL_law_191 : decode code 191 = .ok (.iconst 1, 1) := by decide +kernel
theorem dL_law_192 : decode code 192 = .ok (.iadd, 1) := by decide +kernel
theorem dL_law_193 : decode code 193 = .ok (.iaload, 1) := by decide +kernel
theorem dL_law_194 : decode code 194 = .ok (.aload_n 0, 1) := by decide +kernel
theorem dL_law_195 : decode code 195 = .ok (.iload_n 3, 1) := by decide +kernel
theorem dL_law_196 : decode code 196 = .ok (.iconst 2, 1) := by decide +kernel
theorem dL_law_197 : decode code 197 = .ok (.iadd, 1) := by decide +kernel
theorem dL_law_198 : decode code 198 = .ok (.iaload, 1) := by decide +kernel
theorem dL_law_199 : decode code 199 = .ok (.invokevirtual 35, 3) := by decide +kernel
theorem dL_law_202 : decode code 202 = .ok (.if_icmp .eq 318, 3) := by decide +kernel
theorem dL_law_205 : decode code 205 = .ok (.iconst 0, 1) := by decide +kernel
theorem dL_law_206 : decode code 206 = .ok (.ireturn, 1) := by decide +kernel
theorem dL_law_207 : decode code 207 = .ok (.aload_n 1, 1) := by decide +kernel
theorem dL_law_208 : decode code 208 = .ok (.aload_n 0, 1) := by decide +kernel
theorem dL_law_209 : decode code 209 = .ok (.iload_n 3, 1) := by decide +kernel
theorem dL_law_210 : decode code 210 = .ok (.iconst 1, 1) := by decide +kernel
theorem dL_law_211 : decode code 211 = .ok (.iadd, 1) := by decide +kernel
theorem dL_law_212 : decode code 212 = .ok (.iaload, 1) := by decide +kernel
theorem dL_law_213 : decode code 213 = .ok (.aload_n 0, 1) := by decide +kernel
theorem dL_law_214 : decode code 214 = .ok (.iload_n 3, 1) := by decide +kernel
theorem dL_law_215 : decode code 215 = .ok (.iconst 2, 1) := by decide +kernel
theorem dL_law_216 : decode code 216 = .ok (.iadd, 1) := by decide +kernel
theorem dL_law_217 : decode code 217 = .ok (.iaload, 1) := by decide +kernel
theorem dL_law_218 : decode code 218 = .ok (.invokevirtual 36, 3) := by decide +kernel
theorem dL_law_221 : decode code 221 = .ok (.aload_n 2, 1) := by decide +kernel
theorem dL_law_222 : decode code 222 = .ok (.aload_n 0, 1) := by decide +kernel
theorem dL_law_223 : decode code 223 = .ok (.iload_n 3, 1) := by decide +kernel
theorem dL_law_224 : decode code 224 = .ok (.iconst 1, 1) := by decide +kernel
theorem dL_law_225 : decode code 225 = .ok (.iadd, 1) := by decide +kernel
theorem dL_law_226 : decode code 226 = .ok (.iaload, 1) := by decide +kernel
theorem dL_law_227 : decode code 227 = .ok (.aload_n 0, 1) := by decide +kernel
theorem dL_law_228 : decode code 228 = .ok (.iload_n 3, 1) := by decide +kernel
theorem dL_law_229 : decode code 229 = .ok (.iconst 2, 1) := by decide +kernel
theorem dL_law_230 : decode code 230 = .ok (.iadd, 1) := by decide +kernel
theorem dL_law_231 : decode code 231 = .ok (.iaload, 1) := by decide +kernel
theorem dL_law_232 : decode code 232 = .ok (.invokevirtual 39, 3) := by decide +kernel
theorem dL_law_235 : decode code 235 = .ok (.if_icmp .eq 285, 3) := by decide +kernel
theorem dL_law_238 : decode code 238 = .ok (.iconst 0, 1) := by decide +kernel
theorem dL_law_239 : decode code 239 = .ok (.ireturn, 1) := by decide +kernel
theorem dL_law_240 : decode code 240 = .ok (.aload_n 1, 1) := by decide +kernel
theorem dL_law_241 : decode code 241 = .ok (.invokevirtual 40, 3) := by decide +kernel
theorem dL_law_244 : decode code 244 = .ok (.aload_n 2, 1) := by decide +kernel
theorem dL_law_245 : decode code 245 = .ok (.invokevirtual 43, 3) := by decide +kernel
theorem dL_law_248 : decode code 248 = .ok (.if_icmp .eq 272, 3) := by decide +kernel
theorem dL_law_251 : decode code 251 = .ok (.iconst 0, 1) := by decide +kernel
theorem dL_law_252 : decode code 252 = .ok (.ireturn, 1) := by decide +kernel
theorem dL_law_253 : decode code 253 = .ok (.aload_n 1, 1) := by decide +kernel
theorem dL_law_254 : decode code 254 = .ok (.aload_n 0, 1) := by decide +kernel
theorem dL_law_255 : decode code 255 = .ok (.iload_n 3, 1) := by decide +kernel
theorem dL_law_256 : decode code 256 = .ok (.iconst 1, 1) := by decide +kernel
theorem dL_law_257 : decode code 257 = .ok (.iadd, 1) := by decide +kernel
theorem dL_law_258 : decode code 258 = .ok (.iaload, 1) := by decide +kernel
theorem dL_law_259 : decode code 259 = .ok (.invokevirtual 44, 3) := by decide +kernel
theorem dL_law_262 : decode code 262 = .ok (.aload_n 2, 1) := by decide +kernel
theorem dL_law_263 : decode code 263 = .ok (.aload_n 0, 1) := by decide +kernel
theorem dL_law_264 : decode code 264 = .ok (.iload_n 3, 1) := by decide +kernel
theorem dL_law_265 : decode code 265 = .ok (.iconst 1, 1) := by decide +kernel
theorem dL_law_266 : decode code 266 = .ok (.iadd, 1) := by decide +kernel
theorem dL_law_267 : decode code 267 = .ok (.iaload, 1) := by decide +kernel
theorem dL_law_268 : decode code 268 = .ok (.invokevirtual 47, 3) := by decide +kernel
theorem dL_law_271 : decode code 271 = .ok (.if_icmp .eq 249, 3) := by decide +kernel
theorem dL_law_274 : decode code 274 = .ok (.iconst 0, 1) := by decide +kernel
theorem dL_law_275 : decode code 275 = .ok (.ireturn, 1) := by decide +kernel
theorem dL_law_276 : decode code 276 = .ok (.aload_n 1, 1) := by decide +kernel
theorem dL_law_277 : decode code 277 = .ok (.invokevirtual 48, 3) := by decide +kernel
theorem dL_law_280 : decode code 280 = .ok (.aload_n 2, 1) := by decide +kernel
theorem dL_law_281 : decode code 281 = .ok (.invokevirtual 51, 3) := by decide +kernel
theorem dL_law_284 : decode code 284 = .ok (.if_icmp .eq 236, 3) := by decide +kernel
theorem dL_law_287 : decode code 287 = .ok (.iconst 0, 1) := by decide +kernel
theorem dL_law_288 : decode code 288 = .ok (.ireturn, 1) := by decide +kernel
theorem dL_law_289 : decode code 289 = .ok (.aload_n 1, 1) := by decide +kernel
theorem dL_law_290 : decode code 290 = .ok (.aload_n 0, 1) := by decide +kernel
theorem dL_law_291 : decode code 291 = .ok (.iload_n 3, 1) := by decide +kernel
theorem dL_law_292 : decode code 292 = .ok (.iconst 1, 1) := by decide +kernel
theorem dL_law_293 : decode code 293 = .ok (.iadd, 1) := by decide +kernel
theorem dL_law_294 : decode code 294 = .ok (.iaload, 1) := by decide +kernel
theorem dL_law_295 : decode code 295 = .ok (.aload_n 0, 1) := by decide +kernel
theorem dL_law_296 : decode code 296 = .ok (.iload_n 3, 1) := by decide +kernel
theorem dL_law_297 : decode code 297 = .ok (.iconst 2, 1) := by decide +kernel
theorem dL_law_298 : decode code 298 = .ok (.iadd, 1) := by decide +kernel
theorem dL_law_299 : decode code 299 = .ok (.iaload, 1) := by decide +kernel
theorem dL_law_300 : decode code 300 = .ok (.invokevirtual 52, 3) := by decide +kernel
theorem dL_law_303 : decode code 303 = .ok (.aload_n 2, 1) := by decide +kernel
theorem dL_law_304 : decode code 304 = .ok (.aload_n 0, 1) := by decide +kernel
theorem dL_law_305 : decode code 305 = .ok (.iload_n 3, 1) := by decide +kernel
theorem dL_law_306 : decode code 306 = .ok (.iconst 1, 1) := by decide +kernel
theorem dL_law_307 : decode code 307 = .ok (.iadd, 1) := by decide +kernel
theorem dL_law_308 : decode code 308 = .ok (.iaload, 1) := by decide +kernel
theorem dL_law_309 : decode code 309 = .ok (.aload_n 0, 1) := by decide +kernel
theorem dL_law_310 : decode code 310 = .ok (.iload_n 3, 1) := by decide +kernel
theorem dL_law_311 : decode code 311 = .ok (.iconst 2, 1) := by decide +kernel
theorem dL_law_312 : decode code 312 = .ok (.iadd, 1) := by decide +kernel
theorem dL_law_313 : decode code 313 = .ok (.iaload, 1) := by decide +kernel
theorem dL_law_314 : decode code 314 = .ok (.invokevirtual 55, 3) := by decide +kernel
theorem dL_law_317 : decode code 317 = .ok (.if_icmp .eq 203, 3) := by decide +kernel
theorem dL_law_320 : decode code 320 = .ok (.iconst 0, 1) := by decide +kernel
theorem dL_law_321 : decode code 321 = .ok (.ireturn, 1) := by decide +kernel
theorem dL_law_322 : decode code 322 = .ok (.aload_n 1, 1) := by decide +kernel
theorem dL_law_323 : decode code 323 = .ok (.aload_n 0, 1) := by decide +kernel
theorem dL_law_324 : decode code 324 = .ok (.iload_n 3, 1) := by decide +kernel
theorem dL_law_325 : decode code 325 = .ok (.iconst 1, 1) := by decide +kernel
theorem dL_law_326 : decode code 326 = .ok (.iadd, 1) := by decide +kernel
theorem dL_law_327 : decode code 327 = .ok (.iaload, 1) := by decide +kernel
theorem dL_law_328 : decode code 328 = .ok (.aload_n 0, 1) := by decide +kernel
theorem dL_law_329 : decode code 329 = .ok (.iload_n 3, 1) := by decide +kernel
theorem dL_law_330 : decode code 330 = .ok (.iconst 2, 1) := by decide +kernel
theorem dL_law_331 : decode code 331 = .ok (.iadd, 1) := by decide +kernel
theorem dL_law_332 : decode code 332 = .ok (.iaload, 1) := by decide +kernel
theorem dL_law_333 : decode code 333 = .ok (.aload_n 0, 1) := by decide +kernel
theorem dL_law_334 : decode code 334 = .ok (.iload_n 3, 1) := by decide +kernel
theorem dL_law_335 : decode code 335 = .ok (.iconst 3, 1) := by decide +kernel
theorem dL_law_336 : decode code 336 = .ok (.iadd, 1) := by decide +kernel
theorem dL_law_337 : decode code 337 = .ok (.iaload, 1) := by decide +kernel
theorem dL_law_338 : decode code 338 = .ok (.invokevirtual 56, 3) := by decide +kernel
theorem dL_law_341 : decode code 341 = .ok (.aload_n 2, 1) := by decide +kernel
theorem dL_law_342 : decode code 342 = .ok (.aload_n 0, 1) := by decide +kernel
theorem dL_law_343 : decode code 343 = .ok (.iload_n 3, 1) := by decide +kernel
theorem dL_law_344 : decode code 344 = .ok (.iconst 1, 1) := by decide +kernel
theorem dL_law_345 : decode code 345 = .ok (.iadd, 1) := by decide +kernel
theorem dL_law_346 : decode code 346 = .ok (.iaload, 1) := by decide +kernel
theorem dL_law_347 : decode code 347 = .ok (.aload_n 0, 1) := by decide +kernel
theorem dL_law_348 : decode code 348 = .ok (.iload_n 3, 1) := by decide +kernel
theorem dL_law_349 : decode code 349 = .ok (.iconst 2, 1) := by decide +kernel
theorem dL_law_350 : decode code 350 = .ok (.iadd, 1) := by decide +kernel
theorem dL_law_351 : decode code 351 = .ok (.iaload, 1) := by decide +kernel
theorem dL_law_352 : decode code 352 = .ok (.aload_n 0, 1) := by decide +kernel
theorem dL_law_353 : decode code 353 = .ok (.iload_n 3, 1) := by decide +kernel
theorem dL_law_354 : decode code 354 = .ok (.iconst 3, 1) := by decide +kernel
theorem dL_law_355 : decode code 355 = .ok (.iadd, 1) := by decide +kernel
theorem dL_law_356 : decode code 356 = .ok (.iaload, 1) := by decide +kernel
theorem dL_law_357 : decode code 357 = .ok (.invokevirtual 60, 3) := by decide +kernel
theorem dL_law_360 : decode code 360 = .ok (.if_icmp .eq 160, 3) := by decide +kernel
theorem dL_law_363 : decode code 363 = .ok (.iconst 0, 1) := by decide +kernel
theorem dL_law_364 : decode code 364 = .ok (.ireturn, 1) := by decide +kernel
theorem dL_law_365 : decode code 365 = .ok (.aload_n 1, 1) := by decide +kernel
theorem dL_law_366 : decode code 366 = .ok (.aload_n 0, 1) := by decide +kernel
theorem dL_law_367 : decode code 367 = .ok (.iload_n 3, 1) := by decide +kernel
theorem dL_law_368 : decode code 368 = .ok (.iconst 1, 1) := by decide +kernel
theorem dL_law_369 : decode code 369 = .ok (.iadd, 1) := by decide +kernel
theorem dL_law_370 : decode code 370 = .ok (.iaload, 1) := by decide +kernel
theorem dL_law_371 : decode code 371 = .ok (.aload_n 0, 1) := by decide +kernel
theorem dL_law_372 : decode code 372 = .ok (.iload_n 3, 1) := by decide +kernel
theorem dL_law_373 : decode code 373 = .ok (.iconst 2, 1) := by decide +kernel
theorem dL_law_374 : decode code 374 = .ok (.iadd, 1) := by decide +kernel
theorem dL_law_375 : decode code 375 = .ok (.iaload, 1) := by decide +kernel
theorem dL_law_376 : decode code 376 = .ok (.aload_n 0, 1) := by decide +kernel
theorem dL_law_377 : decode code 377 = .ok (.iload_n 3, 1) := by decide +kernel
theorem dL_law_378 : decode code 378 = .ok (.iconst 3, 1) := by decide +kernel
theorem dL_law_379 : decode code 379 = .ok (.iadd, 1) := by decide +kernel
theorem dL_law_380 : decode code 380 = .ok (.iaload, 1) := by decide +kernel
theorem dL_law_381 : decode code 381 = .ok (.invokevirtual 61, 3) := by decide +kernel
theorem dL_law_384 : decode code 384 = .ok (.aload_n 2, 1) := by decide +kernel
theorem dL_law_385 : decode code 385 = .ok (.aload_n 0, 1) := by decide +kernel
theorem dL_law_386 : decode code 386 = .ok (.iload_n 3, 1) := by decide +kernel
theorem dL_law_387 : decode code 387 = .ok (.iconst 1, 1) := by decide +kernel
theorem dL_law_388 : decode code 388 = .ok (.iadd, 1) := by decide +kernel
theorem dL_law_389 : decode code 389 = .ok (.iaload, 1) := by decide +kernel
theorem dL_law_390 : decode code 390 = .ok (.aload_n 0, 1) := by decide +kernel
theorem dL_law_391 : decode code 391 = .ok (.iload_n 3, 1) := by decide +kernel
theorem dL_law_392 : decode code 392 = .ok (.iconst 2, 1) := by decide +kernel
theorem dL_law_393 : decode code 393 = .ok (.iadd, 1) := by decide +kernel
theorem dL_law_394 : decode code 394 = .ok (.iaload, 1) := by decide +kernel
theorem dL_law_395 : decode code 395 = .ok (.aload_n 0, 1) := by decide +kernel
theorem dL_law_396 : decode code 396 = .ok (.iload_n 3, 1) := by decide +kernel
theorem dL_law_397 : decode code 397 = .ok (.iconst 3, 1) := by decide +kernel
theorem dL_law_398 : decode code 398 = .ok (.iadd, 1) := by decide +kernel
theorem dL_law_399 : decode code 399 = .ok (.iaload, 1) := by decide +kernel
theorem dL_law_400 : decode code 400 = .ok (.invokevirtual 64, 3) := by decide +kernel
theorem dL_law_403 : decode code 403 = .ok (.if_icmp .eq 117, 3) := by decide +kernel
theorem dL_law_406 : decode code 406 = .ok (.iconst 0, 1) := by decide +kernel
theorem dL_law_407 : decode code 407 = .ok (.ireturn, 1) := by decide +kernel
theorem dL_law_408 : decode code 408 = .ok (.aload_n 1, 1) := by decide +kernel
theorem dL_law_409 : decode code 409 = .ok (.aload_n 0, 1) := by decide +kernel
theorem dL_law_410 : decode code 410 = .ok (.iload_n 3, 1) := by decide +kernel
theorem dL_law_411 : decode code 411 = .ok (.iconst 1, 1) := by decide +kernel
theorem dL_law_412 : decode code 412 = .ok (.iadd, 1) := by decide +kernel
theorem dL_law_413 : decode code 413 = .ok (.iaload, 1) := by decide +kernel
theorem dL_law_414 : decode code 414 = .ok (.aload_n 0, 1) := by decide +kernel
theorem dL_law_415 : decode code 415 = .ok (.iload_n 3, 1) := by decide +kernel
theorem dL_law_416 : decode code 416 = .ok (.iconst 2, 1) := by decide +kernel
theorem dL_law_417 : decode code 417 = .ok (.iadd, 1) := by decide +kernel
theorem dL_law_418 : decode code 418 = .ok (.iaload, 1) := by decide +kernel
theorem dL_law_419 : decode code 419 = .ok (.invokevirtual 65, 3) := by decide +kernel
theorem dL_law_422 : decode code 422 = .ok (.aload_n 2, 1) := by decide +kernel
theorem dL_law_423 : decode code 423 = .ok (.aload_n 0, 1) := by decide +kernel
theorem dL_law_424 : decode code 424 = .ok (.iload_n 3, 1) := by decide +kernel
theorem dL_law_425 : decode code 425 = .ok (.iconst 1, 1) := by decide +kernel
theorem dL_law_426 : decode code 426 = .ok (.iadd, 1) := by decide +kernel
theorem dL_law_427 : decode code 427 = .ok (.iaload, 1) := by decide +kernel
theorem dL_law_428 : decode code 428 = .ok (.aload_n 0, 1) := by decide +kernel
theorem dL_law_429 : decode code 429 = .ok (.iload_n 3, 1) := by decide +kernel
theorem dL_law_430 : decode code 430 = .ok (.iconst 2, 1) := by decide +kernel
theorem dL_law_431 : decode code 431 = .ok (.iadd, 1) := by decide +kernel
theorem dL_law_432 : decode code 432 = .ok (.iaload, 1) := by decide +kernel
theorem dL_law_433 : decode code 433 = .ok (.invokevirtual 68, 3) := by decide +kernel
theorem dL_law_436 : decode code 436 = .ok (.if_icmp .eq 84, 3) := by decide +kernel
theorem dL_law_439 : decode code 439 = .ok (.iconst 0, 1) := by decide +kernel
theorem dL_law_440 : decode code 440 = .ok (.ireturn, 1) := by decide +kernel
theorem dL_law_441 : decode code 441 = .ok (.aload_n 1, 1) := by decide +kernel
theorem dL_law_442 : decode code 442 = .ok (.aload_n 0, 1) := by decide +kernel
theorem dL_law_443 : decode code 443 = .ok (.iload_n 3, 1) := by decide +kernel
theorem dL_law_444 : decode code 444 = .ok (.iconst 1, 1) := by decide +kernel
theorem dL_law_445 : decode code 445 = .ok (.iadd, 1) := by decide +kernel
theorem dL_law_446 : decode code 446 = .ok (.iaload, 1) := by decide +kernel
theorem dL_law_447 : decode code 447 = .ok (.invokevirtual 69, 3) := by decide +kernel
theorem dL_law_450 : decode code 450 = .ok (.aload_n 2, 1) := by decide +kernel
theorem dL_law_451 : decode code 451 = .ok (.aload_n 0, 1) := by decide +kernel
theorem dL_law_452 : decode code 452 = .ok (.iload_n 3, 1) := by decide +kernel
theorem dL_law_453 : decode code 453 = .ok (.iconst 1, 1) := by decide +kernel
theorem dL_law_454 : decode code 454 = .ok (.iadd, 1) := by decide +kernel
theorem dL_law_455 : decode code 455 = .ok (.iaload, 1) := by decide +kernel
theorem dL_law_456 : decode code 456 = .ok (.invokevirtual 72, 3) := by decide +kernel
theorem dL_law_459 : decode code 459 = .ok (.if_icmp .eq 61, 3) := by decide +kernel
theorem dL_law_462 : decode code 462 = .ok (.iconst 0, 1) := by decide +kernel
theorem dL_law_463 : decode code 463 = .ok (.ireturn, 1) := by decide +kernel
theorem dL_law_464 : decode code 464 = .ok (.aload_n 1, 1) := by decide +kernel
theorem dL_law_465 : decode code 465 = .ok (.aload_n 0, 1) := by decide +kernel
theorem dL_law_466 : decode code 466 = .ok (.iload_n 3, 1) := by decide +kernel
theorem dL_law_467 : decode code 467 = .ok (.iconst 1, 1) := by decide +kernel
theorem dL_law_468 : decode code 468 = .ok (.iadd, 1) := by decide +kernel
theorem dL_law_469 : decode code 469 = .ok (.iaload, 1) := by decide +kernel
theorem dL_law_470 : decode code 470 = .ok (.aload_n 0, 1) := by decide +kernel
theorem dL_law_471 : decode code 471 = .ok (.iload_n 3, 1) := by decide +kernel
theorem dL_law_472 : decode code 472 = .ok (.iconst 2, 1) := by decide +kernel
theorem dL_law_473 : decode code 473 = .ok (.iadd, 1) := by decide +kernel
theorem dL_law_474 : decode code 474 = .ok (.iaload, 1) := by decide +kernel
theorem dL_law_475 : decode code 475 = .ok (.invokevirtual 73, 3) := by decide +kernel
theorem dL_law_478 : decode code 478 = .ok (.aload_n 2, 1) := by decide +kernel
theorem dL_law_479 : decode code 479 = .ok (.aload_n 0, 1) := by decide +kernel
theorem dL_law_480 : decode code 480 = .ok (.iload_n 3, 1) := by decide +kernel
theorem dL_law_481 : decode code 481 = .ok (.iconst 1, 1) := by decide +kernel
theorem dL_law_482 : decode code 482 = .ok (.iadd, 1) := by decide +kernel
theorem dL_law_483 : decode code 483 = .ok (.iaload, 1) := by decide +kernel
theorem dL_law_484 : decode code 484 = .ok (.aload_n 0, 1) := by decide +kernel
theorem dL_law_485 : decode code 485 = .ok (.iload_n 3, 1) := by decide +kernel
theorem dL_law_486 : decode code 486 = .ok (.iconst 2, 1) := by decide +kernel
theorem dL_law_487 : decode code 487 = .ok (.iadd, 1) := by decide +kernel
theorem dL_law_488 : decode code 488 = .ok (.iaload, 1) := by decide +kernel
theorem dL_law_489 : decode code 489 = .ok (.invokevirtual 76, 3) := by decide +kernel
theorem dL_law_492 : decode code 492 = .ok (.if_icmp .eq 28, 3) := by decide +kernel
theorem dL_law_495 : decode code 495 = .ok (.iconst 0, 1) := by decide +kernel
theorem dL_law_496 : decode code 496 = .ok (.ireturn, 1) := by decide +kernel
theorem dL_law_497 : decode code 497 = .ok (.aload_n 1, 1) := by decide +kernel
theorem dL_law_498 : decode code 498 = .ok (.aload_n 0, 1) := by decide +kernel
theorem dL_law_499 : decode code 499 = .ok (.iload_n 3, 1) := by decide +kernel
theorem dL_law_500 : decode code 500 = .ok (.iconst 1, 1) := by decide +kernel
theorem dL_law_501 : decode code 501 = .ok (.iadd, 1) := by decide +kernel
theorem dL_law_502 : decode code 502 = .ok (.iaload, 1) := by decide +kernel
theorem dL_law_503 : decode code 503 = .ok (.invokevirtual 77, 3) := by decide +kernel
theorem dL_law_506 : decode code 506 = .ok (.aload_n 2, 1) := by decide +kernel
theorem dL_law_507 : decode code 507 = .ok (.aload_n 0, 1) := by decide +kernel
theorem dL_law_508 : decode code 508 = .ok (.iload_n 3, 1) := by decide +kernel
theorem dL_law_509 : decode code 509 = .ok (.iconst 1, 1) := by decide +kernel
theorem dL_law_510 : decode code 510 = .ok (.iadd, 1) := by decide +kernel
theorem dL_law_511 : decode code 511 = .ok (.iaload, 1) := by decide +kernel
theorem dL_law_512 : decode code 512 = .ok (.invokevirtual 80, 3) := by decide +kernel
theorem dL_law_515 : decode code 515 = .ok (.if_icmp .eq 5, 3) := by decide +kernel
theorem dL_law_518 : decode code 518 = .ok (.iconst 0, 1) := by decide +kernel
theorem dL_law_519 : decode code 519 = .ok (.ireturn, 1) := by decide +kernel
theorem dL_law_520 : decode code 520 = .ok (.iinc 3 4, 3) := by decide +kernel
theorem dL_law_523 : decode code 523 = .ok (.goto (-505), 3) := by decide +kernel
theorem dL_law_526 : decode code 526 = .ok (.iconst 1, 1) := by decide +kernel
theorem dL_law_527 : decode code 527 = .ok (.ireturn, 1) := by decide +kernel
