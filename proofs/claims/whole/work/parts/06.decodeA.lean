theorem dX0_init_0 : decode cX0_init 0 = .ok (.aload_n 0, 1) := by decide +kernel
theorem dX0_init_1 : decode cX0_init 1 = .ok (.invokespecial 3, 3) := by decide +kernel
theorem dX0_init_4 : decode cX0_init 4 = .ok (.aload_n 0, 1) := by decide +kernel
theorem dX0_init_5 : decode cX0_init 5 = .ok (.iconst 0, 1) := by decide +kernel
theorem dX0_init_6 : decode cX0_init 6 = .ok (.putfield 9, 3) := by decide +kernel
theorem dX0_init_9 : decode cX0_init 9 = .ok (.aload_n 0, 1) := by decide +kernel
theorem dX0_init_10 : decode cX0_init 10 = .ok (.bipush 12, 2) := by decide +kernel
theorem dX0_init_12 : decode cX0_init 12 = .ok (.newarray .int, 2) := by decide +kernel
theorem dX0_init_14 : decode cX0_init 14 = .ok (.putfield 15, 3) := by decide +kernel
theorem dX0_init_17 : decode cX0_init 17 = .ok (.aload_n 0, 1) := by decide +kernel
theorem dX0_init_18 : decode cX0_init 18 = .ok (.bipush 12, 2) := by decide +kernel
theorem dX0_init_20 : decode cX0_init 20 = .ok (.newarray .int, 2) := by decide +kernel
theorem dX0_init_22 : decode cX0_init 22 = .ok (.putfield 19, 3) := by decide +kernel
theorem dX0_init_25 : decode cX0_init 25 = .ok (.aload_n 0, 1) := by decide +kernel
theorem dX0_init_26 : decode cX0_init 26 = .ok (.iconst 0, 1) := by decide +kernel
theorem dX0_init_27 : decode cX0_init 27 = .ok (.putfield 22, 3) := by decide +kernel
theorem dX0_init_30 : decode cX0_init 30 = .ok (.aload_n 0, 1) := by decide +kernel
theorem dX0_init_31 : decode cX0_init 31 = .ok (.iconst 0, 1) := by decide +kernel
theorem dX0_init_32 : decode cX0_init 32 = .ok (.putfield 25, 3) := by decide +kernel
theorem dX0_init_35 : decode cX0_init 35 = .ok (.aload_n 0, 1) := by decide +kernel
theorem dX0_init_36 : decode cX0_init 36 = .ok (.bipush 8, 2) := by decide +kernel
theorem dX0_init_38 : decode cX0_init 38 = .ok (.newarray .int, 2) := by decide +kernel
theorem dX0_init_40 : decode cX0_init 40 = .ok (.putfield 28, 3) := by decide +kernel
theorem dX0_init_43 : decode cX0_init 43 = .ok (.aload_n 0, 1) := by decide +kernel
theorem dX0_init_44 : decode cX0_init 44 = .ok (.bipush 8, 2) := by decide +kernel
theorem dX0_init_46 : decode cX0_init 46 = .ok (.newarray .int, 2) := by decide +kernel
theorem dX0_init_48 : decode cX0_init 48 = .ok (.putfield 31, 3) := by decide +kernel
theorem dX0_init_51 : decode cX0_init 51 = .ok (.aload_n 0, 1) := by decide +kernel
theorem dX0_init_52 : decode cX0_init 52 = .ok (.bipush 8, 2) := by decide +kernel
theorem dX0_init_54 : decode cX0_init 54 = .ok (.newarray .int, 2) := by decide +kernel
theorem dX0_init_56 : decode cX0_init 56 = .ok (.putfield 34, 3) := by decide +kernel
theorem dX0_init_59 : decode cX0_init 59 = .ok (.return_, 1) := by decide +kernel
theorem dX0_clear_0 : decode cX0_clear 0 = .ok (.aload_n 0, 1) := by decide +kernel
theorem dX0_clear_1 : decode cX0_clear 1 = .ok (.iconst 0, 1) := by decide +kernel
theorem dX0_clear_2 : decode cX0_clear 2 = .ok (.putfield 9, 3) := by decide +kernel
theorem dX0_clear_5 : decode cX0_clear 5 = .ok (.aload_n 0, 1) := by decide +kernel
theorem dX0_clear_6 : decode cX0_clear 6 = .ok (.iconst 0, 1) := by decide +kernel
theorem dX0_clear_7 : decode cX0_clear 7 = .ok (.putfield 22, 3) := by decide +kernel
theorem dX0_clear_10 : decode cX0_clear 10 = .ok (.aload_n 0, 1) := by decide +kernel
theorem dX0_clear_11 : decode cX0_clear 11 = .ok (.iconst 0, 1) := by decide +kernel
theorem dX0_clear_12 : decode cX0_clear 12 = .ok (.putfield 25, 3) := by decide +kernel
theorem dX0_clear_15 : decode cX0_clear 15 = .ok (.return_, 1) := by decide +kernel
theorem dX0_copyFrom_0 : decode cX0_copyFrom 0 = .ok (.aload_n 0, 1) := by decide +kernel
theorem dX0_copyFrom_1 : decode cX0_copyFrom 1 = .ok (.aload_n 1, 1) := by decide +kernel
theorem dX0_copyFrom_2 : decode cX0_copyFrom 2 = .ok (.getfield 9, 3) := by decide +kernel
theorem dX0_copyFrom_5 : decode cX0_copyFrom 5 = .ok (.putfield 9, 3) := by decide +kernel
theorem dX0_copyFrom_8 : decode cX0_copyFrom 8 = .ok (.aload_n 0, 1) := by decide +kernel
theorem dX0_copyFrom_9 : decode cX0_copyFrom 9 = .ok (.aload_n 1, 1) := by decide +kernel
theorem dX0_copyFrom_10 : decode cX0_copyFrom 10 = .ok (.getfield 22, 3) := by decide +kernel
theorem dX0_copyFrom_13 : decode cX0_copyFrom 13 = .ok (.putfield 22, 3) := by decide +kernel
theorem dX0_copyFrom_16 : decode cX0_copyFrom 16 = .ok (.aload_n 0, 1) := by decide +kernel
theorem dX0_copyFrom_17 : decode cX0_copyFrom 17 = .ok (.aload_n 1, 1) := by decide +kernel
theorem dX0_copyFrom_18 : decode cX0_copyFrom 18 = .ok (.getfield 25, 3) := by decide +kernel
theorem dX0_copyFrom_21 : decode cX0_copyFrom 21 = .ok (.putfield 25, 3) := by decide +kernel
theorem dX0_copyFrom_24 : decode cX0_copyFrom 24 = .ok (.iconst 0, 1) := by decide +kernel
theorem dX0_copyFrom_25 : decode cX0_copyFrom 25 = .ok (.istore_n 2, 1) := by decide +kernel
theorem dX0_copyFrom_26 : decode cX0_copyFrom 26 = .ok (.iload_n 2, 1) := by decide +kernel
theorem dX0_copyFrom_27 : decode cX0_copyFrom 27 = .ok (.bipush 12, 2) := by decide +kernel
theorem dX0_copyFrom_29 : decode cX0_copyFrom 29 = .ok (.if_icmp .ge 33, 3) := by decide +kernel
theorem dX0_copyFrom_32 : decode cX0_copyFrom 32 = .ok (.aload_n 0, 1) := by decide +kernel
theorem dX0_copyFrom_33 : decode cX0_copyFrom 33 = .ok (.getfield 15, 3) := by decide +kernel
theorem dX0_copyFrom_36 : decode cX0_copyFrom 36 = .ok (.iload_n 2, 1) := by decide +kernel
theorem dX0_copyFrom_37 : decode cX0_copyFrom 37 = .ok (.aload_n 1, 1) := by decide +kernel
theorem dX0_copyFrom_38 : decode cX0_copyFrom 38 = .ok (.getfield 15, 3) := by decide +kernel
theorem dX0_copyFrom_41 : decode cX0_copyFrom 41 = .ok (.iload_n 2, 1) := by decide +kernel
theorem dX0_copyFrom_42 : decode cX0_copyFrom 42 = .ok (.iaload, 1) := by decide +kernel
theorem dX0_copyFrom_43 : decode cX0_copyFrom 43 = .ok (.iastore, 1) := by decide +kernel
theorem dX0_copyFrom_44 : decode cX0_copyFrom 44 = .ok (.aload_n 0, 1) := by decide +kernel
theorem dX0_copyFrom_45 : decode cX0_copyFrom 45 = .ok (.getfield 19, 3) := by decide +kernel
theorem dX0_copyFrom_48 : decode cX0_copyFrom 48 = .ok (.iload_n 2, 1) := by decide +kernel
theorem dX0_copyFrom_49 : decode cX0_copyFrom 49 = .ok (.aload_n 1, 1) := by decide +kernel
theorem dX0_copyFrom_50 : decode cX0_copyFrom 50 = .ok (.getfield 19, 3) := by decide +kernel
theorem dX0_copyFrom_53 : decode cX0_copyFrom 53 = .ok (.iload_n 2, 1) := by decide +kernel
theorem dX0_copyFrom_54 : decode cX0_copyFrom 54 = .ok (.iaload, 1) := by decide +kernel
theorem dX0_copyFrom_55 : decode cX0_copyFrom 55 = .ok (.iastore, 1) := by decide +kernel
theorem dX0_copyFrom_56 : decode cX0_copyFrom 56 = .ok (.iinc 2 1, 3) := by decide +kernel
theorem dX0_copyFrom_59 : decode cX0_copyFrom 59 = .ok (.goto (-33), 3) := by decide +kernel
theorem dX0_copyFrom_62 : decode cX0_copyFrom 62 = .ok (.iconst 0, 1) := by decide +kernel
theorem dX0_copyFrom_63 : decode cX0_copyFrom 63 = .ok (.istore_n 2, 1) := by decide +kernel
theorem dX0_copyFrom_64 : decode cX0_copyFrom 64 = .ok (.iload_n 2, 1) := by decide +kernel
theorem dX0_copyFrom_65 : decode cX0_copyFrom 65 = .ok (.bipush 8, 2) := by decide +kernel
theorem dX0_copyFrom_67 : decode cX0_copyFrom 67 = .ok (.if_icmp .ge 45, 3) := by decide +kernel
theorem dX0_copyFrom_70 : decode cX0_copyFrom 70 = .ok (.aload_n 0, 1) := by decide +kernel
theorem dX0_copyFrom_71 : decode cX0_copyFrom 71 = .ok (.getfield 28, 3) := by decide +kernel
theorem dX0_copyFrom_74 : decode cX0_copyFrom 74 = .ok (.iload_n 2, 1) := by decide +kernel
theorem dX0_copyFrom_75 : decode cX0_copyFrom 75 = .ok (.aload_n 1, 1) := by decide +kernel
theorem dX0_copyFrom_76 : decode cX0_copyFrom 76 = .ok (.getfield 28, 3) := by decide +kernel
theorem dX0_copyFrom_79 : decode cX0_copyFrom 79 = .ok (.iload_n 2, 1) := by decide +kernel
theorem dX0_copyFrom_80 : decode cX0_copyFrom 80 = .ok (.iaload, 1) := by decide +kernel
theorem dX0_copyFrom_81 : decode cX0_copyFrom 81 = .ok (.iastore, 1) := by decide +kernel
theorem dX0_copyFrom_82 : decode cX0_copyFrom 82 = .ok (.aload_n 0, 1) := by decide +kernel
theorem dX0_copyFrom_83 : decode cX0_copyFrom 83 = .ok (.getfield 31, 3) := by decide +kernel
theorem dX0_copyFrom_86 : decode cX0_copyFrom 86 = .ok (.iload_n 2, 1) := by decide +kernel
theorem dX0_copyFrom_87 : decode cX0_copyFrom 87 = .ok (.aload_n 1, 1) := by decide +kernel
theorem dX0_copyFrom_88 : decode cX0_copyFrom 88 = .ok (.getfield 31, 3) := by decide +kernel
theorem dX0_copyFrom_91 : decode cX0_copyFrom 91 = .ok (.iload_n 2, 1) := by decide +kernel
theorem dX0_copyFrom_92 : decode cX0_copyFrom 92 = .ok (.iaload, 1) := by decide +kernel
theorem dX0_copyFrom_93 : decode cX0_copyFrom 93 = .ok (.iastore, 1) := by decide +kernel
theorem dX0_copyFrom_94 : decode cX0_copyFrom 94 = .ok (.aload_n 0, 1) := by decide +kernel
theorem dX0_copyFrom_95 : decode cX0_copyFrom 95 = .ok (.getfield 34, 3) := by decide +kernel
theorem dX0_copyFrom_98 : decode cX0_copyFrom 98 = .ok (.iload_n 2, 1) := by decide +kernel
theorem dX0_copyFrom_99 : decode cX0_copyFrom 99 = .ok (.aload_n 1, 1) := by decide +kernel
theorem dX0_copyFrom_100 : decode cX0_copyFrom 100 = .ok (.getfield 34, 3) := by decide +kernel
theorem dX0_copyFrom_103 : decode cX0_copyFrom 103 = .ok (.iload_n 2, 1) := by decide +kernel
theorem dX0_copyFrom_104 : decode cX0_copyFrom 104 = .ok (.iaload, 1) := by decide +kernel
theorem dX0_copyFrom_105 : decode cX0_copyFrom 105 = .ok (.iastore, 1) := by decide +kernel
theorem dX0_copyFrom_106 : decode cX0_copyFrom 106 = .ok (.iinc 2 1, 3) := by decide +kernel
theorem dX0_copyFrom_109 : decode cX0_copyFrom 109 = .ok (.goto (-45), 3) := by decide +kernel
theorem dX0_copyFrom_112 : decode cX0_copyFrom 112 = .ok (.return_, 1) := by decide +kernel
theorem dX0_has_0 : decode cX0_has 0 = .ok (.iload_n 1, 1) := by decide +kernel
theorem dX0_has_1 : decode cX0_has 1 = .ok (.iconst 0, 1) := by decide +kernel
theorem dX0_has_2 : decode cX0_has 2 = .ok (.aload_n 0, 1) := by decide +kernel
theorem dX0_has_3 : decode cX0_has 3 = .ok (.getfield 9, 3) := by decide +kernel
theorem dX0_has_6 : decode cX0_has 6 = .ok (.iconst 1, 1) := by decide +kernel
theorem dX0_has_7 : decode cX0_has 7 = .ok (.isub, 1) := by decide +kernel
theorem dX0_has_8 : decode cX0_has 8 = .ok (.invokestatic 37, 3) := by decide +kernel
theorem dX0_has_11 : decode cX0_has 11 = .ok (.ireturn, 1) := by decide +kernel
theorem dX0_high_0 : decode cX0_high 0 = .ok (.iconst 0, 1) := by decide +kernel
theorem dX0_high_1 : decode cX0_high 1 = .ok (.istore_n 1, 1) := by decide +kernel
theorem dX0_high_2 : decode cX0_high 2 = .ok (.iconst 0, 1) := by decide +kernel
theorem dX0_high_3 : decode cX0_high 3 = .ok (.istore_n 2, 1) := by decide +kernel
theorem dX0_high_4 : decode cX0_high 4 = .ok (.iload_n 2, 1) := by decide +kernel
theorem dX0_high_5 : decode cX0_high 5 = .ok (.aload_n 0, 1) := by decide +kernel
theorem dX0_high_6 : decode cX0_high 6 = .ok (.getfield 9, 3) := by decide +kernel
theorem dX0_high_9 : decode cX0_high 9 = .ok (.if_icmp .ge 18, 3) := by decide +kernel
theorem dX0_high_12 : decode cX0_high 12 = .ok (.iload_n 1, 1) := by decide +kernel
theorem dX0_high_13 : decode cX0_high 13 = .ok (.aload_n 0, 1) := by decide +kernel
theorem dX0_high_14 : decode cX0_high 14 = .ok (.getfield 15, 3) := by decide +kernel
theorem dX0_high_17 : decode cX0_high 17 = .ok (.iload_n 2, 1) := by decide +kernel
theorem dX0_high_18 : decode cX0_high 18 = .ok (.iaload, 1) := by decide +kernel
theorem dX0_high_19 : decode cX0_high 19 = .ok (.iadd, 1) := by decide +kernel
theorem dX0_high_20 : decode cX0_high 20 = .ok (.istore_n 1, 1) := by decide +kernel
theorem dX0_high_21 : decode cX0_high 21 = .ok (.iinc 2 1, 3) := by decide +kernel
theorem dX0_high_24 : decode cX0_high 24 = .ok (.goto (-20), 3) := by decide +kernel
theorem dX0_high_27 : decode cX0_high 27 = .ok (.iload_n 1, 1) := by decide +kernel
theorem dX0_high_28 : decode cX0_high 28 = .ok (.ireturn, 1) := by decide +kernel
theorem dX0_load_0 : decode cX0_load 0 = .ok (.iconst 0, 1) := by decide +kernel
theorem dX0_load_1 : decode cX0_load 1 = .ok (.istore_n 2, 1) := by decide +kernel
theorem dX0_load_2 : decode cX0_load 2 = .ok (.iconst 0, 1) := by decide +kernel
theorem dX0_load_3 : decode cX0_load 3 = .ok (.istore_n 3, 1) := by decide +kernel
theorem dX0_load_4 : decode cX0_load 4 = .ok (.iload_n 3, 1) := by decide +kernel
theorem dX0_load_5 : decode cX0_load 5 = .ok (.aload_n 0, 1) := by decide +kernel
theorem dX0_load_6 : decode cX0_load 6 = .ok (.getfield 9, 3) := by decide +kernel
theorem dX0_load_9 : decode cX0_load 9 = .ok (.if_icmp .ge 25, 3) := by decide +kernel
theorem dX0_load_12 : decode cX0_load 12 = .ok (.iload_n 2, 1) := by decide +kernel
theorem dX0_load_13 : decode cX0_load 13 = .ok (.aload_n 0, 1) := by decide +kernel
theorem dX0_load_14 : decode cX0_load 14 = .ok (.getfield 15, 3) := by decide +kernel
theorem dX0_load_17 : decode cX0_load 17 = .ok (.iload_n 3, 1) := by decide +kernel
theorem dX0_load_18 : decode cX0_load 18 = .ok (.iaload, 1) := by decide +kernel
theorem dX0_load_19 : decode cX0_load 19 = .ok (.aload_n 1, 1) := by decide +kernel
theorem dX0_load_20 : decode cX0_load 20 = .ok (.getfield 41, 3) := by decide +kernel
theorem dX0_load_23 : decode cX0_load 23 = .ok (.iload_n 3, 1) := by decide +kernel
theorem dX0_load_24 : decode cX0_load 24 = .ok (.iaload, 1) := by decide +kernel
theorem dX0_load_25 : decode cX0_load 25 = .ok (.imul, 1) := by decide +kernel
theorem dX0_load_26 : decode cX0_load 26 = .ok (.iadd, 1) := by decide +kernel
theorem dX0_load_27 : decode cX0_load 27 = .ok (.istore_n 2, 1) := by decide +kernel
theorem dX0_load_28 : decode cX0_load 28 = .ok (.iinc 3 1, 3) := by decide +kernel
theorem dX0_load_31 : decode cX0_load 31 = .ok (.goto (-27), 3) := by decide +kernel
theorem dX0_load_34 : decode cX0_load 34 = .ok (.iload_n 2, 1) := by decide +kernel
theorem dX0_load_35 : decode cX0_load 35 = .ok (.ireturn, 1) := by decide +kernel
theorem dX0_comeIn_0 : decode cX0_comeIn 0 = .ok (.aload_n 0, 1) := by decide +kernel
theorem dX0_comeIn_1 : decode cX0_comeIn 1 = .ok (.getfield 9, 3) := by decide +kernel
theorem dX0_comeIn_4 : decode cX0_comeIn 4 = .ok (.bipush 12, 2) := by decide +kernel
theorem dX0_comeIn_6 : decode cX0_comeIn 6 = .ok (.if_icmp .ge 33, 3) := by decide +kernel
theorem dX0_comeIn_9 : decode cX0_comeIn 9 = .ok (.aload_n 0, 1) := by decide +kernel
theorem dX0_comeIn_10 : decode cX0_comeIn 10 = .ok (.getfield 15, 3) := by decide +kernel
theorem dX0_comeIn_13 : decode cX0_comeIn 13 = .ok (.aload_n 0, 1) := by decide +kernel
theorem dX0_comeIn_14 : decode cX0_comeIn 14 = .ok (.getfield 9, 3) := by decide +kernel
theorem dX0_comeIn_17 : decode cX0_comeIn 17 = .ok (.iload_n 1, 1) := by decide +kernel
theorem dX0_comeIn_18 : decode cX0_comeIn 18 = .ok (.iastore, 1) := by decide +kernel
theorem dX0_comeIn_19 : decode cX0_comeIn 19 = .ok (.aload_n 0, 1) := by decide +kernel
theorem dX0_comeIn_20 : decode cX0_comeIn 20 = .ok (.getfield 19, 3) := by decide +kernel
theorem dX0_comeIn_23 : decode cX0_comeIn 23 = .ok (.aload_n 0, 1) := by decide +kernel
theorem dX0_comeIn_24 : decode cX0_comeIn 24 = .ok (.getfield 9, 3) := by decide +kernel
theorem dX0_comeIn_27 : decode cX0_comeIn 27 = .ok (.iload_n 2, 1) := by decide +kernel
theorem dX0_comeIn_28 : decode cX0_comeIn 28 = .ok (.iastore, 1) := by decide +kernel
theorem dX0_comeIn_29 : decode cX0_comeIn 29 = .ok (.aload_n 0, 1) := by decide +kernel
theorem dX0_comeIn_30 : decode cX0_comeIn 30 = .ok (.dup, 1) := by decide +kernel
theorem dX0_comeIn_31 : decode cX0_comeIn 31 = .ok (.getfield 9, 3) := by decide +kernel
theorem dX0_comeIn_34 : decode cX0_comeIn 34 = .ok (.iconst 1, 1) := by decide +kernel
theorem dX0_comeIn_35 : decode cX0_comeIn 35 = .ok (.iadd, 1) := by decide +kernel
theorem dX0_comeIn_36 : decode cX0_comeIn 36 = .ok (.putfield 9, 3) := by decide +kernel
theorem dX0_comeIn_39 : decode cX0_comeIn 39 = .ok (.return_, 1) := by decide +kernel
theorem dX0_doorOf_0 : decode cX0_doorOf 0 = .ok (.iconst 3, 1) := by decide +kernel
theorem dX0_doorOf_1 : decode cX0_doorOf 1 = .ok (.iload_n 1, 1) := by decide +kernel
theorem dX0_doorOf_2 : decode cX0_doorOf 2 = .ok (.imul, 1) := by decide +kernel
theorem dX0_doorOf_3 : decode cX0_doorOf 3 = .ok (.iconst 1, 1) := by decide +kernel
theorem dX0_doorOf_4 : decode cX0_doorOf 4 = .ok (.aload_n 0, 1) := by decide +kernel
theorem dX0_doorOf_5 : decode cX0_doorOf 5 = .ok (.getfield 9, 3) := by decide +kernel
theorem dX0_doorOf_8 : decode cX0_doorOf 8 = .ok (.invokestatic 46, 3) := by decide +kernel
theorem dX0_doorOf_11 : decode cX0_doorOf 11 = .ok (.idiv, 1) := by decide +kernel
theorem dX0_doorOf_12 : decode cX0_doorOf 12 = .ok (.ireturn, 1) := by decide +kernel
theorem dX0_melt_0 : decode cX0_melt 0 = .ok (.iconst 0, 1) := by decide +kernel
theorem dX0_melt_1 : decode cX0_melt 1 = .ok (.istore_n 3, 1) := by decide +kernel
theorem dX0_melt_2 : decode cX0_melt 2 = .ok (.iconst 0, 1) := by decide +kernel
theorem dX0_melt_3 : decode cX0_melt 3 = .ok (.istore 4, 2) := by decide +kernel
theorem dX0_melt_5 : decode cX0_melt 5 = .ok (.iload 4, 2) := by decide +kernel
theorem dX0_melt_7 : decode cX0_melt 7 = .ok (.aload_n 0, 1) := by decide +kernel
theorem dX0_melt_8 : decode cX0_melt 8 = .ok (.getfield 9, 3) := by decide +kernel
theorem dX0_melt_11 : decode cX0_melt 11 = .ok (.if_icmp .ge 49, 3) := by decide +kernel
theorem dX0_melt_14 : decode cX0_melt 14 = .ok (.aload_n 0, 1) := by decide +kernel
theorem dX0_melt_15 : decode cX0_melt 15 = .ok (.iload 4, 2) := by decide +kernel
theorem dX0_melt_17 : decode cX0_melt 17 = .ok (.invokevirtual 52, 3) := by decide +kernel
theorem dX0_melt_20 : decode cX0_melt 20 = .ok (.iload_n 1, 1) := by decide +kernel
theorem dX0_melt_21 : decode cX0_melt 21 = .ok (.if_icmp .ne 33, 3) := by decide +kernel
theorem dX0_melt_24 : decode cX0_melt 24 = .ok (.aload_n 0, 1) := by decide +kernel
theorem dX0_melt_25 : decode cX0_melt 25 = .ok (.getfield 15, 3) := by decide +kernel
theorem dX0_melt_28 : decode cX0_melt 28 = .ok (.iload 4, 2) := by decide +kernel
theorem dX0_melt_30 : decode cX0_melt 30 = .ok (.iaload, 1) := by decide +kernel
theorem dX0_melt_31 : decode cX0_melt 31 = .ok (.iload_n 2, 1) := by decide +kernel
theorem dX0_melt_32 : decode cX0_melt 32 = .ok (.invokestatic 56, 3) := by decide +kernel
theorem dX0_melt_35 : decode cX0_melt 35 = .ok (.istore 5, 2) := by decide +kernel
theorem dX0_melt_37 : decode cX0_melt 37 = .ok (.aload_n 0, 1) := by decide +kernel
theorem dX0_melt_38 : decode cX0_melt 38 = .ok (.getfield 15, 3) := by decide +kernel
theorem dX0_melt_41 : decode cX0_melt 41 = .ok (.iload 4, 2) := by decide +kernel
theorem dX0_melt_43 : decode cX0_melt 43 = .ok (.dup2, 1) := by decide +kernel
theorem dX0_melt_44 : decode cX0_melt 44 = .ok (.iaload, 1) := by decide +kernel
theorem dX0_melt_45 : decode cX0_melt 45 = .ok (.iload 5, 2) := by decide +kernel
theorem dX0_melt_47 : decode cX0_melt 47 = .ok (.isub, 1) := by decide +kernel
theorem dX0_melt_48 : decode cX0_melt 48 = .ok (.iastore, 1) := by decide +kernel
theorem dX0_melt_49 : decode cX0_melt 49 = .ok (.iload_n 3, 1) := by decide +kernel
theorem dX0_melt_50 : decode cX0_melt 50 = .ok (.iload 5, 2) := by decide +kernel
theorem dX0_melt_52 : decode cX0_melt 52 = .ok (.iadd, 1) := by decide +kernel
theorem dX0_melt_53 : decode cX0_melt 53 = .ok (.istore_n 3, 1) := by decide +kernel
theorem dX0_melt_54 : decode cX0_melt 54 = .ok (.iinc 4 1, 3) := by decide +kernel
theorem dX0_melt_57 : decode cX0_melt 57 = .ok (.goto (-52), 3) := by decide +kernel
theorem dX0_melt_60 : decode cX0_melt 60 = .ok (.iload_n 3, 1) := by decide +kernel
theorem dX0_melt_61 : decode cX0_melt 61 = .ok (.ireturn, 1) := by decide +kernel
theorem dX0_addSale_0 : decode cX0_addSale 0 = .ok (.aload_n 0, 1) := by decide +kernel
theorem dX0_addSale_1 : decode cX0_addSale 1 = .ok (.getfield 25, 3) := by decide +kernel
theorem dX0_addSale_4 : decode cX0_addSale 4 = .ok (.bipush 8, 2) := by decide +kernel
theorem dX0_addSale_6 : decode cX0_addSale 6 = .ok (.if_icmp .lt 7, 3) := by decide +kernel
theorem dX0_addSale_9 : decode cX0_addSale 9 = .ok (.aload_n 0, 1) := by decide +kernel
theorem dX0_addSale_10 : decode cX0_addSale 10 = .ok (.invokevirtual 59, 3) := by decide +kernel
theorem dX0_addSale_13 : decode cX0_addSale 13 = .ok (.aload_n 0, 1) := by decide +kernel
theorem dX0_addSale_14 : decode cX0_addSale 14 = .ok (.getfield 15, 3) := by decide +kernel
theorem dX0_addSale_17 : decode cX0_addSale 17 = .ok (.iload_n 1, 1) := by decide +kernel
theorem dX0_addSale_18 : decode cX0_addSale 18 = .ok (.dup2, 1) := by decide +kernel
theorem dX0_addSale_19 : decode cX0_addSale 19 = .ok (.iaload, 1) := by decide +kernel
theorem dX0_addSale_20 : decode cX0_addSale 20 = .ok (.iload_n 2, 1) := by decide +kernel
theorem dX0_addSale_21 : decode cX0_addSale 21 = .ok (.isub, 1) := by decide +kernel
theorem dX0_addSale_22 : decode cX0_addSale 22 = .ok (.iastore, 1) := by decide +kernel
theorem dX0_addSale_23 : decode cX0_addSale 23 = .ok (.aload_n 0, 1) := by decide +kernel
theorem dX0_addSale_24 : decode cX0_addSale 24 = .ok (.dup, 1) := by decide +kernel
theorem dX0_addSale_25 : decode cX0_addSale 25 = .ok (.getfield 22, 3) := by decide +kernel
theorem dX0_addSale_28 : decode cX0_addSale 28 = .ok (.iload_n 3, 1) := by decide +kernel
theorem dX0_addSale_29 : decode cX0_addSale 29 = .ok (.iadd, 1) := by decide +kernel
theorem dX0_addSale_30 : decode cX0_addSale 30 = .ok (.putfield 22, 3) := by decide +kernel
theorem dX0_addSale_33 : decode cX0_addSale 33 = .ok (.aload_n 0, 1) := by decide +kernel
theorem dX0_addSale_34 : decode cX0_addSale 34 = .ok (.getfield 28, 3) := by decide +kernel
theorem dX0_addSale_37 : decode cX0_addSale 37 = .ok (.aload_n 0, 1) := by decide +kernel
theorem dX0_addSale_38 : decode cX0_addSale 38 = .ok (.getfield 25, 3) := by decide +kernel
theorem dX0_addSale_41 : decode cX0_addSale 41 = .ok (.iload_n 1, 1) := by decide +kernel
theorem dX0_addSale_42 : decode cX0_addSale 42 = .ok (.iastore, 1) := by decide +kernel
theorem dX0_addSale_43 : decode cX0_addSale 43 = .ok (.aload_n 0, 1) := by decide +kernel
theorem dX0_addSale_44 : decode cX0_addSale 44 = .ok (.getfield 31, 3) := by decide +kernel
theorem dX0_addSale_47 : decode cX0_addSale 47 = .ok (.aload_n 0, 1) := by decide +kernel
theorem dX0_addSale_48 : decode cX0_addSale 48 = .ok (.getfield 25, 3) := by decide +kernel
theorem dX0_addSale_51 : decode cX0_addSale 51 = .ok (.iload_n 2, 1) := by decide +kernel
theorem dX0_addSale_52 : decode cX0_addSale 52 = .ok (.iastore, 1) := by decide +kernel
theorem dX0_addSale_53 : decode cX0_addSale 53 = .ok (.aload_n 0, 1) := by decide +kernel
theorem dX0_addSale_54 : decode cX0_addSale 54 = .ok (.getfield 34, 3) := by decide +kernel
theorem dX0_addSale_57 : decode cX0_addSale 57 = .ok (.aload_n 0, 1) := by decide +kernel
theorem dX0_addSale_58 : decode cX0_addSale 58 = .ok (.getfield 25, 3) := by decide +kernel
theorem dX0_addSale_61 : decode cX0_addSale 61 = .ok (.iload_n 3, 1) := by decide +kernel
theorem dX0_addSale_62 : decode cX0_addSale 62 = .ok (.iastore, 1) := by decide +kernel
theorem dX0_addSale_63 : decode cX0_addSale 63 = .ok (.aload_n 0, 1) := by decide +kernel
theorem dX0_addSale_64 : decode cX0_addSale 64 = .ok (.dup, 1) := by decide +kernel
theorem dX0_addSale_65 : decode cX0_addSale 65 = .ok (.getfield 25, 3) := by decide +kernel
theorem dX0_addSale_68 : decode cX0_addSale 68 = .ok (.iconst 1, 1) := by decide +kernel
theorem dX0_addSale_69 : decode cX0_addSale 69 = .ok (.iadd, 1) := by decide +kernel
theorem dX0_addSale_70 : decode cX0_addSale 70 = .ok (.putfield 25, 3) := by decide +kernel
theorem dX0_addSale_73 : decode cX0_addSale 73 = .ok (.return_, 1) := by decide +kernel
theorem dX0_forgetOldestSale_0 : decode cX0_forgetOldestSale 0 = .ok (.iconst 1, 1) := by decide +kernel
theorem dX0_forgetOldestSale_1 : decode cX0_forgetOldestSale 1 = .ok (.istore_n 1, 1) := by decide +kernel
theorem dX0_forgetOldestSale_2 : decode cX0_forgetOldestSale 2 = .ok (.iload_n 1, 1) := by decide +kernel
theorem dX0_forgetOldestSale_3 : decode cX0_forgetOldestSale 3 = .ok (.bipush 8, 2) := by decide +kernel
theorem dX0_forgetOldestSale_5 : decode cX0_forgetOldestSale 5 = .ok (.if_icmp .ge 51, 3) := by decide +kernel
theorem dX0_forgetOldestSale_8 : decode cX0_forgetOldestSale 8 = .ok (.aload_n 0, 1) := by decide +kernel
theorem dX0_forgetOldestSale_9 : decode cX0_forgetOldestSale 9 = .ok (.getfield 28, 3) := by decide +kernel
theorem dX0_forgetOldestSale_12 : decode cX0_forgetOldestSale 12 = .ok (.iload_n 1, 1) := by decide +kernel
theorem dX0_forgetOldestSale_13 : decode cX0_forgetOldestSale 13 = .ok (.iconst 1, 1) := by decide +kernel
theorem dX0_forgetOldestSale_14 : decode cX0_forgetOldestSale 14 = .ok (.isub, 1) := by decide +kernel
theorem dX0_forgetOldestSale_15 : decode cX0_forgetOldestSale 15 = .ok (.aload_n 0, 1) := by decide +kernel
theorem dX0_forgetOldestSale_16 : decode cX0_forgetOldestSale 16 = .ok (.getfield 28, 3) := by decide +kernel
theorem dX0_forgetOldestSale_19 : decode cX0_forgetOldestSale 19 = .ok (.iload_n 1, 1) := by decide +kernel
theorem dX0_forgetOldestSale_20 : decode cX0_forgetOldestSale 20 = .ok (.iaload, 1) := by decide +kernel
theorem dX0_forgetOldestSale_21 : decode cX0_forgetOldestSale 21 = .ok (.iastore, 1) := by decide +kernel
theorem dX0_forgetOldestSale_22 : decode cX0_forgetOldestSale 22 = .ok (.aload_n 0, 1) := by decide +kernel
theorem dX0_forgetOldestSale_23 : decode cX0_forgetOldestSale 23 = .ok (.getfield 31, 3) := by decide +kernel
theorem dX0_forgetOldestSale_26 : decode cX0_forgetOldestSale 26 = .ok (.iload_n 1, 1) := by decide +kernel
theorem dX0_forgetOldestSale_27 : decode cX0_forgetOldestSale 27 = .ok (.iconst 1, 1) := by decide +kernel
theorem dX0_forgetOldestSale_28 : decode cX0_forgetOldestSale 28 = .ok (.isub, 1) := by decide +kernel
theorem dX0_forgetOldestSale_29 : decode cX0_forgetOldestSale 29 = .ok (.aload_n 0, 1) := by decide +kernel
theorem dX0_forgetOldestSale_30 : decode cX0_forgetOldestSale 30 = .ok (.getfield 31, 3) := by decide +kernel
theorem dX0_forgetOldestSale_33 : decode cX0_forgetOldestSale 33 = .ok (.iload_n 1, 1) := by decide +kernel
theorem dX0_forgetOldestSale_34 : decode cX0_forgetOldestSale 34 = .ok (.iaload, 1) := by decide +kernel
theorem dX0_forgetOldestSale_35 : decode cX0_forgetOldestSale 35 = .ok (.iastore, 1) := by decide +kernel
theorem dX0_forgetOldestSale_36 : decode cX0_forgetOldestSale 36 = .ok (.aload_n 0, 1) := by decide +kernel
theorem dX0_forgetOldestSale_37 : decode cX0_forgetOldestSale 37 = .ok (.getfield 34, 3) := by decide +kernel
theorem dX0_forgetOldestSale_40 : decode cX0_forgetOldestSale 40 = .ok (.iload_n 1, 1) := by decide +kernel
theorem dX0_forgetOldestSale_41 : decode cX0_forgetOldestSale 41 = .ok (.iconst 1, 1) := by decide +kernel
theorem dX0_forgetOldestSale_42 : decode cX0_forgetOldestSale 42 = .ok (.isub, 1) := by decide +kernel
theorem dX0_forgetOldestSale_43 : decode cX0_forgetOldestSale 43 = .ok (.aload_n 0, 1) := by decide +kernel
theorem dX0_forgetOldestSale_44 : decode cX0_forgetOldestSale 44 = .ok (.getfield 34, 3) := by decide +kernel
theorem dX0_forgetOldestSale_47 : decode cX0_forgetOldestSale 47 = .ok (.iload_n 1, 1) := by decide +kernel
theorem dX0_forgetOldestSale_48 : decode cX0_forgetOldestSale 48 = .ok (.iaload, 1) := by decide +kernel
theorem dX0_forgetOldestSale_49 : decode cX0_forgetOldestSale 49 = .ok (.iastore, 1) := by decide +kernel
theorem dX0_forgetOldestSale_50 : decode cX0_forgetOldestSale 50 = .ok (.iinc 1 1, 3) := by decide +kernel
theorem dX0_forgetOldestSale_53 : decode cX0_forgetOldestSale 53 = .ok (.goto (-51), 3) := by decide +kernel
theorem dX0_forgetOldestSale_56 : decode cX0_forgetOldestSale 56 = .ok (.aload_n 0, 1) := by decide +kernel
theorem dX0_forgetOldestSale_57 : decode cX0_forgetOldestSale 57 = .ok (.bipush 7, 2) := by decide +kernel
theorem dX0_forgetOldestSale_59 : decode cX0_forgetOldestSale 59 = .ok (.putfield 25, 3) := by decide +kernel
theorem dX0_forgetOldestSale_62 : decode cX0_forgetOldestSale 62 = .ok (.return_, 1) := by decide +kernel
theorem dX0_takeSaleBack_0 : decode cX0_takeSaleBack 0 = .ok (.aload_n 0, 1) := by decide +kernel
theorem dX0_takeSaleBack_1 : decode cX0_takeSaleBack 1 = .ok (.getfield 25, 3) := by decide +kernel
theorem dX0_takeSaleBack_4 : decode cX0_takeSaleBack 4 = .ok (.ifCond .ne 6, 3) := by decide +kernel
theorem dX0_takeSaleBack_7 : decode cX0_takeSaleBack 7 = .ok (.bipush (-2), 2) := by decide +kernel
theorem dX0_takeSaleBack_9 : decode cX0_takeSaleBack 9 = .ok (.ireturn, 1) := by decide +kernel
theorem dX0_takeSaleBack_10 : decode cX0_takeSaleBack 10 = .ok (.aload_n 0, 1) := by decide +kernel
theorem dX0_takeSaleBack_11 : decode cX0_takeSaleBack 11 = .ok (.dup, 1) := by decide +kernel
theorem dX0_takeSaleBack_12 : decode cX0_takeSaleBack 12 = .ok (.getfield 25, 3) := by decide +kernel
theorem dX0_takeSaleBack_15 : decode cX0_takeSaleBack 15 = .ok (.iconst 1, 1) := by decide +kernel
theorem dX0_takeSaleBack_16 : decode cX0_takeSaleBack 16 = .ok (.isub, 1) := by decide +kernel
theorem dX0_takeSaleBack_17 : decode cX0_takeSaleBack 17 = .ok (.putfield 25, 3) := by decide +kernel
theorem dX0_takeSaleBack_20 : decode cX0_takeSaleBack 20 = .ok (.aload_n 0, 1) := by decide +kernel
theorem dX0_takeSaleBack_21 : decode cX0_takeSaleBack 21 = .ok (.getfield 15, 3) := by decide +kernel
theorem dX0_takeSaleBack_24 : decode cX0_takeSaleBack 24 = .ok (.aload_n 0, 1) := by decide +kernel
theorem dX0_takeSaleBack_25 : decode cX0_takeSaleBack 25 = .ok (.getfield 28, 3) := by decide +kernel
theorem dX0_takeSaleBack_28 : decode cX0_takeSaleBack 28 = .ok (.aload_n 0, 1) := by decide +kernel
theorem dX0_takeSaleBack_29 : decode cX0_takeSaleBack 29 = .ok (.getfield 25, 3) := by decide +kernel
theorem dX0_takeSaleBack_32 : decode cX0_takeSaleBack 32 = .ok (.iaload, 1) := by decide +kernel
theorem dX0_takeSaleBack_33 : decode cX0_takeSaleBack 33 = .ok (.dup2, 1) := by decide +kernel
theorem dX0_takeSaleBack_34 : decode cX0_takeSaleBack 34 = .ok (.iaload, 1) := by decide +kernel
theorem dX0_takeSaleBack_35 : decode cX0_takeSaleBack 35 = .ok (.aload_n 0, 1) := by decide +kernel
theorem dX0_takeSaleBack_36 : decode cX0_takeSaleBack 36 = .ok (.getfield 31, 3) := by decide +kernel
theorem dX0_takeSaleBack_39 : decode cX0_takeSaleBack 39 = .ok (.aload_n 0, 1) := by decide +kernel
theorem dX0_takeSaleBack_40 : decode cX0_takeSaleBack 40 = .ok (.getfield 25, 3) := by decide +kernel
theorem dX0_takeSaleBack_43 : decode cX0_takeSaleBack 43 = .ok (.iaload, 1) := by decide +kernel
theorem dX0_takeSaleBack_44 : decode cX0_takeSaleBack 44 = .ok (.iadd, 1) := by decide +kernel
theorem dX0_takeSaleBack_45 : decode cX0_takeSaleBack 45 = .ok (.iastore, 1) := by decide +kernel
theorem dX0_takeSaleBack_46 : decode cX0_takeSaleBack 46 = .ok (.aload_n 0, 1) := by decide +kernel
theorem dX0_takeSaleBack_47 : decode cX0_takeSaleBack 47 = .ok (.dup, 1) := by decide +kernel
theorem dX0_takeSaleBack_48 : decode cX0_takeSaleBack 48 = .ok (.getfield 22, 3) := by decide +kernel
theorem dX0_takeSaleBack_51 : decode cX0_takeSaleBack 51 = .ok (.aload_n 0, 1) := by decide +kernel
theorem dX0_takeSaleBack_52 : decode cX0_takeSaleBack 52 = .ok (.getfield 34, 3) := by decide +kernel
theorem dX0_takeSaleBack_55 : decode cX0_takeSaleBack 55 = .ok (.aload_n 0, 1) := by decide +kernel
theorem dX0_takeSaleBack_56 : decode cX0_takeSaleBack 56 = .ok (.getfield 25, 3) := by decide +kernel
theorem dX0_takeSaleBack_59 : decode cX0_takeSaleBack 59 = .ok (.iaload, 1) := by decide +kernel
theorem dX0_takeSaleBack_60 : decode cX0_takeSaleBack 60 = .ok (.isub, 1) := by decide +kernel
theorem dX0_takeSaleBack_61 : decode cX0_takeSaleBack 61 = .ok (.putfield 22, 3) := by decide +kernel
theorem dX0_takeSaleBack_64 : decode cX0_takeSaleBack 64 = .ok (.aload_n 0, 1) := by decide +kernel
theorem dX0_takeSaleBack_65 : decode cX0_takeSaleBack 65 = .ok (.getfield 31, 3) := by decide +kernel
theorem dX0_takeSaleBack_68 : decode cX0_takeSaleBack 68 = .ok (.aload_n 0, 1) := by decide +kernel
theorem dX0_takeSaleBack_69 : decode cX0_takeSaleBack 69 = .ok (.getfield 25, 3) := by decide +kernel
theorem dX0_takeSaleBack_72 : decode cX0_takeSaleBack 72 = .ok (.iaload, 1) := by decide +kernel
theorem dX0_takeSaleBack_73 : decode cX0_takeSaleBack 73 = .ok (.ireturn, 1) := by decide +kernel
theorem dX1_init_0 : decode cX1_init 0 = .ok (.aload_n 0, 1) := by decide +kernel
theorem dX1_init_1 : decode cX1_init 1 = .ok (.invokespecial 3, 3) := by decide +kernel
theorem dX1_init_4 : decode cX1_init 4 = .ok (.aload_n 0, 1) := by decide +kernel
theorem dX1_init_5 : decode cX1_init 5 = .ok (.bipush 100, 2) := by decide +kernel
theorem dX1_init_7 : decode cX1_init 7 = .ok (.newarray .int, 2) := by decide +kernel
theorem dX1_init_9 : decode cX1_init 9 = .ok (.putfield 9, 3) := by decide +kernel
theorem dX1_init_12 : decode cX1_init 12 = .ok (.aload_n 0, 1) := by decide +kernel
theorem dX1_init_13 : decode cX1_init 13 = .ok (.iconst 0, 1) := by decide +kernel
theorem dX1_init_14 : decode cX1_init 14 = .ok (.putfield 15, 3) := by decide +kernel
theorem dX1_init_17 : decode cX1_init 17 = .ok (.aload_n 0, 1) := by decide +kernel
theorem dX1_init_18 : decode cX1_init 18 = .ok (.iconst 0, 1) := by decide +kernel
theorem dX1_init_19 : decode cX1_init 19 = .ok (.putfield 19, 3) := by decide +kernel
theorem dX1_init_22 : decode cX1_init 22 = .ok (.aload_n 0, 1) := by decide +kernel
theorem dX1_init_23 : decode cX1_init 23 = .ok (.iconst 0, 1) := by decide +kernel
theorem dX1_init_24 : decode cX1_init 24 = .ok (.putfield 22, 3) := by decide +kernel
theorem dX1_init_27 : decode cX1_init 27 = .ok (.aload_n 0, 1) := by decide +kernel
theorem dX1_init_28 : decode cX1_init 28 = .ok (.iconst 0, 1) := by decide +kernel
theorem dX1_init_29 : decode cX1_init 29 = .ok (.putfield 25, 3) := by decide +kernel
theorem dX1_init_32 : decode cX1_init 32 = .ok (.aload_n 0, 1) := by decide +kernel
theorem dX1_init_33 : decode cX1_init 33 = .ok (.iconst 0, 1) := by decide +kernel
theorem dX1_init_34 : decode cX1_init 34 = .ok (.putfield 28, 3) := by decide +kernel
theorem dX1_init_37 : decode cX1_init 37 = .ok (.aload_n 0, 1) := by decide +kernel
theorem dX1_init_38 : decode cX1_init 38 = .ok (.iconst 0, 1) := by decide +kernel
theorem dX1_init_39 : decode cX1_init 39 = .ok (.putfield 31, 3) := by decide +kernel
theorem dX1_init_42 : decode cX1_init 42 = .ok (.return_, 1) := by decide +kernel
theorem dX1_choose_0 : decode cX1_choose 0 = .ok (.aload_n 0, 1) := by decide +kernel
theorem dX1_choose_1 : decode cX1_choose 1 = .ok (.aload_n 3, 1) := by decide +kernel
theorem dX1_choose_2 : decode cX1_choose 2 = .ok (.aload 4, 2) := by decide +kernel
theorem dX1_choose_4 : decode cX1_choose 4 = .ok (.invokevirtual 34, 3) := by decide +kernel
theorem dX1_choose_7 : decode cX1_choose 7 = .ok (.aload_n 0, 1) := by decide +kernel
theorem dX1_choose_8 : decode cX1_choose 8 = .ok (.iconst 0, 1) := by decide +kernel
theorem dX1_choose_9 : decode cX1_choose 9 = .ok (.putfield 25, 3) := by decide +kernel
theorem dX1_choose_12 : decode cX1_choose 12 = .ok (.aload_n 0, 1) := by decide +kernel
theorem dX1_choose_13 : decode cX1_choose 13 = .ok (.iconst (-1), 1) := by decide +kernel
theorem dX1_choose_14 : decode cX1_choose 14 = .ok (.putfield 28, 3) := by decide +kernel
theorem dX1_choose_17 : decode cX1_choose 17 = .ok (.aload_n 0, 1) := by decide +kernel
theorem dX1_choose_18 : decode cX1_choose 18 = .ok (.iconst (-1), 1) := by decide +kernel
theorem dX1_choose_19 : decode cX1_choose 19 = .ok (.putfield 31, 3) := by decide +kernel
theorem dX1_choose_22 : decode cX1_choose 22 = .ok (.iconst 0, 1) := by decide +kernel
theorem dX1_choose_23 : decode cX1_choose 23 = .ok (.istore 5, 2) := by decide +kernel
theorem dX1_choose_25 : decode cX1_choose 25 = .ok (.iload 5, 2) := by decide +kernel
theorem dX1_choose_27 : decode cX1_choose 27 = .ok (.iconst 1, 1) := by decide +kernel
theorem dX1_choose_28 : decode cX1_choose 28 = .ok (.aload_n 3, 1) := by decide +kernel
theorem dX1_choose_29 : decode cX1_choose 29 = .ok (.getfield 38, 3) := by decide +kernel
theorem dX1_choose_32 : decode cX1_choose 32 = .ok (.ishl, 1) := by decide +kernel
theorem dX1_choose_33 : decode cX1_choose 33 = .ok (.if_icmp .ge 63, 3) := by decide +kernel
theorem dX1_choose_36 : decode cX1_choose 36 = .ok (.aload_n 0, 1) := by decide +kernel
theorem dX1_choose_37 : decode cX1_choose 37 = .ok (.getfield 15, 3) := by decide +kernel
theorem dX1_choose_40 : decode cX1_choose 40 = .ok (.iload_n 1, 1) := by decide +kernel
theorem dX1_choose_41 : decode cX1_choose 41 = .ok (.if_icmp .gt 40, 3) := by decide +kernel
theorem dX1_choose_44 : decode cX1_choose 44 = .ok (.aload_n 0, 1) := by decide +kernel
theorem dX1_choose_45 : decode cX1_choose 45 = .ok (.getfield 19, 3) := by decide +kernel
theorem dX1_choose_48 : decode cX1_choose 48 = .ok (.iload_n 2, 1) := by decide +kernel
theorem dX1_choose_49 : decode cX1_choose 49 = .ok (.if_icmp .gt 32, 3) := by decide +kernel
theorem dX1_choose_52 : decode cX1_choose 52 = .ok (.aload_n 0, 1) := by decide +kernel
theorem dX1_choose_53 : decode cX1_choose 53 = .ok (.invokevirtual 43, 3) := by decide +kernel
theorem dX1_choose_56 : decode cX1_choose 56 = .ok (.ifCond .eq 25, 3) := by decide +kernel
theorem dX1_choose_59 : decode cX1_choose 59 = .ok (.aload_n 0, 1) := by decide +kernel
theorem dX1_choose_60 : decode cX1_choose 60 = .ok (.iload 5, 2) := by decide +kernel
theorem dX1_choose_62 : decode cX1_choose 62 = .ok (.putfield 25, 3) := by decide +kernel
theorem dX1_choose_65 : decode cX1_choose 65 = .ok (.aload_n 0, 1) := by decide +kernel
theorem dX1_choose_66 : decode cX1_choose 66 = .ok (.aload_n 0, 1) := by decide +kernel
theorem dX1_choose_67 : decode cX1_choose 67 = .ok (.getfield 22, 3) := by decide +kernel
theorem dX1_choose_70 : decode cX1_choose 70 = .ok (.putfield 28, 3) := by decide +kernel
theorem dX1_choose_73 : decode cX1_choose 73 = .ok (.aload_n 0, 1) := by decide +kernel
theorem dX1_choose_74 : decode cX1_choose 74 = .ok (.aload_n 0, 1) := by decide +kernel
theorem dX1_choose_75 : decode cX1_choose 75 = .ok (.getfield 15, 3) := by decide +kernel
theorem dX1_choose_78 : decode cX1_choose 78 = .ok (.putfield 31, 3) := by decide +kernel
theorem dX1_choose_81 : decode cX1_choose 81 = .ok (.aload_n 0, 1) := by decide +kernel
theorem dX1_choose_82 : decode cX1_choose 82 = .ok (.iload 5, 2) := by decide +kernel
theorem dX1_choose_84 : decode cX1_choose 84 = .ok (.aload_n 3, 1) := by decide +kernel
theorem dX1_choose_85 : decode cX1_choose 85 = .ok (.aload 4, 2) := by decide +kernel
theorem dX1_choose_87 : decode cX1_choose 87 = .ok (.invokevirtual 47, 3) := by decide +kernel
theorem dX1_choose_90 : decode cX1_choose 90 = .ok (.iinc 5 1, 3) := by decide +kernel
theorem dX1_choose_93 : decode cX1_choose 93 = .ok (.goto (-68), 3) := by decide +kernel
theorem dX1_choose_96 : decode cX1_choose 96 = .ok (.return_, 1) := by decide +kernel
theorem dX1_startWithAll_0 : decode cX1_startWithAll 0 = .ok (.aload_n 0, 1) := by decide +kernel
theorem dX1_startWithAll_1 : decode cX1_startWithAll 1 = .ok (.getfield 9, 3) := by decide +kernel
theorem dX1_startWithAll_4 : decode cX1_startWithAll 4 = .ok (.iconst 0, 1) := by decide +kernel
theorem dX1_startWithAll_5 : decode cX1_startWithAll 5 = .ok (.invokestatic 51, 3) := by decide +kernel
theorem dX1_startWithAll_8 : decode cX1_startWithAll 8 = .ok (.aload_n 0, 1) := by decide +kernel
theorem dX1_startWithAll_9 : decode cX1_startWithAll 9 = .ok (.iconst 0, 1) := by decide +kernel
theorem dX1_startWithAll_10 : decode cX1_startWithAll 10 = .ok (.putfield 15, 3) := by decide +kernel
theorem dX1_startWithAll_13 : decode cX1_startWithAll 13 = .ok (.aload_n 0, 1) := by decide +kernel
theorem dX1_startWithAll_14 : decode cX1_startWithAll 14 = .ok (.iconst 0, 1) := by decide +kernel
theorem dX1_startWithAll_15 : decode cX1_startWithAll 15 = .ok (.putfield 19, 3) := by decide +kernel
theorem dX1_startWithAll_18 : decode cX1_startWithAll 18 = .ok (.aload_n 0, 1) := by decide +kernel
theorem dX1_startWithAll_19 : decode cX1_startWithAll 19 = .ok (.iconst 0, 1) := by decide +kernel
theorem dX1_startWithAll_20 : decode cX1_startWithAll 20 = .ok (.putfield 22, 3) := by decide +kernel
theorem dX1_startWithAll_23 : decode cX1_startWithAll 23 = .ok (.iconst 0, 1) := by decide +kernel
theorem dX1_startWithAll_24 : decode cX1_startWithAll 24 = .ok (.istore_n 3, 1) := by decide +kernel
theorem dX1_startWithAll_25 : decode cX1_startWithAll 25 = .ok (.iload_n 3, 1) := by decide +kernel
theorem dX1_startWithAll_26 : decode cX1_startWithAll 26 = .ok (.aload_n 1, 1) := by decide +kernel
theorem dX1_startWithAll_27 : decode cX1_startWithAll 27 = .ok (.getfield 38, 3) := by decide +kernel
theorem dX1_startWithAll_30 : decode cX1_startWithAll 30 = .ok (.if_icmp .ge 31, 3) := by decide +kernel
theorem dX1_startWithAll_33 : decode cX1_startWithAll 33 = .ok (.aload_n 0, 1) := by decide +kernel
theorem dX1_startWithAll_34 : decode cX1_startWithAll 34 = .ok (.aload_n 1, 1) := by decide +kernel
theorem dX1_startWithAll_35 : decode cX1_startWithAll 35 = .ok (.getfield 57, 3) := by decide +kernel
theorem dX1_startWithAll_38 : decode cX1_startWithAll 38 = .ok (.iload_n 3, 1) := by decide +kernel
theorem dX1_startWithAll_39 : decode cX1_startWithAll 39 = .ok (.iaload, 1) := by decide +kernel
theorem dX1_startWithAll_40 : decode cX1_startWithAll 40 = .ok (.aload_n 2, 1) := by decide +kernel
theorem dX1_startWithAll_41 : decode cX1_startWithAll 41 = .ok (.getfield 60, 3) := by decide +kernel
theorem dX1_startWithAll_44 : decode cX1_startWithAll 44 = .ok (.iload_n 3, 1) := by decide +kernel
theorem dX1_startWithAll_45 : decode cX1_startWithAll 45 = .ok (.iaload, 1) := by decide +kernel
theorem dX1_startWithAll_46 : decode cX1_startWithAll 46 = .ok (.aload_n 2, 1) := by decide +kernel
theorem dX1_startWithAll_47 : decode cX1_startWithAll 47 = .ok (.getfield 65, 3) := by decide +kernel
theorem dX1_startWithAll_50 : decode cX1_startWithAll 50 = .ok (.iload_n 3, 1) := by decide +kernel
theorem dX1_startWithAll_51 : decode cX1_startWithAll 51 = .ok (.iaload, 1) := by decide +kernel
theorem dX1_startWithAll_52 : decode cX1_startWithAll 52 = .ok (.invokevirtual 68, 3) := by decide +kernel
theorem dX1_startWithAll_55 : decode cX1_startWithAll 55 = .ok (.iinc 3 1, 3) := by decide +kernel
theorem dX1_startWithAll_58 : decode cX1_startWithAll 58 = .ok (.goto (-33), 3) := by decide +kernel
theorem dX1_startWithAll_61 : decode cX1_startWithAll 61 = .ok (.return_, 1) := by decide +kernel
theorem dX1_isBetter_0 : decode cX1_isBetter 0 = .ok (.aload_n 0, 1) := by decide +kernel
theorem dX1_isBetter_1 : decode cX1_isBetter 1 = .ok (.getfield 22, 3) := by decide +kernel
theorem dX1_isBetter_4 : decode cX1_isBetter 4 = .ok (.aload_n 0, 1) := by decide +kernel
theorem dX1_isBetter_5 : decode cX1_isBetter 5 = .ok (.getfield 28, 3) := by decide +kernel
theorem dX1_isBetter_8 : decode cX1_isBetter 8 = .ok (.if_icmp .gt 25, 3) := by decide +kernel
theorem dX1_isBetter_11 : decode cX1_isBetter 11 = .ok (.aload_n 0, 1) := by decide +kernel
theorem dX1_isBetter_12 : decode cX1_isBetter 12 = .ok (.getfield 22, 3) := by decide +kernel
theorem dX1_isBetter_15 : decode cX1_isBetter 15 = .ok (.aload_n 0, 1) := by decide +kernel
theorem dX1_isBetter_16 : decode cX1_isBetter 16 = .ok (.getfield 28, 3) := by decide +kernel
theorem dX1_isBetter_19 : decode cX1_isBetter 19 = .ok (.if_icmp .ne 18, 3) := by decide +kernel
theorem dX1_isBetter_22 : decode cX1_isBetter 22 = .ok (.aload_n 0, 1) := by decide +kernel
theorem dX1_isBetter_23 : decode cX1_isBetter 23 = .ok (.getfield 15, 3) := by decide +kernel
theorem dX1_isBetter_26 : decode cX1_isBetter 26 = .ok (.aload_n 0, 1) := by decide +kernel
theorem dX1_isBetter_27 : decode cX1_isBetter 27 = .ok (.getfield 31, 3) := by decide +kernel
theorem dX1_isBetter_30 : decode cX1_isBetter 30 = .ok (.if_icmp .le 7, 3) := by decide +kernel
theorem dX1_isBetter_33 : decode cX1_isBetter 33 = .ok (.iconst 1, 1) := by decide +kernel
theorem dX1_isBetter_34 : decode cX1_isBetter 34 = .ok (.goto 4, 3) := by decide +kernel
theorem dX1_isBetter_37 : decode cX1_isBetter 37 = .ok (.iconst 0, 1) := by decide +kernel
theorem dX1_isBetter_38 : decode cX1_isBetter 38 = .ok (.ireturn, 1) := by decide +kernel
theorem dX1_goOn_0 : decode cX1_goOn 0 = .ok (.iconst 0, 1) := by decide +kernel
theorem dX1_goOn_1 : decode cX1_goOn 1 = .ok (.istore 4, 2) := by decide +kernel
theorem dX1_goOn_3 : decode cX1_goOn 3 = .ok (.iload 4, 2) := by decide +kernel
theorem dX1_goOn_5 : decode cX1_goOn 5 = .ok (.aload_n 2, 1) := by decide +kernel
theorem dX1_goOn_6 : decode cX1_goOn 6 = .ok (.getfield 38, 3) := by decide +kernel
theorem dX1_goOn_9 : decode cX1_goOn 9 = .ok (.if_icmp .ge 69, 3) := by decide +kernel
theorem dX1_goOn_12 : decode cX1_goOn 12 = .ok (.iload_n 1, 1) := by decide +kernel
theorem dX1_goOn_13 : decode cX1_goOn 13 = .ok (.iload 4, 2) := by decide +kernel
theorem dX1_goOn_15 : decode cX1_goOn 15 = .ok (.ishr, 1) := by decide +kernel
theorem dX1_goOn_16 : decode cX1_goOn 16 = .ok (.iconst 1, 1) := by decide +kernel
theorem dX1_goOn_17 : decode cX1_goOn 17 = .ok (.iand, 1) := by decide +kernel
theorem dX1_goOn_18 : decode cX1_goOn 18 = .ok (.ifCond .ne 29, 3) := by decide +kernel
theorem dX1_goOn_21 : decode cX1_goOn 21 = .ok (.aload_n 0, 1) := by decide +kernel
theorem dX1_goOn_22 : decode cX1_goOn 22 = .ok (.aload_n 2, 1) := by decide +kernel
theorem dX1_goOn_23 : decode cX1_goOn 23 = .ok (.getfield 57, 3) := by decide +kernel
theorem dX1_goOn_26 : decode cX1_goOn 26 = .ok (.iload 4, 2) := by decide +kernel
theorem dX1_goOn_28 : decode cX1_goOn 28 = .ok (.iaload, 1) := by decide +kernel
theorem dX1_goOn_29 : decode cX1_goOn 29 = .ok (.aload_n 3, 1) := by decide +kernel
theorem dX1_goOn_30 : decode cX1_goOn 30 = .ok (.getfield 60, 3) := by decide +kernel
theorem dX1_goOn_33 : decode cX1_goOn 33 = .ok (.iload 4, 2) := by decide +kernel
theorem dX1_goOn_35 : decode cX1_goOn 35 = .ok (.iaload, 1) := by decide +kernel
theorem dX1_goOn_36 : decode cX1_goOn 36 = .ok (.aload_n 3, 1) := by decide +kernel
theorem dX1_goOn_37 : decode cX1_goOn 37 = .ok (.getfield 65, 3) := by decide +kernel
theorem dX1_goOn_40 : decode cX1_goOn 40 = .ok (.iload 4, 2) := by decide +kernel
theorem dX1_goOn_42 : decode cX1_goOn 42 = .ok (.iaload, 1) := by decide +kernel
theorem dX1_goOn_43 : decode cX1_goOn 43 = .ok (.invokevirtual 72, 3) := by decide +kernel
theorem dX1_goOn_46 : decode cX1_goOn 46 = .ok (.return_, 1) := by decide +kernel
theorem dX1_goOn_47 : decode cX1_goOn 47 = .ok (.aload_n 0, 1) := by decide +kernel
theorem dX1_goOn_48 : decode cX1_goOn 48 = .ok (.aload_n 2, 1) := by decide +kernel
theorem dX1_goOn_49 : decode cX1_goOn 49 = .ok (.getfield 57, 3) := by decide +kernel
theorem dX1_goOn_52 : decode cX1_goOn 52 = .ok (.iload 4, 2) := by decide +kernel
theorem dX1_goOn_54 : decode cX1_goOn 54 = .ok (.iaload, 1) := by decide +kernel
theorem dX1_goOn_55 : decode cX1_goOn 55 = .ok (.aload_n 3, 1) := by decide +kernel
theorem dX1_goOn_56 : decode cX1_goOn 56 = .ok (.getfield 60, 3) := by decide +kernel
theorem dX1_goOn_59 : decode cX1_goOn 59 = .ok (.iload 4, 2) := by decide +kernel
theorem dX1_goOn_61 : decode cX1_goOn 61 = .ok (.iaload, 1) := by decide +kernel
theorem dX1_goOn_62 : decode cX1_goOn 62 = .ok (.aload_n 3, 1) := by decide +kernel
theorem dX1_goOn_63 : decode cX1_goOn 63 = .ok (.getfield 65, 3) := by decide +kernel
theorem dX1_goOn_66 : decode cX1_goOn 66 = .ok (.iload 4, 2) := by decide +kernel
theorem dX1_goOn_68 : decode cX1_goOn 68 = .ok (.iaload, 1) := by decide +kernel
theorem dX1_goOn_69 : decode cX1_goOn 69 = .ok (.invokevirtual 68, 3) := by decide +kernel
theorem dX1_goOn_72 : decode cX1_goOn 72 = .ok (.iinc 4 1, 3) := by decide +kernel
theorem dX1_goOn_75 : decode cX1_goOn 75 = .ok (.goto (-72), 3) := by decide +kernel
theorem dX1_goOn_78 : decode cX1_goOn 78 = .ok (.return_, 1) := by decide +kernel
theorem dX1_putBack_0 : decode cX1_putBack 0 = .ok (.iload_n 1, 1) := by decide +kernel
theorem dX1_putBack_1 : decode cX1_putBack 1 = .ok (.ifCond .le 58, 3) := by decide +kernel
theorem dX1_putBack_4 : decode cX1_putBack 4 = .ok (.aload_n 0, 1) := by decide +kernel
theorem dX1_putBack_5 : decode cX1_putBack 5 = .ok (.dup, 1) := by decide +kernel
theorem dX1_putBack_6 : decode cX1_putBack 6 = .ok (.getfield 15, 3) := by decide +kernel
theorem dX1_putBack_9 : decode cX1_putBack 9 = .ok (.iload_n 1, 1) := by decide +kernel
theorem dX1_putBack_10 : decode cX1_putBack 10 = .ok (.iadd, 1) := by decide +kernel
theorem dX1_putBack_11 : decode cX1_putBack 11 = .ok (.putfield 15, 3) := by decide +kernel
theorem dX1_putBack_14 : decode cX1_putBack 14 = .ok (.aload_n 0, 1) := by decide +kernel
theorem dX1_putBack_15 : decode cX1_putBack 15 = .ok (.dup, 1) := by decide +kernel
theorem dX1_putBack_16 : decode cX1_putBack 16 = .ok (.getfield 19, 3) := by decide +kernel
theorem dX1_putBack_19 : decode cX1_putBack 19 = .ok (.iload_n 1, 1) := by decide +kernel
theorem dX1_putBack_20 : decode cX1_putBack 20 = .ok (.iload_n 2, 1) := by decide +kernel
theorem dX1_putBack_21 : decode cX1_putBack 21 = .ok (.imul, 1) := by decide +kernel
theorem dX1_putBack_22 : decode cX1_putBack 22 = .ok (.iadd, 1) := by decide +kernel
theorem dX1_putBack_23 : decode cX1_putBack 23 = .ok (.putfield 19, 3) := by decide +kernel
theorem dX1_putBack_26 : decode cX1_putBack 26 = .ok (.aload_n 0, 1) := by decide +kernel
theorem dX1_putBack_27 : decode cX1_putBack 27 = .ok (.dup, 1) := by decide +kernel
theorem dX1_putBack_28 : decode cX1_putBack 28 = .ok (.getfield 22, 3) := by decide +kernel
theorem dX1_putBack_31 : decode cX1_putBack 31 = .ok (.aload_n 0, 1) := by decide +kernel
theorem dX1_putBack_32 : decode cX1_putBack 32 = .ok (.getfield 9, 3) := by decide +kernel
theorem dX1_putBack_35 : decode cX1_putBack 35 = .ok (.iload_n 3, 1) := by decide +kernel
theorem dX1_putBack_36 : decode cX1_putBack 36 = .ok (.iaload, 1) := by decide +kernel
theorem dX1_putBack_37 : decode cX1_putBack 37 = .ok (.ifCond .ne 7, 3) := by decide +kernel
theorem dX1_putBack_40 : decode cX1_putBack 40 = .ok (.iconst 1, 1) := by decide +kernel
theorem dX1_putBack_41 : decode cX1_putBack 41 = .ok (.goto 4, 3) := by decide +kernel
theorem dX1_putBack_44 : decode cX1_putBack 44 = .ok (.iconst 0, 1) := by decide +kernel
theorem dX1_putBack_45 : decode cX1_putBack 45 = .ok (.iadd, 1) := by decide +kernel
theorem dX1_putBack_46 : decode cX1_putBack 46 = .ok (.putfield 22, 3) := by decide +kernel
theorem dX1_putBack_49 : decode cX1_putBack 49 = .ok (.aload_n 0, 1) := by decide +kernel
theorem dX1_putBack_50 : decode cX1_putBack 50 = .ok (.getfield 9, 3) := by decide +kernel
theorem dX1_putBack_53 : decode cX1_putBack 53 = .ok (.iload_n 3, 1) := by decide +kernel
theorem dX1_putBack_54 : decode cX1_putBack 54 = .ok (.dup2, 1) := by decide +kernel
theorem dX1_putBack_55 : decode cX1_putBack 55 = .ok (.iaload, 1) := by decide +kernel
theorem dX1_putBack_56 : decode cX1_putBack 56 = .ok (.iconst 1, 1) := by decide +kernel
theorem dX1_putBack_57 : decode cX1_putBack 57 = .ok (.iadd, 1) := by decide +kernel
theorem dX1_putBack_58 : decode cX1_putBack 58 = .ok (.iastore, 1) := by decide +kernel
theorem dX1_putBack_59 : decode cX1_putBack 59 = .ok (.return_, 1) := by decide +kernel
theorem dX1_takeOut_0 : decode cX1_takeOut 0 = .ok (.iload_n 1, 1) := by decide +kernel
theorem dX1_takeOut_1 : decode cX1_takeOut 1 = .ok (.ifCond .le 58, 3) := by decide +kernel
theorem dX1_takeOut_4 : decode cX1_takeOut 4 = .ok (.aload_n 0, 1) := by decide +kernel
theorem dX1_takeOut_5 : decode cX1_takeOut 5 = .ok (.dup, 1) := by decide +kernel
theorem dX1_takeOut_6 : decode cX1_takeOut 6 = .ok (.getfield 15, 3) := by decide +kernel
theorem dX1_takeOut_9 : decode cX1_takeOut 9 = .ok (.iload_n 1, 1) := by decide +kernel
theorem dX1_takeOut_10 : decode cX1_takeOut 10 = .ok (.isub, 1) := by decide +kernel
theorem dX1_takeOut_11 : decode cX1_takeOut 11 = .ok (.putfield 15, 3) := by decide +kernel
theorem dX1_takeOut_14 : decode cX1_takeOut 14 = .ok (.aload_n 0, 1) := by decide +kernel
theorem dX1_takeOut_15 : decode cX1_takeOut 15 = .ok (.dup, 1) := by decide +kernel
theorem dX1_takeOut_16 : decode cX1_takeOut 16 = .ok (.getfield 19, 3) := by decide +kernel
theorem dX1_takeOut_19 : decode cX1_takeOut 19 = .ok (.iload_n 1, 1) := by decide +kernel
theorem dX1_takeOut_20 : decode cX1_takeOut 20 = .ok (.iload_n 2, 1) := by decide +kernel
theorem dX1_takeOut_21 : decode cX1_takeOut 21 = .ok (.imul, 1) := by decide +kernel
theorem dX1_takeOut_22 : decode cX1_takeOut 22 = .ok (.isub, 1) := by decide +kernel
theorem dX1_takeOut_23 : decode cX1_takeOut 23 = .ok (.putfield 19, 3) := by decide +kernel
theorem dX1_takeOut_26 : decode cX1_takeOut 26 = .ok (.aload_n 0, 1) := by decide +kernel
theorem dX1_takeOut_27 : decode cX1_takeOut 27 = .ok (.getfield 9, 3) := by decide +kernel
theorem dX1_takeOut_30 : decode cX1_takeOut 30 = .ok (.iload_n 3, 1) := by decide +kernel
theorem dX1_takeOut_31 : decode cX1_takeOut 31 = .ok (.dup2, 1) := by decide +kernel
theorem dX1_takeOut_32 : decode cX1_takeOut 32 = .ok (.iaload, 1) := by decide +kernel
theorem dX1_takeOut_33 : decode cX1_takeOut 33 = .ok (.iconst 1, 1) := by decide +kernel
theorem dX1_takeOut_34 : decode cX1_takeOut 34 = .ok (.isub, 1) := by decide +kernel
theorem dX1_takeOut_35 : decode cX1_takeOut 35 = .ok (.iastore, 1) := by decide +kernel
theorem dX1_takeOut_36 : decode cX1_takeOut 36 = .ok (.aload_n 0, 1) := by decide +kernel
theorem dX1_takeOut_37 : decode cX1_takeOut 37 = .ok (.dup, 1) := by decide +kernel
theorem dX1_takeOut_38 : decode cX1_takeOut 38 = .ok (.getfield 22, 3) := by decide +kernel
theorem dX1_takeOut_41 : decode cX1_takeOut 41 = .ok (.aload_n 0, 1) := by decide +kernel
theorem dX1_takeOut_42 : decode cX1_takeOut 42 = .ok (.getfield 9, 3) := by decide +kernel
theorem dX1_takeOut_45 : decode cX1_takeOut 45 = .ok (.iload_n 3, 1) := by decide +kernel
theorem dX1_takeOut_46 : decode cX1_takeOut 46 = .ok (.iaload, 1) := by decide +kernel
theorem dX1_takeOut_47 : decode cX1_takeOut 47 = .ok (.ifCond .ne 7, 3) := by decide +kernel
theorem dX1_takeOut_50 : decode cX1_takeOut 50 = .ok (.iconst 1, 1) := by decide +kernel
theorem dX1_takeOut_51 : decode cX1_takeOut 51 = .ok (.goto 4, 3) := by decide +kernel
theorem dX1_takeOut_54 : decode cX1_takeOut 54 = .ok (.iconst 0, 1) := by decide +kernel
theorem dX1_takeOut_55 : decode cX1_takeOut 55 = .ok (.isub, 1) := by decide +kernel
theorem dX1_takeOut_56 : decode cX1_takeOut 56 = .ok (.putfield 22, 3) := by decide +kernel
theorem dX1_takeOut_59 : decode cX1_takeOut 59 = .ok (.return_, 1) := by decide +kernel
theorem dX2_init_0 : decode cX2_init 0 = .ok (.aload_n 0, 1) := by decide +kernel
theorem dX2_init_1 : decode cX2_init 1 = .ok (.invokespecial 3, 3) := by decide +kernel
theorem dX2_init_4 : decode cX2_init 4 = .ok (.aload_n 0, 1) := by decide +kernel
theorem dX2_init_5 : decode cX2_init 5 = .ok (.bipush 14, 2) := by decide +kernel
theorem dX2_init_7 : decode cX2_init 7 = .ok (.newarray .int, 2) := by decide +kernel
theorem dX2_init_9 : decode cX2_init 9 = .ok (.putfield 9, 3) := by decide +kernel
theorem dX2_init_12 : decode cX2_init 12 = .ok (.aload_n 0, 1) := by decide +kernel
theorem dX2_init_13 : decode cX2_init 13 = .ok (.iconst 0, 1) := by decide +kernel
theorem dX2_init_14 : decode cX2_init 14 = .ok (.putfield 15, 3) := by decide +kernel
theorem dX2_init_17 : decode cX2_init 17 = .ok (.aload_n 0, 1) := by decide +kernel
theorem dX2_init_18 : decode cX2_init 18 = .ok (.bipush 15, 2) := by decide +kernel
theorem dX2_init_20 : decode cX2_init 20 = .ok (.newarray .int, 2) := by decide +kernel
theorem dX2_init_22 : decode cX2_init 22 = .ok (.putfield 19, 3) := by decide +kernel
theorem dX2_init_25 : decode cX2_init 25 = .ok (.return_, 1) := by decide +kernel
theorem dX2_add_0 : decode cX2_add 0 = .ok (.aload_n 0, 1) := by decide +kernel
theorem dX2_add_1 : decode cX2_add 1 = .ok (.getfield 15, 3) := by decide +kernel
theorem dX2_add_4 : decode cX2_add 4 = .ok (.bipush 14, 2) := by decide +kernel
theorem dX2_add_6 : decode cX2_add 6 = .ok (.if_icmp .lt 5, 3) := by decide +kernel
theorem dX2_add_9 : decode cX2_add 9 = .ok (.iconst 0, 1) := by decide +kernel
theorem dX2_add_10 : decode cX2_add 10 = .ok (.ireturn, 1) := by decide +kernel
theorem dX2_add_11 : decode cX2_add 11 = .ok (.aload_n 0, 1) := by decide +kernel
theorem dX2_add_12 : decode cX2_add 12 = .ok (.getfield 9, 3) := by decide +kernel
theorem dX2_add_15 : decode cX2_add 15 = .ok (.aload_n 0, 1) := by decide +kernel
theorem dX2_add_16 : decode cX2_add 16 = .ok (.getfield 15, 3) := by decide +kernel
theorem dX2_add_19 : decode cX2_add 19 = .ok (.iload_n 1, 1) := by decide +kernel
theorem dX2_add_20 : decode cX2_add 20 = .ok (.iastore, 1) := by decide +kernel
theorem dX2_add_21 : decode cX2_add 21 = .ok (.aload_n 0, 1) := by decide +kernel
theorem dX2_add_22 : decode cX2_add 22 = .ok (.dup, 1) := by decide +kernel
theorem dX2_add_23 : decode cX2_add 23 = .ok (.getfield 15, 3) := by decide +kernel
theorem dX2_add_26 : decode cX2_add 26 = .ok (.iconst 1, 1) := by decide +kernel
theorem dX2_add_27 : decode cX2_add 27 = .ok (.iadd, 1) := by decide +kernel
theorem dX2_add_28 : decode cX2_add 28 = .ok (.putfield 15, 3) := by decide +kernel
theorem dX2_add_31 : decode cX2_add 31 = .ok (.iconst 1, 1) := by decide +kernel
theorem dX2_add_32 : decode cX2_add 32 = .ok (.ireturn, 1) := by decide +kernel
theorem dX2_clear_0 : decode cX2_clear 0 = .ok (.aload_n 0, 1) := by decide +kernel
theorem dX2_clear_1 : decode cX2_clear 1 = .ok (.getfield 15, 3) := by decide +kernel
theorem dX2_clear_4 : decode cX2_clear 4 = .ok (.istore_n 1, 1) := by decide +kernel
theorem dX2_clear_5 : decode cX2_clear 5 = .ok (.aload_n 0, 1) := by decide +kernel
theorem dX2_clear_6 : decode cX2_clear 6 = .ok (.iconst 0, 1) := by decide +kernel
theorem dX2_clear_7 : decode cX2_clear 7 = .ok (.putfield 15, 3) := by decide +kernel
theorem dX2_clear_10 : decode cX2_clear 10 = .ok (.iload_n 1, 1) := by decide +kernel
theorem dX2_clear_11 : decode cX2_clear 11 = .ok (.ireturn, 1) := by decide +kernel
theorem dX2_changesTo_0 : decode cX2_changesTo 0 = .ok (.iconst 0, 1) := by decide +kernel
theorem dX2_changesTo_1 : decode cX2_changesTo 1 = .ok (.istore_n 2, 1) := by decide +kernel
theorem dX2_changesTo_2 : decode cX2_changesTo 2 = .ok (.iload_n 2, 1) := by decide +kernel
theorem dX2_changesTo_3 : decode cX2_changesTo 3 = .ok (.aload_n 0, 1) := by decide +kernel
theorem dX2_changesTo_4 : decode cX2_changesTo 4 = .ok (.getfield 15, 3) := by decide +kernel
theorem dX2_changesTo_7 : decode cX2_changesTo 7 = .ok (.if_icmp .gt 16, 3) := by decide +kernel
theorem dX2_changesTo_10 : decode cX2_changesTo 10 = .ok (.aload_n 0, 1) := by decide +kernel
theorem dX2_changesTo_11 : decode cX2_changesTo 11 = .ok (.getfield 19, 3) := by decide +kernel
theorem dX2_changesTo_14 : decode cX2_changesTo 14 = .ok (.iload_n 2, 1) := by decide +kernel
theorem dX2_changesTo_15 : decode cX2_changesTo 15 = .ok (.iload_n 2, 1) := by decide +kernel
theorem dX2_changesTo_16 : decode cX2_changesTo 16 = .ok (.iastore, 1) := by decide +kernel
theorem dX2_changesTo_17 : decode cX2_changesTo 17 = .ok (.iinc 2 1, 3) := by decide +kernel
theorem dX2_changesTo_20 : decode cX2_changesTo 20 = .ok (.goto (-18), 3) := by decide +kernel
theorem dX2_changesTo_23 : decode cX2_changesTo 23 = .ok (.iconst 0, 1) := by decide +kernel
theorem dX2_changesTo_24 : decode cX2_changesTo 24 = .ok (.istore_n 2, 1) := by decide +kernel
theorem dX2_changesTo_25 : decode cX2_changesTo 25 = .ok (.iload_n 2, 1) := by decide +kernel
theorem dX2_changesTo_26 : decode cX2_changesTo 26 = .ok (.aload_n 1, 1) := by decide +kernel
theorem dX2_changesTo_27 : decode cX2_changesTo 27 = .ok (.getfield 22, 3) := by decide +kernel
theorem dX2_changesTo_30 : decode cX2_changesTo 30 = .ok (.if_icmp .ge 28, 3) := by decide +kernel
theorem dX2_changesTo_33 : decode cX2_changesTo 33 = .ok (.aload_n 1, 1) := by decide +kernel
theorem dX2_changesTo_34 : decode cX2_changesTo 34 = .ok (.getfield 25, 3) := by decide +kernel
theorem dX2_changesTo_37 : decode cX2_changesTo 37 = .ok (.iload_n 2, 1) := by decide +kernel
theorem dX2_changesTo_38 : decode cX2_changesTo 38 = .ok (.iaload, 1) := by decide +kernel
theorem dX2_changesTo_39 : decode cX2_changesTo 39 = .ok (.ifCond .le 13, 3) := by decide +kernel
theorem dX2_changesTo_42 : decode cX2_changesTo 42 = .ok (.aload_n 0, 1) := by decide +kernel
theorem dX2_changesTo_43 : decode cX2_changesTo 43 = .ok (.aload_n 1, 1) := by decide +kernel
theorem dX2_changesTo_44 : decode cX2_changesTo 44 = .ok (.getfield 28, 3) := by decide +kernel
theorem dX2_changesTo_47 : decode cX2_changesTo 47 = .ok (.iload_n 2, 1) := by decide +kernel
theorem dX2_changesTo_48 : decode cX2_changesTo 48 = .ok (.iaload, 1) := by decide +kernel
theorem dX2_changesTo_49 : decode cX2_changesTo 49 = .ok (.invokevirtual 31, 3) := by decide +kernel
theorem dX2_changesTo_52 : decode cX2_changesTo 52 = .ok (.iinc 2 1, 3) := by decide +kernel
theorem dX2_changesTo_55 : decode cX2_changesTo 55 = .ok (.goto (-30), 3) := by decide +kernel
theorem dX2_changesTo_58 : decode cX2_changesTo 58 = .ok (.aload_n 0, 1) := by decide +kernel
theorem dX2_changesTo_59 : decode cX2_changesTo 59 = .ok (.getfield 19, 3) := by decide +kernel
theorem dX2_changesTo_62 : decode cX2_changesTo 62 = .ok (.aload_n 0, 1) := by decide +kernel
theorem dX2_changesTo_63 : decode cX2_changesTo 63 = .ok (.getfield 15, 3) := by decide +kernel
theorem dX2_changesTo_66 : decode cX2_changesTo 66 = .ok (.iaload, 1) := by decide +kernel
theorem dX2_changesTo_67 : decode cX2_changesTo 67 = .ok (.ireturn, 1) := by decide +kernel
theorem dX2_addLayer_0 : decode cX2_addLayer 0 = .ok (.aload_n 0, 1) := by decide +kernel
theorem dX2_addLayer_1 : decode cX2_addLayer 1 = .ok (.getfield 19, 3) := by decide +kernel
theorem dX2_addLayer_4 : decode cX2_addLayer 4 = .ok (.iconst 0, 1) := by decide +kernel
theorem dX2_addLayer_5 : decode cX2_addLayer 5 = .ok (.iaload, 1) := by decide +kernel
theorem dX2_addLayer_6 : decode cX2_addLayer 6 = .ok (.istore_n 2, 1) := by decide +kernel
theorem dX2_addLayer_7 : decode cX2_addLayer 7 = .ok (.aload_n 0, 1) := by decide +kernel
theorem dX2_addLayer_8 : decode cX2_addLayer 8 = .ok (.getfield 19, 3) := by decide +kernel
theorem dX2_addLayer_11 : decode cX2_addLayer 11 = .ok (.iconst 0, 1) := by decide +kernel
theorem dX2_addLayer_12 : decode cX2_addLayer 12 = .ok (.dup2, 1) := by decide +kernel
theorem dX2_addLayer_13 : decode cX2_addLayer 13 = .ok (.iaload, 1) := by decide +kernel
theorem dX2_addLayer_14 : decode cX2_addLayer 14 = .ok (.iconst 1, 1) := by decide +kernel
theorem dX2_addLayer_15 : decode cX2_addLayer 15 = .ok (.iadd, 1) := by decide +kernel
theorem dX2_addLayer_16 : decode cX2_addLayer 16 = .ok (.iastore, 1) := by decide +kernel
theorem dX2_addLayer_17 : decode cX2_addLayer 17 = .ok (.iconst 1, 1) := by decide +kernel
theorem dX2_addLayer_18 : decode cX2_addLayer 18 = .ok (.istore_n 3, 1) := by decide +kernel
theorem dX2_addLayer_19 : decode cX2_addLayer 19 = .ok (.iload_n 3, 1) := by decide +kernel
theorem dX2_addLayer_20 : decode cX2_addLayer 20 = .ok (.aload_n 0, 1) := by decide +kernel
theorem dX2_addLayer_21 : decode cX2_addLayer 21 = .ok (.getfield 15, 3) := by decide +kernel
theorem dX2_addLayer_24 : decode cX2_addLayer 24 = .ok (.if_icmp .gt 62, 3) := by decide +kernel
theorem dX2_addLayer_27 : decode cX2_addLayer 27 = .ok (.iload_n 2, 1) := by decide +kernel
theorem dX2_addLayer_28 : decode cX2_addLayer 28 = .ok (.aload_n 0, 1) := by decide +kernel
theorem dX2_addLayer_29 : decode cX2_addLayer 29 = .ok (.getfield 9, 3) := by decide +kernel
theorem dX2_addLayer_32 : decode cX2_addLayer 32 = .ok (.iload_n 3, 1) := by decide +kernel
theorem dX2_addLayer_33 : decode cX2_addLayer 33 = .ok (.iconst 1, 1) := by decide +kernel
theorem dX2_addLayer_34 : decode cX2_addLayer 34 = .ok (.isub, 1) := by decide +kernel
theorem dX2_addLayer_35 : decode cX2_addLayer 35 = .ok (.iaload, 1) := by decide +kernel
theorem dX2_addLayer_36 : decode cX2_addLayer 36 = .ok (.iload_n 1, 1) := by decide +kernel
theorem dX2_addLayer_37 : decode cX2_addLayer 37 = .ok (.if_icmp .ne 7, 3) := by decide +kernel
theorem dX2_addLayer_40 : decode cX2_addLayer 40 = .ok (.iconst 0, 1) := by decide +kernel
theorem dX2_addLayer_41 : decode cX2_addLayer 41 = .ok (.goto 4, 3) := by decide +kernel
theorem dX2_addLayer_44 : decode cX2_addLayer 44 = .ok (.iconst 1, 1) := by decide +kernel
theorem dX2_addLayer_45 : decode cX2_addLayer 45 = .ok (.iadd, 1) := by decide +kernel
theorem dX2_addLayer_46 : decode cX2_addLayer 46 = .ok (.istore 4, 2) := by decide +kernel
theorem dX2_addLayer_48 : decode cX2_addLayer 48 = .ok (.aload_n 0, 1) := by decide +kernel
theorem dX2_addLayer_49 : decode cX2_addLayer 49 = .ok (.getfield 19, 3) := by decide +kernel
theorem dX2_addLayer_52 : decode cX2_addLayer 52 = .ok (.iload_n 3, 1) := by decide +kernel
theorem dX2_addLayer_53 : decode cX2_addLayer 53 = .ok (.iaload, 1) := by decide +kernel
theorem dX2_addLayer_54 : decode cX2_addLayer 54 = .ok (.istore_n 2, 1) := by decide +kernel
theorem dX2_addLayer_55 : decode cX2_addLayer 55 = .ok (.aload_n 0, 1) := by decide +kernel
theorem dX2_addLayer_56 : decode cX2_addLayer 56 = .ok (.getfield 19, 3) := by decide +kernel
theorem dX2_addLayer_59 : decode cX2_addLayer 59 = .ok (.iload_n 3, 1) := by decide +kernel
theorem dX2_addLayer_60 : decode cX2_addLayer 60 = .ok (.iload 4, 2) := by decide +kernel
theorem dX2_addLayer_62 : decode cX2_addLayer 62 = .ok (.iconst 1, 1) := by decide +kernel
theorem dX2_addLayer_63 : decode cX2_addLayer 63 = .ok (.iload_n 2, 1) := by decide +kernel
theorem dX2_addLayer_64 : decode cX2_addLayer 64 = .ok (.aload_n 0, 1) := by decide +kernel
theorem dX2_addLayer_65 : decode cX2_addLayer 65 = .ok (.getfield 19, 3) := by decide +kernel
theorem dX2_addLayer_68 : decode cX2_addLayer 68 = .ok (.iload_n 3, 1) := by decide +kernel
theorem dX2_addLayer_69 : decode cX2_addLayer 69 = .ok (.iconst 1, 1) := by decide +kernel
theorem dX2_addLayer_70 : decode cX2_addLayer 70 = .ok (.isub, 1) := by decide +kernel
theorem dX2_addLayer_71 : decode cX2_addLayer 71 = .ok (.iaload, 1) := by decide +kernel
theorem dX2_addLayer_72 : decode cX2_addLayer 72 = .ok (.invokestatic 35, 3) := by decide +kernel
theorem dX2_addLayer_75 : decode cX2_addLayer 75 = .ok (.iadd, 1) := by decide +kernel
theorem dX2_addLayer_76 : decode cX2_addLayer 76 = .ok (.invokestatic 35, 3) := by decide +kernel
theorem dX2_addLayer_79 : decode cX2_addLayer 79 = .ok (.iastore, 1) := by decide +kernel
theorem dX2_addLayer_80 : decode cX2_addLayer 80 = .ok (.iinc 3 1, 3) := by decide +kernel
theorem dX2_addLayer_83 : decode cX2_addLayer 83 = .ok (.goto (-64), 3) := by decide +kernel
theorem dX2_addLayer_86 : decode cX2_addLayer 86 = .ok (.return_, 1) := by decide +kernel
theorem dX2_firstUnlike_0 : decode cX2_firstUnlike 0 = .ok (.iconst 0, 1) := by decide +kernel
theorem dX2_firstUnlike_1 : decode cX2_firstUnlike 1 = .ok (.istore_n 2, 1) := by decide +kernel
theorem dX2_firstUnlike_2 : decode cX2_firstUnlike 2 = .ok (.iconst 0, 1) := by decide +kernel
theorem dX2_firstUnlike_3 : decode cX2_firstUnlike 3 = .ok (.istore_n 3, 1) := by decide +kernel
theorem dX2_firstUnlike_4 : decode cX2_firstUnlike 4 = .ok (.iload_n 3, 1) := by decide +kernel
theorem dX2_firstUnlike_5 : decode cX2_firstUnlike 5 = .ok (.aload_n 1, 1) := by decide +kernel
theorem dX2_firstUnlike_6 : decode cX2_firstUnlike 6 = .ok (.getfield 22, 3) := by decide +kernel
theorem dX2_firstUnlike_9 : decode cX2_firstUnlike 9 = .ok (.if_icmp .ge 46, 3) := by decide +kernel
theorem dX2_firstUnlike_12 : decode cX2_firstUnlike 12 = .ok (.aload_n 1, 1) := by decide +kernel
theorem dX2_firstUnlike_13 : decode cX2_firstUnlike 13 = .ok (.getfield 25, 3) := by decide +kernel
theorem dX2_firstUnlike_16 : decode cX2_firstUnlike 16 = .ok (.iload_n 3, 1) := by decide +kernel
theorem dX2_firstUnlike_17 : decode cX2_firstUnlike 17 = .ok (.iaload, 1) := by decide +kernel
theorem dX2_firstUnlike_18 : decode cX2_firstUnlike 18 = .ok (.ifCond .le 31, 3) := by decide +kernel
theorem dX2_firstUnlike_21 : decode cX2_firstUnlike 21 = .ok (.iload_n 2, 1) := by decide +kernel
theorem dX2_firstUnlike_22 : decode cX2_firstUnlike 22 = .ok (.aload_n 0, 1) := by decide +kernel
theorem dX2_firstUnlike_23 : decode cX2_firstUnlike 23 = .ok (.getfield 15, 3) := by decide +kernel
theorem dX2_firstUnlike_26 : decode cX2_firstUnlike 26 = .ok (.if_icmp .ge 18, 3) := by decide +kernel
theorem dX2_firstUnlike_29 : decode cX2_firstUnlike 29 = .ok (.aload_n 0, 1) := by decide +kernel
theorem dX2_firstUnlike_30 : decode cX2_firstUnlike 30 = .ok (.getfield 9, 3) := by decide +kernel
theorem dX2_firstUnlike_33 : decode cX2_firstUnlike 33 = .ok (.iload_n 2, 1) := by decide +kernel
theorem dX2_firstUnlike_34 : decode cX2_firstUnlike 34 = .ok (.iaload, 1) := by decide +kernel
theorem dX2_firstUnlike_35 : decode cX2_firstUnlike 35 = .ok (.aload_n 1, 1) := by decide +kernel
theorem dX2_firstUnlike_36 : decode cX2_firstUnlike 36 = .ok (.getfield 28, 3) := by decide +kernel
theorem dX2_firstUnlike_39 : decode cX2_firstUnlike 39 = .ok (.iload_n 3, 1) := by decide +kernel
theorem dX2_firstUnlike_40 : decode cX2_firstUnlike 40 = .ok (.iaload, 1) := by decide +kernel
theorem dX2_firstUnlike_41 : decode cX2_firstUnlike 41 = .ok (.if_icmp .eq 5, 3) := by decide +kernel
theorem dX2_firstUnlike_44 : decode cX2_firstUnlike 44 = .ok (.iload_n 3, 1) := by decide +kernel
theorem dX2_firstUnlike_45 : decode cX2_firstUnlike 45 = .ok (.ireturn, 1) := by decide +kernel
theorem dX2_firstUnlike_46 : decode cX2_firstUnlike 46 = .ok (.iinc 2 1, 3) := by decide +kernel
theorem dX2_firstUnlike_49 : decode cX2_firstUnlike 49 = .ok (.iinc 3 1, 3) := by decide +kernel
theorem dX2_firstUnlike_52 : decode cX2_firstUnlike 52 = .ok (.goto (-48), 3) := by decide +kernel
theorem dX2_firstUnlike_55 : decode cX2_firstUnlike 55 = .ok (.aload_n 1, 1) := by decide +kernel
theorem dX2_firstUnlike_56 : decode cX2_firstUnlike 56 = .ok (.getfield 22, 3) := by decide +kernel
theorem dX2_firstUnlike_59 : decode cX2_firstUnlike 59 = .ok (.ireturn, 1) := by decide +kernel
theorem dX3_init_0 : decode cX3_init 0 = .ok (.aload_n 0, 1) := by decide +kernel
theorem dX3_init_1 : decode cX3_init 1 = .ok (.invokespecial 3, 3) := by decide +kernel
theorem dX3_init_4 : decode cX3_init 4 = .ok (.aload_n 0, 1) := by decide +kernel
theorem dX3_init_5 : decode cX3_init 5 = .ok (.sipush 400, 3) := by decide +kernel
theorem dX3_init_8 : decode cX3_init 8 = .ok (.newarray .byte, 2) := by decide +kernel
theorem dX3_init_10 : decode cX3_init 10 = .ok (.putfield 9, 3) := by decide +kernel
theorem dX3_init_13 : decode cX3_init 13 = .ok (.aload_n 0, 1) := by decide +kernel
theorem dX3_init_14 : decode cX3_init 14 = .ok (.iconst 0, 1) := by decide +kernel
theorem dX3_init_15 : decode cX3_init 15 = .ok (.putfield 15, 3) := by decide +kernel
theorem dX3_init_18 : decode cX3_init 18 = .ok (.aload_n 0, 1) := by decide +kernel
theorem dX3_init_19 : decode cX3_init 19 = .ok (.iconst 4, 1) := by decide +kernel
theorem dX3_init_20 : decode cX3_init 20 = .ok (.newarray .int, 2) := by decide +kernel
theorem dX3_init_22 : decode cX3_init 22 = .ok (.putfield 19, 3) := by decide +kernel
theorem dX3_init_25 : decode cX3_init 25 = .ok (.aload_n 0, 1) := by decide +kernel
theorem dX3_init_26 : decode cX3_init 26 = .ok (.iconst 0, 1) := by decide +kernel
theorem dX3_init_27 : decode cX3_init 27 = .ok (.putfield 23, 3) := by decide +kernel
theorem dX3_init_30 : decode cX3_init 30 = .ok (.aload_n 0, 1) := by decide +kernel
theorem dX3_init_31 : decode cX3_init 31 = .ok (.iconst 0, 1) := by decide +kernel
theorem dX3_init_32 : decode cX3_init 32 = .ok (.putfield 26, 3) := by decide +kernel
theorem dX3_init_35 : decode cX3_init 35 = .ok (.aload_n 0, 1) := by decide +kernel
theorem dX3_init_36 : decode cX3_init 36 = .ok (.iconst 0, 1) := by decide +kernel
theorem dX3_init_37 : decode cX3_init 37 = .ok (.putfield 29, 3) := by decide +kernel
theorem dX3_init_40 : decode cX3_init 40 = .ok (.return_, 1) := by decide +kernel
theorem dX3_append_0 : decode cX3_append 0 = .ok (.iload_n 1, 1) := by decide +kernel
theorem dX3_append_1 : decode cX3_append 1 = .ok (.sipush 400, 3) := by decide +kernel
theorem dX3_append_4 : decode cX3_append 4 = .ok (.aload_n 0, 1) := by decide +kernel
theorem dX3_append_5 : decode cX3_append 5 = .ok (.getfield 15, 3) := by decide +kernel
theorem dX3_append_8 : decode cX3_append 8 = .ok (.isub, 1) := by decide +kernel
theorem dX3_append_9 : decode cX3_append 9 = .ok (.if_icmp .le 5, 3) := by decide +kernel
theorem dX3_append_12 : decode cX3_append 12 = .ok (.iconst 0, 1) := by decide +kernel
theorem dX3_append_13 : decode cX3_append 13 = .ok (.ireturn, 1) := by decide +kernel
theorem dX3_append_14 : decode cX3_append 14 = .ok (.iload_n 1, 1) := by decide +kernel
theorem dX3_append_15 : decode cX3_append 15 = .ok (.iconst 1, 1) := by decide +kernel
theorem dX3_append_16 : decode cX3_append 16 = .ok (.isub, 1) := by decide +kernel
theorem dX3_append_17 : decode cX3_append 17 = .ok (.istore 4, 2) := by decide +kernel
theorem dX3_append_19 : decode cX3_append 19 = .ok (.iload 4, 2) := by decide +kernel
theorem dX3_append_21 : decode cX3_append 21 = .ok (.ifCond .lt 37, 3) := by decide +kernel
theorem dX3_append_24 : decode cX3_append 24 = .ok (.aload_n 0, 1) := by decide +kernel
theorem dX3_append_25 : decode cX3_append 25 = .ok (.getfield 9, 3) := by decide +kernel
theorem dX3_append_28 : decode cX3_append 28 = .ok (.aload_n 0, 1) := by decide +kernel
theorem dX3_append_29 : decode cX3_append 29 = .ok (.getfield 15, 3) := by decide +kernel
theorem dX3_append_32 : decode cX3_append 32 = .ok (.lload_n 2, 1) := by decide +kernel
theorem dX3_append_33 : decode cX3_append 33 = .ok (.bipush 8, 2) := by decide +kernel
theorem dX3_append_35 : decode cX3_append 35 = .ok (.iload 4, 2) := by decide +kernel
theorem dX3_append_37 : decode cX3_append 37 = .ok (.imul, 1) := by decide +kernel
theorem dX3_append_38 : decode cX3_append 38 = .ok (.lushr, 1) := by decide +kernel
theorem dX3_append_39 : decode cX3_append 39 = .ok (.l2i, 1) := by decide +kernel
theorem dX3_append_40 : decode cX3_append 40 = .ok (.i2b, 1) := by decide +kernel
theorem dX3_append_41 : decode cX3_append 41 = .ok (.bastore, 1) := by decide +kernel
theorem dX3_append_42 : decode cX3_append 42 = .ok (.aload_n 0, 1) := by decide +kernel
theorem dX3_append_43 : decode cX3_append 43 = .ok (.dup, 1) := by decide +kernel
theorem dX3_append_44 : decode cX3_append 44 = .ok (.getfield 15, 3) := by decide +kernel
theorem dX3_append_47 : decode cX3_append 47 = .ok (.iconst 1, 1) := by decide +kernel
theorem dX3_append_48 : decode cX3_append 48 = .ok (.iadd, 1) := by decide +kernel
theorem dX3_append_49 : decode cX3_append 49 = .ok (.putfield 15, 3) := by decide +kernel
theorem dX3_append_52 : decode cX3_append 52 = .ok (.iinc 4 (-1), 3) := by decide +kernel
theorem dX3_append_55 : decode cX3_append 55 = .ok (.goto (-36), 3) := by decide +kernel
theorem dX3_append_58 : decode cX3_append 58 = .ok (.iconst 1, 1) := by decide +kernel
theorem dX3_append_59 : decode cX3_append 59 = .ok (.ireturn, 1) := by decide +kernel
theorem dX3_clear_0 : decode cX3_clear 0 = .ok (.aload_n 0, 1) := by decide +kernel
theorem dX3_clear_1 : decode cX3_clear 1 = .ok (.getfield 15, 3) := by decide +kernel
theorem dX3_clear_4 : decode cX3_clear 4 = .ok (.istore_n 1, 1) := by decide +kernel
theorem dX3_clear_5 : decode cX3_clear 5 = .ok (.aload_n 0, 1) := by decide +kernel
theorem dX3_clear_6 : decode cX3_clear 6 = .ok (.iconst 0, 1) := by decide +kernel
theorem dX3_clear_7 : decode cX3_clear 7 = .ok (.putfield 15, 3) := by decide +kernel
theorem dX3_clear_10 : decode cX3_clear 10 = .ok (.iload_n 1, 1) := by decide +kernel
theorem dX3_clear_11 : decode cX3_clear 11 = .ok (.ireturn, 1) := by decide +kernel
theorem dX3_tellTo_0 : decode cX3_tellTo 0 = .ok (.aload_n 1, 1) := by decide +kernel
theorem dX3_tellTo_1 : decode cX3_tellTo 1 = .ok (.invokevirtual 32, 3) := by decide +kernel
theorem dX3_tellTo_4 : decode cX3_tellTo 4 = .ok (.iconst 0, 1) := by decide +kernel
theorem dX3_tellTo_5 : decode cX3_tellTo 5 = .ok (.istore_n 2, 1) := by decide +kernel
theorem dX3_tellTo_6 : decode cX3_tellTo 6 = .ok (.iconst 0, 1) := by decide +kernel
theorem dX3_tellTo_7 : decode cX3_tellTo 7 = .ok (.istore_n 3, 1) := by decide +kernel
theorem dX3_tellTo_8 : decode cX3_tellTo 8 = .ok (.iload_n 3, 1) := by decide +kernel
theorem dX3_tellTo_9 : decode cX3_tellTo 9 = .ok (.aload_n 0, 1) := by decide +kernel
theorem dX3_tellTo_10 : decode cX3_tellTo 10 = .ok (.getfield 15, 3) := by decide +kernel
theorem dX3_tellTo_13 : decode cX3_tellTo 13 = .ok (.if_icmp .ge 114, 3) := by decide +kernel
theorem dX3_tellTo_16 : decode cX3_tellTo 16 = .ok (.aload_n 0, 1) := by decide +kernel
theorem dX3_tellTo_17 : decode cX3_tellTo 17 = .ok (.getfield 9, 3) := by decide +kernel
theorem dX3_tellTo_20 : decode cX3_tellTo 20 = .ok (.iload_n 3, 1) := by decide +kernel
theorem dX3_tellTo_21 : decode cX3_tellTo 21 = .ok (.baload, 1) := by decide +kernel
theorem dX3_tellTo_22 : decode cX3_tellTo 22 = .ok (.istore 4, 2) := by decide +kernel
theorem dX3_tellTo_24 : decode cX3_tellTo 24 = .ok (.iload_n 3, 1) := by decide +kernel
theorem dX3_tellTo_25 : decode cX3_tellTo 25 = .ok (.iload_n 2, 1) := by decide +kernel
theorem dX3_tellTo_26 : decode cX3_tellTo 26 = .ok (.if_icmp .ne 10, 3) := by decide +kernel
theorem dX3_tellTo_29 : decode cX3_tellTo 29 = .ok (.aload_n 0, 1) := by decide +kernel
theorem dX3_tellTo_30 : decode cX3_tellTo 30 = .ok (.invokevirtual 37, 3) := by decide +kernel
theorem dX3_tellTo_33 : decode cX3_tellTo 33 = .ok (.goto 88, 3) := by decide +kernel
theorem dX3_tellTo_36 : decode cX3_tellTo 36 = .ok (.iload 4, 2) := by decide +kernel
theorem dX3_tellTo_38 : decode cX3_tellTo 38 = .ok (.bipush 48, 2) := by decide +kernel
theorem dX3_tellTo_40 : decode cX3_tellTo 40 = .ok (.if_icmp .lt 24, 3) := by decide +kernel
theorem dX3_tellTo_43 : decode cX3_tellTo 43 = .ok (.iload 4, 2) := by decide +kernel
theorem dX3_tellTo_45 : decode cX3_tellTo 45 = .ok (.bipush 57, 2) := by decide +kernel
theorem dX3_tellTo_47 : decode cX3_tellTo 47 = .ok (.if_icmp .gt 17, 3) := by decide +kernel
theorem dX3_tellTo_50 : decode cX3_tellTo 50 = .ok (.aload_n 0, 1) := by decide +kernel
theorem dX3_tellTo_51 : decode cX3_tellTo 51 = .ok (.iload 4, 2) := by decide +kernel
theorem dX3_tellTo_53 : decode cX3_tellTo 53 = .ok (.bipush 48, 2) := by decide +kernel
theorem dX3_tellTo_55 : decode cX3_tellTo 55 = .ok (.isub, 1) := by decide +kernel
theorem dX3_tellTo_56 : decode cX3_tellTo 56 = .ok (.invokevirtual 40, 3) := by decide +kernel
theorem dX3_tellTo_59 : decode cX3_tellTo 59 = .ok (.ifCond .ne 62, 3) := by decide +kernel
theorem dX3_tellTo_62 : decode cX3_tellTo 62 = .ok (.iload_n 2, 1) := by decide +kernel
theorem dX3_tellTo_63 : decode cX3_tellTo 63 = .ok (.ireturn, 1) := by decide +kernel
theorem dX3_tellTo_64 : decode cX3_tellTo 64 = .ok (.iload 4, 2) := by decide +kernel
theorem dX3_tellTo_66 : decode cX3_tellTo 66 = .ok (.bipush 44, 2) := by decide +kernel
theorem dX3_tellTo_68 : decode cX3_tellTo 68 = .ok (.if_icmp .eq 10, 3) := by decide +kernel
theorem dX3_tellTo_71 : decode cX3_tellTo 71 = .ok (.iload 4, 2) := by decide +kernel
theorem dX3_tellTo_73 : decode cX3_tellTo 73 = .ok (.bipush 59, 2) := by decide +kernel
theorem dX3_tellTo_75 : decode cX3_tellTo 75 = .ok (.if_icmp .ne 10, 3) := by decide +kernel
theorem dX3_tellTo_78 : decode cX3_tellTo 78 = .ok (.aload_n 0, 1) := by decide +kernel
theorem dX3_tellTo_79 : decode cX3_tellTo 79 = .ok (.invokevirtual 44, 3) := by decide +kernel
theorem dX3_tellTo_82 : decode cX3_tellTo 82 = .ok (.ifCond .ne 5, 3) := by decide +kernel
theorem dX3_tellTo_85 : decode cX3_tellTo 85 = .ok (.iload_n 2, 1) := by decide +kernel
theorem dX3_tellTo_86 : decode cX3_tellTo 86 = .ok (.ireturn, 1) := by decide +kernel
theorem dX3_tellTo_87 : decode cX3_tellTo 87 = .ok (.iload 4, 2) := by decide +kernel
theorem dX3_tellTo_89 : decode cX3_tellTo 89 = .ok (.bipush 59, 2) := by decide +kernel
theorem dX3_tellTo_91 : decode cX3_tellTo 91 = .ok (.if_icmp .ne 30, 3) := by decide +kernel
theorem dX3_tellTo_94 : decode cX3_tellTo 94 = .ok (.aload_n 1, 1) := by decide +kernel
theorem dX3_tellTo_95 : decode cX3_tellTo 95 = .ok (.aload_n 0, 1) := by decide +kernel
theorem dX3_tellTo_96 : decode cX3_tellTo 96 = .ok (.getfield 9, 3) := by decide +kernel
theorem dX3_tellTo_99 : decode cX3_tellTo 99 = .ok (.iload_n 2, 1) := by decide +kernel
theorem dX3_tellTo_100 : decode cX3_tellTo 100 = .ok (.baload, 1) := by decide +kernel
theorem dX3_tellTo_101 : decode cX3_tellTo 101 = .ok (.aload_n 0, 1) := by decide +kernel
theorem dX3_tellTo_102 : decode cX3_tellTo 102 = .ok (.getfield 19, 3) := by decide +kernel
theorem dX3_tellTo_105 : decode cX3_tellTo 105 = .ok (.aload_n 0, 1) := by decide +kernel
theorem dX3_tellTo_106 : decode cX3_tellTo 106 = .ok (.getfield 23, 3) := by decide +kernel
theorem dX3_tellTo_109 : decode cX3_tellTo 109 = .ok (.invokevirtual 48, 3) := by decide +kernel
theorem dX3_tellTo_112 : decode cX3_tellTo 112 = .ok (.ifCond .ne 5, 3) := by decide +kernel
theorem dX3_tellTo_115 : decode cX3_tellTo 115 = .ok (.iload_n 2, 1) := by decide +kernel
theorem dX3_tellTo_116 : decode cX3_tellTo 116 = .ok (.ireturn, 1) := by decide +kernel
theorem dX3_tellTo_117 : decode cX3_tellTo 117 = .ok (.iload_n 3, 1) := by decide +kernel
theorem dX3_tellTo_118 : decode cX3_tellTo 118 = .ok (.iconst 1, 1) := by decide +kernel
theorem dX3_tellTo_119 : decode cX3_tellTo 119 = .ok (.iadd, 1) := by decide +kernel
theorem dX3_tellTo_120 : decode cX3_tellTo 120 = .ok (.istore_n 2, 1) := by decide +kernel
theorem dX3_tellTo_121 : decode cX3_tellTo 121 = .ok (.iinc 3 1, 3) := by decide +kernel
theorem dX3_tellTo_124 : decode cX3_tellTo 124 = .ok (.goto (-116), 3) := by decide +kernel
theorem dX3_tellTo_127 : decode cX3_tellTo 127 = .ok (.iload_n 2, 1) := by decide +kernel
theorem dX3_tellTo_128 : decode cX3_tellTo 128 = .ok (.aload_n 0, 1) := by decide +kernel
theorem dX3_tellTo_129 : decode cX3_tellTo 129 = .ok (.getfield 15, 3) := by decide +kernel
theorem dX3_tellTo_132 : decode cX3_tellTo 132 = .ok (.if_icmp .ne 8, 3) := by decide +kernel
theorem dX3_tellTo_135 : decode cX3_tellTo 135 = .ok (.bipush (-4), 2) := by decide +kernel
theorem dX3_tellTo_137 : decode cX3_tellTo 137 = .ok (.goto 4, 3) := by decide +kernel
theorem dX3_tellTo_140 : decode cX3_tellTo 140 = .ok (.iload_n 2, 1) := by decide +kernel
theorem dX3_tellTo_141 : decode cX3_tellTo 141 = .ok (.ireturn, 1) := by decide +kernel
theorem dX3_startItem_0 : decode cX3_startItem 0 = .ok (.aload_n 0, 1) := by decide +kernel
theorem dX3_startItem_1 : decode cX3_startItem 1 = .ok (.iconst 0, 1) := by decide +kernel
theorem dX3_startItem_2 : decode cX3_startItem 2 = .ok (.putfield 23, 3) := by decide +kernel
theorem dX3_startItem_5 : decode cX3_startItem 5 = .ok (.aload_n 0, 1) := by decide +kernel
theorem dX3_startItem_6 : decode cX3_startItem 6 = .ok (.iconst 0, 1) := by decide +kernel
theorem dX3_startItem_7 : decode cX3_startItem 7 = .ok (.putfield 26, 3) := by decide +kernel
theorem dX3_startItem_10 : decode cX3_startItem 10 = .ok (.aload_n 0, 1) := by decide +kernel
theorem dX3_startItem_11 : decode cX3_startItem 11 = .ok (.iconst 0, 1) := by decide +kernel
theorem dX3_startItem_12 : decode cX3_startItem 12 = .ok (.putfield 29, 3) := by decide +kernel
theorem dX3_startItem_15 : decode cX3_startItem 15 = .ok (.return_, 1) := by decide +kernel
theorem dX3_addFigure_0 : decode cX3_addFigure 0 = .ok (.aload_n 0, 1) := by decide +kernel
theorem dX3_addFigure_1 : decode cX3_addFigure 1 = .ok (.getfield 26, 3) := by decide +kernel
theorem dX3_addFigure_4 : decode cX3_addFigure 4 = .ok (.iconst 3, 1) := by decide +kernel
theorem dX3_addFigure_5 : decode cX3_addFigure 5 = .ok (.if_icmp .lt 5, 3) := by decide +kernel
theorem dX3_addFigure_8 : decode cX3_addFigure 8 = .ok (.iconst 0, 1) := by decide +kernel
theorem dX3_addFigure_9 : decode cX3_addFigure 9 = .ok (.ireturn, 1) := by decide +kernel
theorem dX3_addFigure_10 : decode cX3_addFigure 10 = .ok (.aload_n 0, 1) := by decide +kernel
theorem dX3_addFigure_11 : decode cX3_addFigure 11 = .ok (.dup, 1) := by decide +kernel
theorem dX3_addFigure_12 : decode cX3_addFigure 12 = .ok (.getfield 26, 3) := by decide +kernel
theorem dX3_addFigure_15 : decode cX3_addFigure 15 = .ok (.iconst 1, 1) := by decide +kernel
theorem dX3_addFigure_16 : decode cX3_addFigure 16 = .ok (.iadd, 1) := by decide +kernel
theorem dX3_addFigure_17 : decode cX3_addFigure 17 = .ok (.putfield 26, 3) := by decide +kernel
theorem dX3_addFigure_20 : decode cX3_addFigure 20 = .ok (.aload_n 0, 1) := by decide +kernel
theorem dX3_addFigure_21 : decode cX3_addFigure 21 = .ok (.bipush 10, 2) := by decide +kernel
theorem dX3_addFigure_23 : decode cX3_addFigure 23 = .ok (.aload_n 0, 1) := by decide +kernel
theorem dX3_addFigure_24 : decode cX3_addFigure 24 = .ok (.getfield 29, 3) := by decide +kernel
theorem dX3_addFigure_27 : decode cX3_addFigure 27 = .ok (.imul, 1) := by decide +kernel
theorem dX3_addFigure_28 : decode cX3_addFigure 28 = .ok (.iload_n 1, 1) := by decide +kernel
theorem dX3_addFigure_29 : decode cX3_addFigure 29 = .ok (.iadd, 1) := by decide +kernel
theorem dX3_addFigure_30 : decode cX3_addFigure 30 = .ok (.putfield 29, 3) := by decide +kernel
theorem dX3_addFigure_33 : decode cX3_addFigure 33 = .ok (.iconst 1, 1) := by decide +kernel
theorem dX3_addFigure_34 : decode cX3_addFigure 34 = .ok (.ireturn, 1) := by decide +kernel
theorem dX3_endNumber_0 : decode cX3_endNumber 0 = .ok (.aload_n 0, 1) := by decide +kernel
theorem dX3_endNumber_1 : decode cX3_endNumber 1 = .ok (.getfield 26, 3) := by decide +kernel
theorem dX3_endNumber_4 : decode cX3_endNumber 4 = .ok (.ifCond .eq 11, 3) := by decide +kernel
theorem dX3_endNumber_7 : decode cX3_endNumber 7 = .ok (.aload_n 0, 1) := by decide +kernel
theorem dX3_endNumber_8 : decode cX3_endNumber 8 = .ok (.getfield 23, 3) := by decide +kernel
theorem dX3_endNumber_11 : decode cX3_endNumber 11 = .ok (.iconst 4, 1) := by decide +kernel
theorem dX3_endNumber_12 : decode cX3_endNumber 12 = .ok (.if_icmp .lt 5, 3) := by decide +kernel
theorem dX3_endNumber_15 : decode cX3_endNumber 15 = .ok (.iconst 0, 1) := by decide +kernel
theorem dX3_endNumber_16 : decode cX3_endNumber 16 = .ok (.ireturn, 1) := by decide +kernel
theorem dX3_endNumber_17 : decode cX3_endNumber 17 = .ok (.aload_n 0, 1) := by decide +kernel
theorem dX3_endNumber_18 : decode cX3_endNumber 18 = .ok (.getfield 19, 3) := by decide +kernel
theorem dX3_endNumber_21 : decode cX3_endNumber 21 = .ok (.aload_n 0, 1) := by decide +kernel
theorem dX3_endNumber_22 : decode cX3_endNumber 22 = .ok (.getfield 23, 3) := by decide +kernel
theorem dX3_endNumber_25 : decode cX3_endNumber 25 = .ok (.aload_n 0, 1) := by decide +kernel
theorem dX3_endNumber_26 : decode cX3_endNumber 26 = .ok (.getfield 29, 3) := by decide +kernel
theorem dX3_endNumber_29 : decode cX3_endNumber 29 = .ok (.iastore, 1) := by decide +kernel
theorem dX3_endNumber_30 : decode cX3_endNumber 30 = .ok (.aload_n 0, 1) := by decide +kernel
theorem dX3_endNumber_31 : decode cX3_endNumber 31 = .ok (.dup, 1) := by decide +kernel
theorem dX3_endNumber_32 : decode cX3_endNumber 32 = .ok (.getfield 23, 3) := by decide +kernel
theorem dX3_endNumber_35 : decode cX3_endNumber 35 = .ok (.iconst 1, 1) := by decide +kernel
theorem dX3_endNumber_36 : decode cX3_endNumber 36 = .ok (.iadd, 1) := by decide +kernel
theorem dX3_endNumber_37 : decode cX3_endNumber 37 = .ok (.putfield 23, 3) := by decide +kernel
theorem dX3_endNumber_40 : decode cX3_endNumber 40 = .ok (.aload_n 0, 1) := by decide +kernel
theorem dX3_endNumber_41 : decode cX3_endNumber 41 = .ok (.iconst 0, 1) := by decide +kernel
theorem dX3_endNumber_42 : decode cX3_endNumber 42 = .ok (.putfield 26, 3) := by decide +kernel
theorem dX3_endNumber_45 : decode cX3_endNumber 45 = .ok (.aload_n 0, 1) := by decide +kernel
theorem dX3_endNumber_46 : decode cX3_endNumber 46 = .ok (.iconst 0, 1) := by decide +kernel
theorem dX3_endNumber_47 : decode cX3_endNumber 47 = .ok (.putfield 29, 3) := by decide +kernel
theorem dX3_endNumber_50 : decode cX3_endNumber 50 = .ok (.iconst 1, 1) := by decide +kernel
theorem dX3_endNumber_51 : decode cX3_endNumber 51 = .ok (.ireturn, 1) := by decide +kernel
theorem dX4_init_0 : decode cX4_init 0 = .ok (.aload_n 0, 1) := by decide +kernel
theorem dX4_init_1 : decode cX4_init 1 = .ok (.invokespecial 3, 3) := by decide +kernel
theorem dX4_init_4 : decode cX4_init 4 = .ok (.aload_n 0, 1) := by decide +kernel
theorem dX4_init_5 : decode cX4_init 5 = .ok (.iconst 3, 1) := by decide +kernel
theorem dX4_init_6 : decode cX4_init 6 = .ok (.bipush 7, 2) := by decide +kernel
theorem dX4_init_8 : decode cX4_init 8 = .ok (.multianewarray 9 2, 4) := by decide +kernel
theorem dX4_init_12 : decode cX4_init 12 = .ok (.putfield 11, 3) := by decide +kernel
theorem dX4_init_15 : decode cX4_init 15 = .ok (.aload_n 0, 1) := by decide +kernel
theorem dX4_init_16 : decode cX4_init 16 = .ok (.iconst 0, 1) := by decide +kernel
theorem dX4_init_17 : decode cX4_init 17 = .ok (.putfield 16, 3) := by decide +kernel
theorem dX4_init_20 : decode cX4_init 20 = .ok (.aload_n 0, 1) := by decide +kernel
theorem dX4_init_21 : decode cX4_init 21 = .ok (.iconst 0, 1) := by decide +kernel
theorem dX4_init_22 : decode cX4_init 22 = .ok (.putfield 20, 3) := by decide +kernel
theorem dX4_init_25 : decode cX4_init 25 = .ok (.aload_n 0, 1) := by decide +kernel
theorem dX4_init_26 : decode cX4_init 26 = .ok (.iconst 0, 1) := by decide +kernel
theorem dX4_init_27 : decode cX4_init 27 = .ok (.putfield 23, 3) := by decide +kernel
theorem dX4_init_30 : decode cX4_init 30 = .ok (.return_, 1) := by decide +kernel
theorem dX4_choose_0 : decode cX4_choose 0 = .ok (.aload_n 0, 1) := by decide +kernel
theorem dX4_choose_1 : decode cX4_choose 1 = .ok (.iload_n 1, 1) := by decide +kernel
theorem dX4_choose_2 : decode cX4_choose 2 = .ok (.aload_n 2, 1) := by decide +kernel
theorem dX4_choose_3 : decode cX4_choose 3 = .ok (.aload_n 3, 1) := by decide +kernel
theorem dX4_choose_4 : decode cX4_choose 4 = .ok (.invokevirtual 26, 3) := by decide +kernel
theorem dX4_choose_7 : decode cX4_choose 7 = .ok (.iload_n 1, 1) := by decide +kernel
theorem dX4_choose_8 : decode cX4_choose 8 = .ok (.istore 4, 2) := by decide +kernel
theorem dX4_choose_10 : decode cX4_choose 10 = .ok (.iload 4, 2) := by decide +kernel
theorem dX4_choose_12 : decode cX4_choose 12 = .ok (.ifCond .lt 95, 3) := by decide +kernel
theorem dX4_choose_15 : decode cX4_choose 15 = .ok (.iload_n 1, 1) := by decide +kernel
theorem dX4_choose_16 : decode cX4_choose 16 = .ok (.iload 4, 2) := by decide +kernel
theorem dX4_choose_18 : decode cX4_choose 18 = .ok (.isub, 1) := by decide +kernel
theorem dX4_choose_19 : decode cX4_choose 19 = .ok (.istore 5, 2) := by decide +kernel
theorem dX4_choose_21 : decode cX4_choose 21 = .ok (.iload 5, 2) := by decide +kernel
theorem dX4_choose_23 : decode cX4_choose 23 = .ok (.ifCond .lt 78, 3) := by decide +kernel
theorem dX4_choose_26 : decode cX4_choose 26 = .ok (.aload_n 0, 1) := by decide +kernel
theorem dX4_choose_27 : decode cX4_choose 27 = .ok (.getfield 11, 3) := by decide +kernel
theorem dX4_choose_30 : decode cX4_choose 30 = .ok (.iconst 0, 1) := by decide +kernel
theorem dX4_choose_31 : decode cX4_choose 31 = .ok (.aaload, 1) := by decide +kernel
theorem dX4_choose_32 : decode cX4_choose 32 = .ok (.iload 4, 2) := by decide +kernel
theorem dX4_choose_34 : decode cX4_choose 34 = .ok (.iaload, 1) := by decide +kernel
theorem dX4_choose_35 : decode cX4_choose 35 = .ok (.aload_n 0, 1) := by decide +kernel
theorem dX4_choose_36 : decode cX4_choose 36 = .ok (.getfield 11, 3) := by decide +kernel
theorem dX4_choose_39 : decode cX4_choose 39 = .ok (.iconst 1, 1) := by decide +kernel
theorem dX4_choose_40 : decode cX4_choose 40 = .ok (.aaload, 1) := by decide +kernel
theorem dX4_choose_41 : decode cX4_choose 41 = .ok (.iload 5, 2) := by decide +kernel
theorem dX4_choose_43 : decode cX4_choose 43 = .ok (.iaload, 1) := by decide +kernel
theorem dX4_choose_44 : decode cX4_choose 44 = .ok (.iadd, 1) := by decide +kernel
theorem dX4_choose_45 : decode cX4_choose 45 = .ok (.aload_n 0, 1) := by decide +kernel
theorem dX4_choose_46 : decode cX4_choose 46 = .ok (.getfield 11, 3) := by decide +kernel
theorem dX4_choose_49 : decode cX4_choose 49 = .ok (.iconst 2, 1) := by decide +kernel
theorem dX4_choose_50 : decode cX4_choose 50 = .ok (.aaload, 1) := by decide +kernel
theorem dX4_choose_51 : decode cX4_choose 51 = .ok (.iload_n 1, 1) := by decide +kernel
theorem dX4_choose_52 : decode cX4_choose 52 = .ok (.iload 4, 2) := by decide +kernel
theorem dX4_choose_54 : decode cX4_choose 54 = .ok (.isub, 1) := by decide +kernel
theorem dX4_choose_55 : decode cX4_choose 55 = .ok (.iload 5, 2) := by decide +kernel
theorem dX4_choose_57 : decode cX4_choose 57 = .ok (.isub, 1) := by decide +kernel
theorem dX4_choose_58 : decode cX4_choose 58 = .ok (.iaload, 1) := by decide +kernel
theorem dX4_choose_59 : decode cX4_choose 59 = .ok (.iadd, 1) := by decide +kernel
theorem dX4_choose_60 : decode cX4_choose 60 = .ok (.istore 6, 2) := by decide +kernel
theorem dX4_choose_62 : decode cX4_choose 62 = .ok (.iload 4, 2) := by decide +kernel
theorem dX4_choose_64 : decode cX4_choose 64 = .ok (.iload_n 1, 1) := by decide +kernel
theorem dX4_choose_65 : decode cX4_choose 65 = .ok (.if_icmp .eq 12, 3) := by decide +kernel
theorem dX4_choose_68 : decode cX4_choose 68 = .ok (.iload 6, 2) := by decide +kernel
theorem dX4_choose_70 : decode cX4_choose 70 = .ok (.aload_n 0, 1) := by decide +kernel
theorem dX4_choose_71 : decode cX4_choose 71 = .ok (.getfield 16, 3) := by decide +kernel
theorem dX4_choose_74 : decode cX4_choose 74 = .ok (.if_icmp .ge 21, 3) := by decide +kernel
theorem dX4_choose_77 : decode cX4_choose 77 = .ok (.aload_n 0, 1) := by decide +kernel
theorem dX4_choose_78 : decode cX4_choose 78 = .ok (.iload 6, 2) := by decide +kernel
theorem dX4_choose_80 : decode cX4_choose 80 = .ok (.putfield 16, 3) := by decide +kernel
theorem dX4_choose_83 : decode cX4_choose 83 = .ok (.aload_n 0, 1) := by decide +kernel
theorem dX4_choose_84 : decode cX4_choose 84 = .ok (.iload 4, 2) := by decide +kernel
theorem dX4_choose_86 : decode cX4_choose 86 = .ok (.putfield 20, 3) := by decide +kernel
theorem dX4_choose_89 : decode cX4_choose 89 = .ok (.aload_n 0, 1) := by decide +kernel
theorem dX4_choose_90 : decode cX4_choose 90 = .ok (.iload 5, 2) := by decide +kernel
theorem dX4_choose_92 : decode cX4_choose 92 = .ok (.putfield 23, 3) := by decide +kernel
theorem dX4_choose_95 : decode cX4_choose 95 = .ok (.iinc 5 (-1), 3) := by decide +kernel
theorem dX4_choose_98 : decode cX4_choose 98 = .ok (.goto (-77), 3) := by decide +kernel
theorem dX4_choose_101 : decode cX4_choose 101 = .ok (.iinc 4 (-1), 3) := by decide +kernel
theorem dX4_choose_104 : decode cX4_choose 104 = .ok (.goto (-94), 3) := by decide +kernel
theorem dX4_choose_107 : decode cX4_choose 107 = .ok (.return_, 1) := by decide +kernel
theorem dX4_doorAt_0 : decode cX4_doorAt 0 = .ok (.iload_n 1, 1) := by decide +kernel
theorem dX4_doorAt_1 : decode cX4_doorAt 1 = .ok (.aload_n 0, 1) := by decide +kernel
theorem dX4_doorAt_2 : decode cX4_doorAt 2 = .ok (.getfield 20, 3) := by decide +kernel
theorem dX4_doorAt_5 : decode cX4_doorAt 5 = .ok (.if_icmp .ge 5, 3) := by decide +kernel
theorem dX4_doorAt_8 : decode cX4_doorAt 8 = .ok (.iconst 0, 1) := by decide +kernel
theorem dX4_doorAt_9 : decode cX4_doorAt 9 = .ok (.ireturn, 1) := by decide +kernel
theorem dX4_doorAt_10 : decode cX4_doorAt 10 = .ok (.iload_n 1, 1) := by decide +kernel
theorem dX4_doorAt_11 : decode cX4_doorAt 11 = .ok (.aload_n 0, 1) := by decide +kernel
theorem dX4_doorAt_12 : decode cX4_doorAt 12 = .ok (.getfield 20, 3) := by decide +kernel
theorem dX4_doorAt_15 : decode cX4_doorAt 15 = .ok (.aload_n 0, 1) := by decide +kernel
theorem dX4_doorAt_16 : decode cX4_doorAt 16 = .ok (.getfield 23, 3) := by decide +kernel
theorem dX4_doorAt_19 : decode cX4_doorAt 19 = .ok (.iadd, 1) := by decide +kernel
theorem dX4_doorAt_20 : decode cX4_doorAt 20 = .ok (.if_icmp .ge 7, 3) := by decide +kernel
theorem dX4_doorAt_23 : decode cX4_doorAt 23 = .ok (.iconst 1, 1) := by decide +kernel
theorem dX4_doorAt_24 : decode cX4_doorAt 24 = .ok (.goto 4, 3) := by decide +kernel
theorem dX4_doorAt_27 : decode cX4_doorAt 27 = .ok (.iconst 2, 1) := by decide +kernel
theorem dX4_doorAt_28 : decode cX4_doorAt 28 = .ok (.ireturn, 1) := by decide +kernel
theorem dX4_weigh_0 : decode cX4_weigh 0 = .ok (.iconst 0, 1) := by decide +kernel
theorem dX4_weigh_1 : decode cX4_weigh 1 = .ok (.istore 4, 2) := by decide +kernel
theorem dX4_weigh_3 : decode cX4_weigh 3 = .ok (.iload 4, 2) := by decide +kernel
theorem dX4_weigh_5 : decode cX4_weigh 5 = .ok (.iload_n 1, 1) := by decide +kernel
theorem dX4_weigh_6 : decode cX4_weigh 6 = .ok (.if_icmp .gt 98, 3) := by decide +kernel
theorem dX4_weigh_9 : decode cX4_weigh 9 = .ok (.iconst 0, 1) := by decide +kernel
theorem dX4_weigh_10 : decode cX4_weigh 10 = .ok (.istore 5, 2) := by decide +kernel
theorem dX4_weigh_12 : decode cX4_weigh 12 = .ok (.iload 5, 2) := by decide +kernel
theorem dX4_weigh_14 : decode cX4_weigh 14 = .ok (.iconst 3, 1) := by decide +kernel
theorem dX4_weigh_15 : decode cX4_weigh 15 = .ok (.if_icmp .ge 20, 3) := by decide +kernel
theorem dX4_weigh_18 : decode cX4_weigh 18 = .ok (.aload_n 0, 1) := by decide +kernel
theorem dX4_weigh_19 : decode cX4_weigh 19 = .ok (.getfield 11, 3) := by decide +kernel
theorem dX4_weigh_22 : decode cX4_weigh 22 = .ok (.iload 5, 2) := by decide +kernel
theorem dX4_weigh_24 : decode cX4_weigh 24 = .ok (.aaload, 1) := by decide +kernel
theorem dX4_weigh_25 : decode cX4_weigh 25 = .ok (.iload 4, 2) := by decide +kernel
theorem dX4_weigh_27 : decode cX4_weigh 27 = .ok (.iconst 0, 1) := by decide +kernel
theorem dX4_weigh_28 : decode cX4_weigh 28 = .ok (.iastore, 1) := by decide +kernel
theorem dX4_weigh_29 : decode cX4_weigh 29 = .ok (.iinc 5 1, 3) := by decide +kernel
theorem dX4_weigh_32 : decode cX4_weigh 32 = .ok (.goto (-20), 3) := by decide +kernel
theorem dX4_weigh_35 : decode cX4_weigh 35 = .ok (.iconst 0, 1) := by decide +kernel
theorem dX4_weigh_36 : decode cX4_weigh 36 = .ok (.istore 5, 2) := by decide +kernel
theorem dX4_weigh_38 : decode cX4_weigh 38 = .ok (.iload 5, 2) := by decide +kernel
theorem dX4_weigh_40 : decode cX4_weigh 40 = .ok (.aload_n 2, 1) := by decide +kernel
theorem dX4_weigh_41 : decode cX4_weigh 41 = .ok (.getfield 30, 3) := by decide +kernel
theorem dX4_weigh_44 : decode cX4_weigh 44 = .ok (.if_icmp .ge 54, 3) := by decide +kernel
theorem dX4_weigh_47 : decode cX4_weigh 47 = .ok (.aload_n 2, 1) := by decide +kernel
theorem dX4_weigh_48 : decode cX4_weigh 48 = .ok (.getfield 35, 3) := by decide +kernel
theorem dX4_weigh_51 : decode cX4_weigh 51 = .ok (.iload 5, 2) := by decide +kernel
theorem dX4_weigh_53 : decode cX4_weigh 53 = .ok (.iaload, 1) := by decide +kernel
theorem dX4_weigh_54 : decode cX4_weigh 54 = .ok (.iload 4, 2) := by decide +kernel
theorem dX4_weigh_56 : decode cX4_weigh 56 = .ok (.aload_n 3, 1) := by decide +kernel
theorem dX4_weigh_57 : decode cX4_weigh 57 = .ok (.getfield 39, 3) := by decide +kernel
theorem dX4_weigh_60 : decode cX4_weigh 60 = .ok (.imul, 1) := by decide +kernel
theorem dX4_weigh_61 : decode cX4_weigh 61 = .ok (.invokestatic 44, 3) := by decide +kernel
theorem dX4_weigh_64 : decode cX4_weigh 64 = .ok (.istore 6, 2) := by decide +kernel
theorem dX4_weigh_66 : decode cX4_weigh 66 = .ok (.aload_n 0, 1) := by decide +kernel
theorem dX4_weigh_67 : decode cX4_weigh 67 = .ok (.getfield 11, 3) := by decide +kernel
theorem dX4_weigh_70 : decode cX4_weigh 70 = .ok (.aload_n 2, 1) := by decide +kernel
theorem dX4_weigh_71 : decode cX4_weigh 71 = .ok (.iload 5, 2) := by decide +kernel
theorem dX4_weigh_73 : decode cX4_weigh 73 = .ok (.invokevirtual 50, 3) := by decide +kernel
theorem dX4_weigh_76 : decode cX4_weigh 76 = .ok (.aaload, 1) := by decide +kernel
theorem dX4_weigh_77 : decode cX4_weigh 77 = .ok (.iload 4, 2) := by decide +kernel
theorem dX4_weigh_79 : decode cX4_weigh 79 = .ok (.dup2, 1) := by decide +kernel
theorem dX4_weigh_80 : decode cX4_weigh 80 = .ok (.iaload, 1) := by decide +kernel
theorem dX4_weigh_81 : decode cX4_weigh 81 = .ok (.iload 6, 2) := by decide +kernel
theorem dX4_weigh_83 : decode cX4_weigh 83 = .ok (.aload_n 3, 1) := by decide +kernel
theorem dX4_weigh_84 : decode cX4_weigh 84 = .ok (.iload 5, 2) := by decide +kernel
theorem dX4_weigh_86 : decode cX4_weigh 86 = .ok (.invokevirtual 54, 3) := by decide +kernel
theorem dX4_weigh_89 : decode cX4_weigh 89 = .ok (.imul, 1) := by decide +kernel
theorem dX4_weigh_90 : decode cX4_weigh 90 = .ok (.iadd, 1) := by decide +kernel
theorem dX4_weigh_91 : decode cX4_weigh 91 = .ok (.iastore, 1) := by decide +kernel
theorem dX4_weigh_92 : decode cX4_weigh 92 = .ok (.iinc 5 1, 3) := by decide +kernel
theorem dX4_weigh_95 : decode cX4_weigh 95 = .ok (.goto (-57), 3) := by decide +kernel
theorem dX4_weigh_98 : decode cX4_weigh 98 = .ok (.iinc 4 1, 3) := by decide +kernel
theorem dX4_weigh_101 : decode cX4_weigh 101 = .ok (.goto (-98), 3) := by decide +kernel
theorem dX4_weigh_104 : decode cX4_weigh 104 = .ok (.return_, 1) := by decide +kernel
theorem dX5_init_0 : decode cX5_init 0 = .ok (.aload_n 0, 1) := by decide +kernel
theorem dX5_init_1 : decode cX5_init 1 = .ok (.invokespecial 3, 3) := by decide +kernel
theorem dX5_init_4 : decode cX5_init 4 = .ok (.aload_n 0, 1) := by decide +kernel
theorem dX5_init_5 : decode cX5_init 5 = .ok (.bipush 12, 2) := by decide +kernel
theorem dX5_init_7 : decode cX5_init 7 = .ok (.newarray .int, 2) := by decide +kernel
theorem dX5_init_9 : decode cX5_init 9 = .ok (.putfield 9, 3) := by decide +kernel
theorem dX5_init_12 : decode cX5_init 12 = .ok (.aload_n 0, 1) := by decide +kernel
theorem dX5_init_13 : decode cX5_init 13 = .ok (.bipush 12, 2) := by decide +kernel
theorem dX5_init_15 : decode cX5_init 15 = .ok (.newarray .int, 2) := by decide +kernel
theorem dX5_init_17 : decode cX5_init 17 = .ok (.putfield 15, 3) := by decide +kernel
theorem dX5_init_20 : decode cX5_init 20 = .ok (.aload_n 0, 1) := by decide +kernel
theorem dX5_init_21 : decode cX5_init 21 = .ok (.bipush 12, 2) := by decide +kernel
theorem dX5_init_23 : decode cX5_init 23 = .ok (.newarray .int, 2) := by decide +kernel
theorem dX5_init_25 : decode cX5_init 25 = .ok (.putfield 18, 3) := by decide +kernel
theorem dX5_init_28 : decode cX5_init 28 = .ok (.aload_n 0, 1) := by decide +kernel
theorem dX5_init_29 : decode cX5_init 29 = .ok (.bipush 12, 2) := by decide +kernel
theorem dX5_init_31 : decode cX5_init 31 = .ok (.newarray .int, 2) := by decide +kernel
theorem dX5_init_33 : decode cX5_init 33 = .ok (.putfield 21, 3) := by decide +kernel
theorem dX5_init_36 : decode cX5_init 36 = .ok (.aload_n 0, 1) := by decide +kernel
theorem dX5_init_37 : decode cX5_init 37 = .ok (.bipush 100, 2) := by decide +kernel
theorem dX5_init_39 : decode cX5_init 39 = .ok (.newarray .int, 2) := by decide +kernel
theorem dX5_init_41 : decode cX5_init 41 = .ok (.putfield 24, 3) := by decide +kernel
theorem dX5_init_44 : decode cX5_init 44 = .ok (.aload_n 0, 1) := by decide +kernel
theorem dX5_init_45 : decode cX5_init 45 = .ok (.invokevirtual 27, 3) := by decide +kernel
theorem dX5_init_48 : decode cX5_init 48 = .ok (.return_, 1) := by decide +kernel
theorem dX5_forget_0 : decode cX5_forget 0 = .ok (.aload_n 0, 1) := by decide +kernel
theorem dX5_forget_1 : decode cX5_forget 1 = .ok (.sipush 400, 3) := by decide +kernel
theorem dX5_forget_4 : decode cX5_forget 4 = .ok (.putfield 30, 3) := by decide +kernel
theorem dX5_forget_7 : decode cX5_forget 7 = .ok (.aload_n 0, 1) := by decide +kernel
theorem dX5_forget_8 : decode cX5_forget 8 = .ok (.bipush 60, 2) := by decide +kernel
theorem dX5_forget_10 : decode cX5_forget 10 = .ok (.putfield 34, 3) := by decide +kernel
theorem dX5_forget_13 : decode cX5_forget 13 = .ok (.aload_n 0, 1) := by decide +kernel
theorem dX5_forget_14 : decode cX5_forget 14 = .ok (.iconst 5, 1) := by decide +kernel
theorem dX5_forget_15 : decode cX5_forget 15 = .ok (.putfield 37, 3) := by decide +kernel
theorem dX5_forget_18 : decode cX5_forget 18 = .ok (.aload_n 0, 1) := by decide +kernel
theorem dX5_forget_19 : decode cX5_forget 19 = .ok (.iconst 1, 1) := by decide +kernel
theorem dX5_forget_20 : decode cX5_forget 20 = .ok (.putfield 40, 3) := by decide +kernel
theorem dX5_forget_23 : decode cX5_forget 23 = .ok (.aload_n 0, 1) := by decide +kernel
theorem dX5_forget_24 : decode cX5_forget 24 = .ok (.iconst 0, 1) := by decide +kernel
theorem dX5_forget_25 : decode cX5_forget 25 = .ok (.putfield 43, 3) := by decide +kernel
theorem dX5_forget_28 : decode cX5_forget 28 = .ok (.aload_n 0, 1) := by decide +kernel
theorem dX5_forget_29 : decode cX5_forget 29 = .ok (.iconst 0, 1) := by decide +kernel
theorem dX5_forget_30 : decode cX5_forget 30 = .ok (.putfield 46, 3) := by decide +kernel
theorem dX5_forget_33 : decode cX5_forget 33 = .ok (.aload_n 0, 1) := by decide +kernel
theorem dX5_forget_34 : decode cX5_forget 34 = .ok (.getfield 24, 3) := by decide +kernel
theorem dX5_forget_37 : decode cX5_forget 37 = .ok (.bipush 10, 2) := by decide +kernel
theorem dX5_forget_39 : decode cX5_forget 39 = .ok (.invokestatic 49, 3) := by decide +kernel
theorem dX5_forget_42 : decode cX5_forget 42 = .ok (.return_, 1) := by decide +kernel
theorem dX5_take_0 : decode cX5_take 0 = .ok (.iload_n 1, 1) := by decide +kernel
theorem dX5_take_1 : decode cX5_take 1 = .ok (.lookupswitch 159 #[(98, 59), (102, 83), (112, 113), (115, 137), (116, 137), (118, 137)], 59) := by decide +kernel
theorem dX5_take_60 : decode cX5_take 60 = .ok (.iload_n 3, 1) := by decide +kernel
theorem dX5_take_61 : decode cX5_take 61 = .ok (.iconst 2, 1) := by decide +kernel
theorem dX5_take_62 : decode cX5_take 62 = .ok (.if_icmp .ne 20, 3) := by decide +kernel
theorem dX5_take_65 : decode cX5_take 65 = .ok (.aload_n 0, 1) := by decide +kernel
theorem dX5_take_66 : decode cX5_take 66 = .ok (.aload_n 2, 1) := by decide +kernel
theorem dX5_take_67 : decode cX5_take 67 = .ok (.iconst 0, 1) := by decide +kernel
theorem dX5_take_68 : decode cX5_take 68 = .ok (.iaload, 1) := by decide +kernel
theorem dX5_take_69 : decode cX5_take 69 = .ok (.aload_n 2, 1) := by decide +kernel
theorem dX5_take_70 : decode cX5_take 70 = .ok (.iconst 1, 1) := by decide +kernel
theorem dX5_take_71 : decode cX5_take 71 = .ok (.iaload, 1) := by decide +kernel
theorem dX5_take_72 : decode cX5_take 72 = .ok (.invokevirtual 55, 3) := by decide +kernel
theorem dX5_take_75 : decode cX5_take 75 = .ok (.ifCond .eq 7, 3) := by decide +kernel
theorem dX5_take_78 : decode cX5_take 78 = .ok (.iconst 1, 1) := by decide +kernel
theorem dX5_take_79 : decode cX5_take 79 = .ok (.goto 4, 3) := by decide +kernel
theorem dX5_take_82 : decode cX5_take 82 = .ok (.iconst 0, 1) := by decide +kernel
theorem dX5_take_83 : decode cX5_take 83 = .ok (.ireturn, 1) := by decide +kernel
theorem dX5_take_84 : decode cX5_take 84 = .ok (.iload_n 3, 1) := by decide +kernel
theorem dX5_take_85 : decode cX5_take 85 = .ok (.iconst 4, 1) := by decide +kernel
theorem dX5_take_86 : decode cX5_take 86 = .ok (.if_icmp .ne 26, 3) := by decide +kernel
theorem dX5_take_89 : decode cX5_take 89 = .ok (.aload_n 0, 1) := by decide +kernel
theorem dX5_take_90 : decode cX5_take 90 = .ok (.aload_n 2, 1) := by decide +kernel
theorem dX5_take_91 : decode cX5_take 91 = .ok (.iconst 0, 1) := by decide +kernel
theorem dX5_take_92 : decode cX5_take 92 = .ok (.iaload, 1) := by decide +kernel
theorem dX5_take_93 : decode cX5_take 93 = .ok (.aload_n 2, 1) := by decide +kernel
theorem dX5_take_94 : decode cX5_take 94 = .ok (.iconst 1, 1) := by decide +kernel
theorem dX5_take_95 : decode cX5_take 95 = .ok (.iaload, 1) := by decide +kernel
theorem dX5_take_96 : decode cX5_take 96 = .ok (.aload_n 2, 1) := by decide +kernel
theorem dX5_take_97 : decode cX5_take 97 = .ok (.iconst 2, 1) := by decide +kernel
theorem dX5_take_98 : decode cX5_take 98 = .ok (.iaload, 1) := by decide +kernel
theorem dX5_take_99 : decode cX5_take 99 = .ok (.aload_n 2, 1) := by decide +kernel
theorem dX5_take_100 : decode cX5_take 100 = .ok (.iconst 3, 1) := by decide +kernel
theorem dX5_take_101 : decode cX5_take 101 = .ok (.iaload, 1) := by decide +kernel
theorem dX5_take_102 : decode cX5_take 102 = .ok (.invokevirtual 59, 3) := by decide +kernel
theorem dX5_take_105 : decode cX5_take 105 = .ok (.ifCond .eq 7, 3) := by decide +kernel
theorem dX5_take_108 : decode cX5_take 108 = .ok (.iconst 1, 1) := by decide +kernel
theorem dX5_take_109 : decode cX5_take 109 = .ok (.goto 4, 3) := by decide +kernel
theorem dX5_take_112 : decode cX5_take 112 = .ok (.iconst 0, 1) := by decide +kernel
theorem dX5_take_113 : decode cX5_take 113 = .ok (.ireturn, 1) := by decide +kernel
theorem dX5_take_114 : decode cX5_take 114 = .ok (.iload_n 3, 1) := by decide +kernel
theorem dX5_take_115 : decode cX5_take 115 = .ok (.iconst 2, 1) := by decide +kernel
theorem dX5_take_116 : decode cX5_take 116 = .ok (.if_icmp .ne 20, 3) := by decide +kernel
theorem dX5_take_119 : decode cX5_take 119 = .ok (.aload_n 0, 1) := by decide +kernel
theorem dX5_take_120 : decode cX5_take 120 = .ok (.aload_n 2, 1) := by decide +kernel
theorem dX5_take_121 : decode cX5_take 121 = .ok (.iconst 0, 1) := by decide +kernel
theorem dX5_take_122 : decode cX5_take 122 = .ok (.iaload, 1) := by decide +kernel
theorem dX5_take_123 : decode cX5_take 123 = .ok (.aload_n 2, 1) := by decide +kernel
theorem dX5_take_124 : decode cX5_take 124 = .ok (.iconst 1, 1) := by decide +kernel
theorem dX5_take_125 : decode cX5_take 125 = .ok (.iaload, 1) := by decide +kernel
theorem dX5_take_126 : decode cX5_take 126 = .ok (.invokevirtual 63, 3) := by decide +kernel
theorem dX5_take_129 : decode cX5_take 129 = .ok (.ifCond .eq 7, 3) := by decide +kernel
theorem dX5_take_132 : decode cX5_take 132 = .ok (.iconst 1, 1) := by decide +kernel
theorem dX5_take_133 : decode cX5_take 133 = .ok (.goto 4, 3) := by decide +kernel
theorem dX5_take_136 : decode cX5_take 136 = .ok (.iconst 0, 1) := by decide +kernel
theorem dX5_take_137 : decode cX5_take 137 = .ok (.ireturn, 1) := by decide +kernel
theorem dX5_take_138 : decode cX5_take 138 = .ok (.iload_n 3, 1) := by decide +kernel
theorem dX5_take_139 : decode cX5_take 139 = .ok (.iconst 1, 1) := by decide +kernel
theorem dX5_take_140 : decode cX5_take 140 = .ok (.if_icmp .ne 18, 3) := by decide +kernel
theorem dX5_take_143 : decode cX5_take 143 = .ok (.aload_n 0, 1) := by decide +kernel
theorem dX5_take_144 : decode cX5_take 144 = .ok (.iload_n 1, 1) := by decide +kernel
theorem dX5_take_145 : decode cX5_take 145 = .ok (.aload_n 2, 1) := by decide +kernel
theorem dX5_take_146 : decode cX5_take 146 = .ok (.iconst 0, 1) := by decide +kernel
theorem dX5_take_147 : decode cX5_take 147 = .ok (.iaload, 1) := by decide +kernel
theorem dX5_take_148 : decode cX5_take 148 = .ok (.invokevirtual 66, 3) := by decide +kernel
theorem dX5_take_151 : decode cX5_take 151 = .ok (.ifCond .eq 7, 3) := by decide +kernel
theorem dX5_take_154 : decode cX5_take 154 = .ok (.iconst 1, 1) := by decide +kernel
theorem dX5_take_155 : decode cX5_take 155 = .ok (.goto 4, 3) := by decide +kernel
theorem dX5_take_158 : decode cX5_take 158 = .ok (.iconst 0, 1) := by decide +kernel
theorem dX5_take_159 : decode cX5_take 159 = .ok (.ireturn, 1) := by decide +kernel
theorem dX5_take_160 : decode cX5_take 160 = .ok (.iconst 0, 1) := by decide +kernel
theorem dX5_take_161 : decode cX5_take 161 = .ok (.ireturn, 1) := by decide +kernel
theorem dX5_setBarn_0 : decode cX5_setBarn 0 = .ok (.iload_n 1, 1) := by decide +kernel
theorem dX5_setBarn_1 : decode cX5_setBarn 1 = .ok (.iconst 1, 1) := by decide +kernel
theorem dX5_setBarn_2 : decode cX5_setBarn 2 = .ok (.sipush 999, 3) := by decide +kernel
theorem dX5_setBarn_5 : decode cX5_setBarn 5 = .ok (.invokestatic 69, 3) := by decide +kernel
theorem dX5_setBarn_8 : decode cX5_setBarn 8 = .ok (.ifCond .eq 13, 3) := by decide +kernel
theorem dX5_setBarn_11 : decode cX5_setBarn 11 = .ok (.iload_n 2, 1) := by decide +kernel
theorem dX5_setBarn_12 : decode cX5_setBarn 12 = .ok (.iconst 1, 1) := by decide +kernel
theorem dX5_setBarn_13 : decode cX5_setBarn 13 = .ok (.bipush 99, 2) := by decide +kernel
theorem dX5_setBarn_15 : decode cX5_setBarn 15 = .ok (.invokestatic 69, 3) := by decide +kernel
theorem dX5_setBarn_18 : decode cX5_setBarn 18 = .ok (.ifCond .ne 5, 3) := by decide +kernel
theorem dX5_setBarn_21 : decode cX5_setBarn 21 = .ok (.iconst 0, 1) := by decide +kernel
theorem dX5_setBarn_22 : decode cX5_setBarn 22 = .ok (.ireturn, 1) := by decide +kernel
theorem dX5_setBarn_23 : decode cX5_setBarn 23 = .ok (.aload_n 0, 1) := by decide +kernel
theorem dX5_setBarn_24 : decode cX5_setBarn 24 = .ok (.iload_n 1, 1) := by decide +kernel
theorem dX5_setBarn_25 : decode cX5_setBarn 25 = .ok (.putfield 30, 3) := by decide +kernel
theorem dX5_setBarn_28 : decode cX5_setBarn 28 = .ok (.aload_n 0, 1) := by decide +kernel
theorem dX5_setBarn_29 : decode cX5_setBarn 29 = .ok (.iload_n 2, 1) := by decide +kernel
theorem dX5_setBarn_30 : decode cX5_setBarn 30 = .ok (.putfield 34, 3) := by decide +kernel
theorem dX5_setBarn_33 : decode cX5_setBarn 33 = .ok (.iconst 1, 1) := by decide +kernel
theorem dX5_setBarn_34 : decode cX5_setBarn 34 = .ok (.ireturn, 1) := by decide +kernel
theorem dX5_addFall_0 : decode cX5_addFall 0 = .ok (.iload_n 1, 1) := by decide +kernel
theorem dX5_addFall_1 : decode cX5_addFall 1 = .ok (.invokestatic 73, 3) := by decide +kernel
theorem dX5_addFall_4 : decode cX5_addFall 4 = .ok (.ifCond .eq 38, 3) := by decide +kernel
theorem dX5_addFall_7 : decode cX5_addFall 7 = .ok (.iload_n 2, 1) := by decide +kernel
theorem dX5_addFall_8 : decode cX5_addFall 8 = .ok (.iconst 1, 1) := by decide +kernel
theorem dX5_addFall_9 : decode cX5_addFall 9 = .ok (.bipush 20, 2) := by decide +kernel
theorem dX5_addFall_11 : decode cX5_addFall 11 = .ok (.invokestatic 69, 3) := by decide +kernel
theorem dX5_addFall_14 : decode cX5_addFall 14 = .ok (.ifCond .eq 28, 3) := by decide +kernel
theorem dX5_addFall_17 : decode cX5_addFall 17 = .ok (.iload_n 3, 1) := by decide +kernel
theorem dX5_addFall_18 : decode cX5_addFall 18 = .ok (.iconst 1, 1) := by decide +kernel
theorem dX5_addFall_19 : decode cX5_addFall 19 = .ok (.bipush 9, 2) := by decide +kernel
theorem dX5_addFall_21 : decode cX5_addFall 21 = .ok (.invokestatic 69, 3) := by decide +kernel
theorem dX5_addFall_24 : decode cX5_addFall 24 = .ok (.ifCond .eq 18, 3) := by decide +kernel
theorem dX5_addFall_27 : decode cX5_addFall 27 = .ok (.iload 4, 2) := by decide +kernel
theorem dX5_addFall_29 : decode cX5_addFall 29 = .ok (.iconst 0, 1) := by decide +kernel
theorem dX5_addFall_30 : decode cX5_addFall 30 = .ok (.bipush 9, 2) := by decide +kernel
theorem dX5_addFall_32 : decode cX5_addFall 32 = .ok (.invokestatic 69, 3) := by decide +kernel
theorem dX5_addFall_35 : decode cX5_addFall 35 = .ok (.ifCond .eq 7, 3) := by decide +kernel
theorem dX5_addFall_38 : decode cX5_addFall 38 = .ok (.iconst 1, 1) := by decide +kernel
theorem dX5_addFall_39 : decode cX5_addFall 39 = .ok (.goto 4, 3) := by decide +kernel
theorem dX5_addFall_42 : decode cX5_addFall 42 = .ok (.iconst 0, 1) := by decide +kernel
theorem dX5_addFall_43 : decode cX5_addFall 43 = .ok (.istore 5, 2) := by decide +kernel
theorem dX5_addFall_45 : decode cX5_addFall 45 = .ok (.iload 5, 2) := by decide +kernel
theorem dX5_addFall_47 : decode cX5_addFall 47 = .ok (.ifCond .eq 34, 3) := by decide +kernel
theorem dX5_addFall_50 : decode cX5_addFall 50 = .ok (.aload_n 0, 1) := by decide +kernel
theorem dX5_addFall_51 : decode cX5_addFall 51 = .ok (.getfield 46, 3) := by decide +kernel
theorem dX5_addFall_54 : decode cX5_addFall 54 = .ok (.bipush 12, 2) := by decide +kernel
theorem dX5_addFall_56 : decode cX5_addFall 56 = .ok (.if_icmp .ge 25, 3) := by decide +kernel
theorem dX5_addFall_59 : decode cX5_addFall 59 = .ok (.aload_n 0, 1) := by decide +kernel
theorem dX5_addFall_60 : decode cX5_addFall 60 = .ok (.getfield 46, 3) := by decide +kernel
theorem dX5_addFall_63 : decode cX5_addFall 63 = .ok (.ifCond .le 20, 3) := by decide +kernel
theorem dX5_addFall_66 : decode cX5_addFall 66 = .ok (.iload_n 1, 1) := by decide +kernel
theorem dX5_addFall_67 : decode cX5_addFall 67 = .ok (.aload_n 0, 1) := by decide +kernel
theorem dX5_addFall_68 : decode cX5_addFall 68 = .ok (.getfield 9, 3) := by decide +kernel
theorem dX5_addFall_71 : decode cX5_addFall 71 = .ok (.aload_n 0, 1) := by decide +kernel
theorem dX5_addFall_72 : decode cX5_addFall 72 = .ok (.getfield 46, 3) := by decide +kernel
theorem dX5_addFall_75 : decode cX5_addFall 75 = .ok (.iconst 1, 1) := by decide +kernel
theorem dX5_addFall_76 : decode cX5_addFall 76 = .ok (.isub, 1) := by decide +kernel
theorem dX5_addFall_77 : decode cX5_addFall 77 = .ok (.iaload, 1) := by decide +kernel
theorem dX5_addFall_78 : decode cX5_addFall 78 = .ok (.if_icmp .ge 5, 3) := by decide +kernel
theorem dX5_addFall_81 : decode cX5_addFall 81 = .ok (.iconst 0, 1) := by decide +kernel
theorem dX5_addFall_82 : decode cX5_addFall 82 = .ok (.ireturn, 1) := by decide +kernel
theorem dX5_addFall_83 : decode cX5_addFall 83 = .ok (.aload_n 0, 1) := by decide +kernel
theorem dX5_addFall_84 : decode cX5_addFall 84 = .ok (.getfield 9, 3) := by decide +kernel
theorem dX5_addFall_87 : decode cX5_addFall 87 = .ok (.aload_n 0, 1) := by decide +kernel
theorem dX5_addFall_88 : decode cX5_addFall 88 = .ok (.getfield 46, 3) := by decide +kernel
theorem dX5_addFall_91 : decode cX5_addFall 91 = .ok (.iload_n 1, 1) := by decide +kernel
theorem dX5_addFall_92 : decode cX5_addFall 92 = .ok (.iastore, 1) := by decide +kernel
theorem dX5_addFall_93 : decode cX5_addFall 93 = .ok (.aload_n 0, 1) := by decide +kernel
theorem dX5_addFall_94 : decode cX5_addFall 94 = .ok (.getfield 15, 3) := by decide +kernel
theorem dX5_addFall_97 : decode cX5_addFall 97 = .ok (.aload_n 0, 1) := by decide +kernel
theorem dX5_addFall_98 : decode cX5_addFall 98 = .ok (.getfield 46, 3) := by decide +kernel
theorem dX5_addFall_101 : decode cX5_addFall 101 = .ok (.iload_n 2, 1) := by decide +kernel
theorem dX5_addFall_102 : decode cX5_addFall 102 = .ok (.iastore, 1) := by decide +kernel
theorem dX5_addFall_103 : decode cX5_addFall 103 = .ok (.aload_n 0, 1) := by decide +kernel
theorem dX5_addFall_104 : decode cX5_addFall 104 = .ok (.getfield 18, 3) := by decide +kernel
theorem dX5_addFall_107 : decode cX5_addFall 107 = .ok (.aload_n 0, 1) := by decide +kernel
theorem dX5_addFall_108 : decode cX5_addFall 108 = .ok (.getfield 46, 3) := by decide +kernel
theorem dX5_addFall_111 : decode cX5_addFall 111 = .ok (.iload_n 3, 1) := by decide +kernel
theorem dX5_addFall_112 : decode cX5_addFall 112 = .ok (.iastore, 1) := by decide +kernel
theorem dX5_addFall_113 : decode cX5_addFall 113 = .ok (.aload_n 0, 1) := by decide +kernel
theorem dX5_addFall_114 : decode cX5_addFall 114 = .ok (.getfield 21, 3) := by decide +kernel
theorem dX5_addFall_117 : decode cX5_addFall 117 = .ok (.aload_n 0, 1) := by decide +kernel
theorem dX5_addFall_118 : decode cX5_addFall 118 = .ok (.getfield 46, 3) := by decide +kernel
theorem dX5_addFall_121 : decode cX5_addFall 121 = .ok (.iload 4, 2) := by decide +kernel
theorem dX5_addFall_123 : decode cX5_addFall 123 = .ok (.iastore, 1) := by decide +kernel
theorem dX5_addFall_124 : decode cX5_addFall 124 = .ok (.aload_n 0, 1) := by decide +kernel
theorem dX5_addFall_125 : decode cX5_addFall 125 = .ok (.dup, 1) := by decide +kernel
theorem dX5_addFall_126 : decode cX5_addFall 126 = .ok (.getfield 46, 3) := by decide +kernel
theorem dX5_addFall_129 : decode cX5_addFall 129 = .ok (.iconst 1, 1) := by decide +kernel
theorem dX5_addFall_130 : decode cX5_addFall 130 = .ok (.iadd, 1) := by decide +kernel
theorem dX5_addFall_131 : decode cX5_addFall 131 = .ok (.putfield 46, 3) := by decide +kernel
theorem dX5_addFall_134 : decode cX5_addFall 134 = .ok (.iconst 1, 1) := by decide +kernel
theorem dX5_addFall_135 : decode cX5_addFall 135 = .ok (.ireturn, 1) := by decide +kernel
theorem dX5_setCost_0 : decode cX5_setCost 0 = .ok (.iload_n 1, 1) := by decide +kernel
theorem dX5_setCost_1 : decode cX5_setCost 1 = .ok (.invokestatic 73, 3) := by decide +kernel
theorem dX5_setCost_4 : decode cX5_setCost 4 = .ok (.ifCond .eq 13, 3) := by decide +kernel
theorem dX5_setCost_7 : decode cX5_setCost 7 = .ok (.iload_n 2, 1) := by decide +kernel
theorem dX5_setCost_8 : decode cX5_setCost 8 = .ok (.iconst 0, 1) := by decide +kernel
theorem dX5_setCost_9 : decode cX5_setCost 9 = .ok (.bipush 99, 2) := by decide +kernel
theorem dX5_setCost_11 : decode cX5_setCost 11 = .ok (.invokestatic 69, 3) := by decide +kernel
theorem dX5_setCost_14 : decode cX5_setCost 14 = .ok (.ifCond .ne 5, 3) := by decide +kernel
theorem dX5_setCost_17 : decode cX5_setCost 17 = .ok (.iconst 0, 1) := by decide +kernel
theorem dX5_setCost_18 : decode cX5_setCost 18 = .ok (.ireturn, 1) := by decide +kernel
theorem dX5_setCost_19 : decode cX5_setCost 19 = .ok (.aload_n 0, 1) := by decide +kernel
theorem dX5_setCost_20 : decode cX5_setCost 20 = .ok (.getfield 24, 3) := by decide +kernel
theorem dX5_setCost_23 : decode cX5_setCost 23 = .ok (.iload_n 1, 1) := by decide +kernel
theorem dX5_setCost_24 : decode cX5_setCost 24 = .ok (.iload_n 2, 1) := by decide +kernel
theorem dX5_setCost_25 : decode cX5_setCost 25 = .ok (.iastore, 1) := by decide +kernel
theorem dX5_setCost_26 : decode cX5_setCost 26 = .ok (.iconst 1, 1) := by decide +kernel
theorem dX5_setCost_27 : decode cX5_setCost 27 = .ok (.ireturn, 1) := by decide +kernel
theorem dX5_setOne_0 : decode cX5_setOne 0 = .ok (.iload_n 1, 1) := by decide +kernel
theorem dX5_setOne_1 : decode cX5_setOne 1 = .ok (.bipush 116, 2) := by decide +kernel
theorem dX5_setOne_3 : decode cX5_setOne 3 = .ok (.if_icmp .ne 21, 3) := by decide +kernel
theorem dX5_setOne_6 : decode cX5_setOne 6 = .ok (.iload_n 2, 1) := by decide +kernel
theorem dX5_setOne_7 : decode cX5_setOne 7 = .ok (.iconst 1, 1) := by decide +kernel
theorem dX5_setOne_8 : decode cX5_setOne 8 = .ok (.bipush 50, 2) := by decide +kernel
theorem dX5_setOne_10 : decode cX5_setOne 10 = .ok (.invokestatic 69, 3) := by decide +kernel
theorem dX5_setOne_13 : decode cX5_setOne 13 = .ok (.ifCond .eq 11, 3) := by decide +kernel
theorem dX5_setOne_16 : decode cX5_setOne 16 = .ok (.aload_n 0, 1) := by decide +kernel
theorem dX5_setOne_17 : decode cX5_setOne 17 = .ok (.iload_n 2, 1) := by decide +kernel
theorem dX5_setOne_18 : decode cX5_setOne 18 = .ok (.putfield 37, 3) := by decide +kernel
theorem dX5_setOne_21 : decode cX5_setOne 21 = .ok (.goto 52, 3) := by decide +kernel
theorem dX5_setOne_24 : decode cX5_setOne 24 = .ok (.iload_n 1, 1) := by decide +kernel
theorem dX5_setOne_25 : decode cX5_setOne 25 = .ok (.bipush 115, 2) := by decide +kernel
theorem dX5_setOne_27 : decode cX5_setOne 27 = .ok (.if_icmp .ne 20, 3) := by decide +kernel
theorem dX5_setOne_30 : decode cX5_setOne 30 = .ok (.iload_n 2, 1) := by decide +kernel
theorem dX5_setOne_31 : decode cX5_setOne 31 = .ok (.iconst 0, 1) := by decide +kernel
theorem dX5_setOne_32 : decode cX5_setOne 32 = .ok (.iconst 4, 1) := by decide +kernel
theorem dX5_setOne_33 : decode cX5_setOne 33 = .ok (.invokestatic 69, 3) := by decide +kernel
theorem dX5_setOne_36 : decode cX5_setOne 36 = .ok (.ifCond .eq 11, 3) := by decide +kernel
theorem dX5_setOne_39 : decode cX5_setOne 39 = .ok (.aload_n 0, 1) := by decide +kernel
theorem dX5_setOne_40 : decode cX5_setOne 40 = .ok (.iload_n 2, 1) := by decide +kernel
theorem dX5_setOne_41 : decode cX5_setOne 41 = .ok (.putfield 40, 3) := by decide +kernel
theorem dX5_setOne_44 : decode cX5_setOne 44 = .ok (.goto 29, 3) := by decide +kernel
theorem dX5_setOne_47 : decode cX5_setOne 47 = .ok (.iload_n 1, 1) := by decide +kernel
theorem dX5_setOne_48 : decode cX5_setOne 48 = .ok (.bipush 118, 2) := by decide +kernel
theorem dX5_setOne_50 : decode cX5_setOne 50 = .ok (.if_icmp .ne 21, 3) := by decide +kernel
theorem dX5_setOne_53 : decode cX5_setOne 53 = .ok (.iload_n 2, 1) := by decide +kernel
theorem dX5_setOne_54 : decode cX5_setOne 54 = .ok (.iconst 0, 1) := by decide +kernel
theorem dX5_setOne_55 : decode cX5_setOne 55 = .ok (.bipush 9, 2) := by decide +kernel
theorem dX5_setOne_57 : decode cX5_setOne 57 = .ok (.invokestatic 69, 3) := by decide +kernel
theorem dX5_setOne_60 : decode cX5_setOne 60 = .ok (.ifCond .eq 11, 3) := by decide +kernel
theorem dX5_setOne_63 : decode cX5_setOne 63 = .ok (.aload_n 0, 1) := by decide +kernel
theorem dX5_setOne_64 : decode cX5_setOne 64 = .ok (.iload_n 2, 1) := by decide +kernel
theorem dX5_setOne_65 : decode cX5_setOne 65 = .ok (.putfield 43, 3) := by decide +kernel
theorem dX5_setOne_68 : decode cX5_setOne 68 = .ok (.goto 5, 3) := by decide +kernel
theorem dX5_setOne_71 : decode cX5_setOne 71 = .ok (.iconst 0, 1) := by decide +kernel
theorem dX5_setOne_72 : decode cX5_setOne 72 = .ok (.ireturn, 1) := by decide +kernel
theorem dX5_setOne_73 : decode cX5_setOne 73 = .ok (.iconst 1, 1) := by decide +kernel
theorem dX5_setOne_74 : decode cX5_setOne 74 = .ok (.ireturn, 1) := by decide +kernel
theorem dX5_costOf_0 : decode cX5_costOf 0 = .ok (.aload_n 0, 1) := by decide +kernel
theorem dX5_costOf_1 : decode cX5_costOf 1 = .ok (.getfield 24, 3) := by decide +kernel
theorem dX5_costOf_4 : decode cX5_costOf 4 = .ok (.aload_n 0, 1) := by decide +kernel
theorem dX5_costOf_5 : decode cX5_costOf 5 = .ok (.getfield 9, 3) := by decide +kernel
theorem dX5_costOf_8 : decode cX5_costOf 8 = .ok (.iload_n 1, 1) := by decide +kernel
theorem dX5_costOf_9 : decode cX5_costOf 9 = .ok (.iaload, 1) := by decide +kernel
theorem dX5_costOf_10 : decode cX5_costOf 10 = .ok (.iaload, 1) := by decide +kernel
theorem dX5_costOf_11 : decode cX5_costOf 11 = .ok (.ireturn, 1) := by decide +kernel
theorem dX5_bears_0 : decode cX5_bears 0 = .ok (.iload_n 1, 1) := by decide +kernel
theorem dX5_bears_1 : decode cX5_bears 1 = .ok (.bipush 10, 2) := by decide +kernel
theorem dX5_bears_3 : decode cX5_bears 3 = .ok (.aload_n 0, 1) := by decide +kernel
theorem dX5_bears_4 : decode cX5_bears 4 = .ok (.getfield 34, 3) := by decide +kernel
theorem dX5_bears_7 : decode cX5_bears 7 = .ok (.imul, 1) := by decide +kernel
theorem dX5_bears_8 : decode cX5_bears 8 = .ok (.if_icmp .gt 18, 3) := by decide +kernel
theorem dX5_bears_11 : decode cX5_bears 11 = .ok (.iload_n 2, 1) := by decide +kernel
theorem dX5_bears_12 : decode cX5_bears 12 = .ok (.bipush 10, 2) := by decide +kernel
theorem dX5_bears_14 : decode cX5_bears 14 = .ok (.aload_n 0, 1) := by decide +kernel
theorem dX5_bears_15 : decode cX5_bears 15 = .ok (.getfield 30, 3) := by decide +kernel
theorem dX5_bears_18 : decode cX5_bears 18 = .ok (.imul, 1) := by decide +kernel
theorem dX5_bears_19 : decode cX5_bears 19 = .ok (.if_icmp .gt 7, 3) := by decide +kernel
theorem dX5_bears_22 : decode cX5_bears 22 = .ok (.iconst 1, 1) := by decide +kernel
theorem dX5_bears_23 : decode cX5_bears 23 = .ok (.goto 4, 3) := by decide +kernel
theorem dX5_bears_26 : decode cX5_bears 26 = .ok (.iconst 0, 1) := by decide +kernel
theorem dX5_bears_27 : decode cX5_bears 27 = .ok (.ireturn, 1) := by decide +kernel
theorem dX6_init_0 : decode cX6_init 0 = .ok (.aload_n 0, 1) := by decide +kernel
theorem dX6_init_1 : decode cX6_init 1 = .ok (.invokespecial 1, 3) := by decide +kernel
theorem dX6_init_4 : decode cX6_init 4 = .ok (.aload_n 0, 1) := by decide +kernel
theorem dX6_init_5 : decode cX6_init 5 = .ok (.new 7, 3) := by decide +kernel
theorem dX6_init_8 : decode cX6_init 8 = .ok (.dup, 1) := by decide +kernel
theorem dX6_init_9 : decode cX6_init 9 = .ok (.invokespecial 9, 3) := by decide +kernel
theorem dX6_init_12 : decode cX6_init 12 = .ok (.putfield 10, 3) := by decide +kernel
theorem dX6_init_15 : decode cX6_init 15 = .ok (.aload_n 0, 1) := by decide +kernel
theorem dX6_init_16 : decode cX6_init 16 = .ok (.new 16, 3) := by decide +kernel
theorem dX6_init_19 : decode cX6_init 19 = .ok (.dup, 1) := by decide +kernel
theorem dX6_init_20 : decode cX6_init 20 = .ok (.invokespecial 18, 3) := by decide +kernel
theorem dX6_init_23 : decode cX6_init 23 = .ok (.putfield 19, 3) := by decide +kernel
theorem dX6_init_26 : decode cX6_init 26 = .ok (.aload_n 0, 1) := by decide +kernel
theorem dX6_init_27 : decode cX6_init 27 = .ok (.new 16, 3) := by decide +kernel
theorem dX6_init_30 : decode cX6_init 30 = .ok (.dup, 1) := by decide +kernel
theorem dX6_init_31 : decode cX6_init 31 = .ok (.invokespecial 18, 3) := by decide +kernel
theorem dX6_init_34 : decode cX6_init 34 = .ok (.putfield 23, 3) := by decide +kernel
theorem dX6_init_37 : decode cX6_init 37 = .ok (.aload_n 0, 1) := by decide +kernel
theorem dX6_init_38 : decode cX6_init 38 = .ok (.new 26, 3) := by decide +kernel
theorem dX6_init_41 : decode cX6_init 41 = .ok (.dup, 1) := by decide +kernel
theorem dX6_init_42 : decode cX6_init 42 = .ok (.invokespecial 28, 3) := by decide +kernel
theorem dX6_init_45 : decode cX6_init 45 = .ok (.putfield 29, 3) := by decide +kernel
theorem dX6_init_48 : decode cX6_init 48 = .ok (.aload_n 0, 1) := by decide +kernel
theorem dX6_init_49 : decode cX6_init 49 = .ok (.new 26, 3) := by decide +kernel
theorem dX6_init_52 : decode cX6_init 52 = .ok (.dup, 1) := by decide +kernel
theorem dX6_init_53 : decode cX6_init 53 = .ok (.invokespecial 28, 3) := by decide +kernel
theorem dX6_init_56 : decode cX6_init 56 = .ok (.putfield 33, 3) := by decide +kernel
theorem dX6_init_59 : decode cX6_init 59 = .ok (.aload_n 0, 1) := by decide +kernel
theorem dX6_init_60 : decode cX6_init 60 = .ok (.new 26, 3) := by decide +kernel
theorem dX6_init_63 : decode cX6_init 63 = .ok (.dup, 1) := by decide +kernel
theorem dX6_init_64 : decode cX6_init 64 = .ok (.invokespecial 28, 3) := by decide +kernel
theorem dX6_init_67 : decode cX6_init 67 = .ok (.putfield 36, 3) := by decide +kernel
theorem dX6_init_70 : decode cX6_init 70 = .ok (.aload_n 0, 1) := by decide +kernel
theorem dX6_init_71 : decode cX6_init 71 = .ok (.iconst 0, 1) := by decide +kernel
theorem dX6_init_72 : decode cX6_init 72 = .ok (.putfield 39, 3) := by decide +kernel
theorem dX6_init_75 : decode cX6_init 75 = .ok (.aload_n 0, 1) := by decide +kernel
theorem dX6_init_76 : decode cX6_init 76 = .ok (.new 43, 3) := by decide +kernel
theorem dX6_init_79 : decode cX6_init 79 = .ok (.dup, 1) := by decide +kernel
theorem dX6_init_80 : decode cX6_init 80 = .ok (.invokespecial 45, 3) := by decide +kernel
theorem dX6_init_83 : decode cX6_init 83 = .ok (.putfield 46, 3) := by decide +kernel
theorem dX6_init_86 : decode cX6_init 86 = .ok (.aload_n 0, 1) := by decide +kernel
theorem dX6_init_87 : decode cX6_init 87 = .ok (.new 50, 3) := by decide +kernel
theorem dX6_init_90 : decode cX6_init 90 = .ok (.dup, 1) := by decide +kernel
theorem dX6_init_91 : decode cX6_init 91 = .ok (.invokespecial 52, 3) := by decide +kernel
theorem dX6_init_94 : decode cX6_init 94 = .ok (.putfield 53, 3) := by decide +kernel
theorem dX6_init_97 : decode cX6_init 97 = .ok (.aload_n 0, 1) := by decide +kernel
theorem dX6_init_98 : decode cX6_init 98 = .ok (.new 57, 3) := by decide +kernel
theorem dX6_init_101 : decode cX6_init 101 = .ok (.dup, 1) := by decide +kernel
theorem dX6_init_102 : decode cX6_init 102 = .ok (.invokespecial 59, 3) := by decide +kernel
theorem dX6_init_105 : decode cX6_init 105 = .ok (.putfield 60, 3) := by decide +kernel
theorem dX6_init_108 : decode cX6_init 108 = .ok (.aload_n 0, 1) := by decide +kernel
theorem dX6_init_109 : decode cX6_init 109 = .ok (.getfield 19, 3) := by decide +kernel
theorem dX6_init_112 : decode cX6_init 112 = .ok (.iconst 0, 1) := by decide +kernel
theorem dX6_init_113 : decode cX6_init 113 = .ok (.iconst 5, 1) := by decide +kernel
theorem dX6_init_114 : decode cX6_init 114 = .ok (.iconst 2, 1) := by decide +kernel
theorem dX6_init_115 : decode cX6_init 115 = .ok (.iconst 1, 1) := by decide +kernel
theorem dX6_init_116 : decode cX6_init 116 = .ok (.invokevirtual 64, 3) := by decide +kernel
theorem dX6_init_119 : decode cX6_init 119 = .ok (.pop, 1) := by decide +kernel
theorem dX6_init_120 : decode cX6_init 120 = .ok (.return_, 1) := by decide +kernel
theorem dX6_write_0 : decode cX6_write 0 = .ok (.iload_n 1, 1) := by decide +kernel
theorem dX6_write_1 : decode cX6_write 1 = .ok (.iconst 1, 1) := by decide +kernel
theorem dX6_write_2 : decode cX6_write 2 = .ok (.bipush 8, 2) := by decide +kernel
theorem dX6_write_4 : decode cX6_write 4 = .ok (.invokestatic 68, 3) := by decide +kernel
theorem dX6_write_7 : decode cX6_write 7 = .ok (.ifCond .ne 5, 3) := by decide +kernel
theorem dX6_write_10 : decode cX6_write 10 = .ok (.iconst (-1), 1) := by decide +kernel
theorem dX6_write_11 : decode cX6_write 11 = .ok (.ireturn, 1) := by decide +kernel
theorem dX6_write_12 : decode cX6_write 12 = .ok (.aload_n 0, 1) := by decide +kernel
theorem dX6_write_13 : decode cX6_write 13 = .ok (.getfield 10, 3) := by decide +kernel
theorem dX6_write_16 : decode cX6_write 16 = .ok (.iload_n 1, 1) := by decide +kernel
theorem dX6_write_17 : decode cX6_write 17 = .ok (.lload_n 2, 1) := by decide +kernel
theorem dX6_write_18 : decode cX6_write 18 = .ok (.invokevirtual 72, 3) := by decide +kernel
theorem dX6_write_21 : decode cX6_write 21 = .ok (.ifCond .eq 13, 3) := by decide +kernel
theorem dX6_write_24 : decode cX6_write 24 = .ok (.aload_n 0, 1) := by decide +kernel
theorem dX6_write_25 : decode cX6_write 25 = .ok (.getfield 10, 3) := by decide +kernel
theorem dX6_write_28 : decode cX6_write 28 = .ok (.getfield 76, 3) := by decide +kernel
theorem dX6_write_31 : decode cX6_write 31 = .ok (.goto 5, 3) := by decide +kernel
theorem dX6_write_34 : decode cX6_write 34 = .ok (.bipush (-3), 2) := by decide +kernel
theorem dX6_write_36 : decode cX6_write 36 = .ok (.ireturn, 1) := by decide +kernel
theorem dX6_wipe_0 : decode cX6_wipe 0 = .ok (.aload_n 0, 1) := by decide +kernel
theorem dX6_wipe_1 : decode cX6_wipe 1 = .ok (.getfield 10, 3) := by decide +kernel
theorem dX6_wipe_4 : decode cX6_wipe 4 = .ok (.invokevirtual 79, 3) := by decide +kernel
theorem dX6_wipe_7 : decode cX6_wipe 7 = .ok (.ireturn, 1) := by decide +kernel
theorem dX6_fault_0 : decode cX6_fault 0 = .ok (.aload_n 0, 1) := by decide +kernel
theorem dX6_fault_1 : decode cX6_fault 1 = .ok (.getfield 10, 3) := by decide +kernel
theorem dX6_fault_4 : decode cX6_fault 4 = .ok (.aload_n 0, 1) := by decide +kernel
theorem dX6_fault_5 : decode cX6_fault 5 = .ok (.getfield 23, 3) := by decide +kernel
theorem dX6_fault_8 : decode cX6_fault 8 = .ok (.invokevirtual 83, 3) := by decide +kernel
theorem dX6_fault_11 : decode cX6_fault 11 = .ok (.ireturn, 1) := by decide +kernel
theorem dX6_lay_0 : decode cX6_lay 0 = .ok (.aload_n 0, 1) := by decide +kernel
theorem dX6_lay_1 : decode cX6_lay 1 = .ok (.getfield 10, 3) := by decide +kernel
theorem dX6_lay_4 : decode cX6_lay 4 = .ok (.aload_n 0, 1) := by decide +kernel
theorem dX6_lay_5 : decode cX6_lay 5 = .ok (.getfield 23, 3) := by decide +kernel
theorem dX6_lay_8 : decode cX6_lay 8 = .ok (.invokevirtual 83, 3) := by decide +kernel
theorem dX6_lay_11 : decode cX6_lay 11 = .ok (.bipush (-4), 2) := by decide +kernel
theorem dX6_lay_13 : decode cX6_lay 13 = .ok (.if_icmp .ne 13, 3) := by decide +kernel
theorem dX6_lay_16 : decode cX6_lay 16 = .ok (.aload_n 0, 1) := by decide +kernel
theorem dX6_lay_17 : decode cX6_lay 17 = .ok (.getfield 23, 3) := by decide +kernel
theorem dX6_lay_20 : decode cX6_lay 20 = .ok (.getfield 87, 3) := by decide +kernel
theorem dX6_lay_23 : decode cX6_lay 23 = .ok (.ifCond .ne 6, 3) := by decide +kernel
theorem dX6_lay_26 : decode cX6_lay 26 = .ok (.bipush (-2), 2) := by decide +kernel
theorem dX6_lay_28 : decode cX6_lay 28 = .ok (.ireturn, 1) := by decide +kernel
theorem dX6_lay_29 : decode cX6_lay 29 = .ok (.aload_n 0, 1) := by decide +kernel
theorem dX6_lay_30 : decode cX6_lay 30 = .ok (.getfield 19, 3) := by decide +kernel
theorem dX6_lay_33 : decode cX6_lay 33 = .ok (.astore_n 1, 1) := by decide +kernel
theorem dX6_lay_34 : decode cX6_lay 34 = .ok (.aload_n 0, 1) := by decide +kernel
theorem dX6_lay_35 : decode cX6_lay 35 = .ok (.aload_n 0, 1) := by decide +kernel
theorem dX6_lay_36 : decode cX6_lay 36 = .ok (.getfield 23, 3) := by decide +kernel
theorem dX6_lay_39 : decode cX6_lay 39 = .ok (.putfield 19, 3) := by decide +kernel
theorem dX6_lay_42 : decode cX6_lay 42 = .ok (.aload_n 0, 1) := by decide +kernel
theorem dX6_lay_43 : decode cX6_lay 43 = .ok (.aload_n 1, 1) := by decide +kernel
theorem dX6_lay_44 : decode cX6_lay 44 = .ok (.putfield 23, 3) := by decide +kernel
theorem dX6_lay_47 : decode cX6_lay 47 = .ok (.aload_n 0, 1) := by decide +kernel
theorem dX6_lay_48 : decode cX6_lay 48 = .ok (.getfield 29, 3) := by decide +kernel
theorem dX6_lay_51 : decode cX6_lay 51 = .ok (.invokevirtual 90, 3) := by decide +kernel
theorem dX6_lay_54 : decode cX6_lay 54 = .ok (.aload_n 0, 1) := by decide +kernel
theorem dX6_lay_55 : decode cX6_lay 55 = .ok (.iconst 0, 1) := by decide +kernel
theorem dX6_lay_56 : decode cX6_lay 56 = .ok (.putfield 39, 3) := by decide +kernel
theorem dX6_lay_59 : decode cX6_lay 59 = .ok (.aload_n 0, 1) := by decide +kernel
theorem dX6_lay_60 : decode cX6_lay 60 = .ok (.getfield 46, 3) := by decide +kernel
theorem dX6_lay_63 : decode cX6_lay 63 = .ok (.invokevirtual 92, 3) := by decide +kernel
theorem dX6_lay_66 : decode cX6_lay 66 = .ok (.pop, 1) := by decide +kernel
theorem dX6_lay_67 : decode cX6_lay 67 = .ok (.aload_n 0, 1) := by decide +kernel
theorem dX6_lay_68 : decode cX6_lay 68 = .ok (.getfield 19, 3) := by decide +kernel
theorem dX6_lay_71 : decode cX6_lay 71 = .ok (.getfield 87, 3) := by decide +kernel
theorem dX6_lay_74 : decode cX6_lay 74 = .ok (.ireturn, 1) := by decide +kernel
theorem dX6_falls_0 : decode cX6_falls 0 = .ok (.iload_n 1, 1) := by decide +kernel
theorem dX6_falls_1 : decode cX6_falls 1 = .ok (.iconst 0, 1) := by decide +kernel
theorem dX6_falls_2 : decode cX6_falls 2 = .ok (.aload_n 0, 1) := by decide +kernel
theorem dX6_falls_3 : decode cX6_falls 3 = .ok (.getfield 19, 3) := by decide +kernel
theorem dX6_falls_6 : decode cX6_falls 6 = .ok (.getfield 87, 3) := by decide +kernel
theorem dX6_falls_9 : decode cX6_falls 9 = .ok (.iconst 1, 1) := by decide +kernel
theorem dX6_falls_10 : decode cX6_falls 10 = .ok (.isub, 1) := by decide +kernel
theorem dX6_falls_11 : decode cX6_falls 11 = .ok (.invokestatic 68, 3) := by decide +kernel
theorem dX6_falls_14 : decode cX6_falls 14 = .ok (.ifCond .ne 5, 3) := by decide +kernel
theorem dX6_falls_17 : decode cX6_falls 17 = .ok (.iconst (-1), 1) := by decide +kernel
theorem dX6_falls_18 : decode cX6_falls 18 = .ok (.ireturn, 1) := by decide +kernel
theorem dX6_falls_19 : decode cX6_falls 19 = .ok (.iload_n 2, 1) := by decide +kernel
theorem dX6_falls_20 : decode cX6_falls 20 = .ok (.tableswitch 85 0 4 #[36, 46, 56, 66, 76], 36) := by decide +kernel
theorem dX6_falls_56 : decode cX6_falls 56 = .ok (.aload_n 0, 1) := by decide +kernel
theorem dX6_falls_57 : decode cX6_falls 57 = .ok (.getfield 19, 3) := by decide +kernel
theorem dX6_falls_60 : decode cX6_falls 60 = .ok (.getfield 93, 3) := by decide +kernel
theorem dX6_falls_63 : decode cX6_falls 63 = .ok (.iload_n 1, 1) := by decide +kernel
theorem dX6_falls_64 : decode cX6_falls 64 = .ok (.iaload, 1) := by decide +kernel
theorem dX6_falls_65 : decode cX6_falls 65 = .ok (.ireturn, 1) := by decide +kernel
theorem dX6_falls_66 : decode cX6_falls 66 = .ok (.aload_n 0, 1) := by decide +kernel
theorem dX6_falls_67 : decode cX6_falls 67 = .ok (.getfield 19, 3) := by decide +kernel
theorem dX6_falls_70 : decode cX6_falls 70 = .ok (.getfield 97, 3) := by decide +kernel
theorem dX6_falls_73 : decode cX6_falls 73 = .ok (.iload_n 1, 1) := by decide +kernel
theorem dX6_falls_74 : decode cX6_falls 74 = .ok (.iaload, 1) := by decide +kernel
theorem dX6_falls_75 : decode cX6_falls 75 = .ok (.ireturn, 1) := by decide +kernel
theorem dX6_falls_76 : decode cX6_falls 76 = .ok (.aload_n 0, 1) := by decide +kernel
theorem dX6_falls_77 : decode cX6_falls 77 = .ok (.getfield 19, 3) := by decide +kernel
theorem dX6_falls_80 : decode cX6_falls 80 = .ok (.getfield 100, 3) := by decide +kernel
theorem dX6_falls_83 : decode cX6_falls 83 = .ok (.iload_n 1, 1) := by decide +kernel
theorem dX6_falls_84 : decode cX6_falls 84 = .ok (.iaload, 1) := by decide +kernel
theorem dX6_falls_85 : decode cX6_falls 85 = .ok (.ireturn, 1) := by decide +kernel
theorem dX6_falls_86 : decode cX6_falls 86 = .ok (.aload_n 0, 1) := by decide +kernel
theorem dX6_falls_87 : decode cX6_falls 87 = .ok (.getfield 19, 3) := by decide +kernel
theorem dX6_falls_90 : decode cX6_falls 90 = .ok (.getfield 103, 3) := by decide +kernel
theorem dX6_falls_93 : decode cX6_falls 93 = .ok (.iload_n 1, 1) := by decide +kernel
theorem dX6_falls_94 : decode cX6_falls 94 = .ok (.iaload, 1) := by decide +kernel
theorem dX6_falls_95 : decode cX6_falls 95 = .ok (.ireturn, 1) := by decide +kernel
theorem dX6_falls_96 : decode cX6_falls 96 = .ok (.aload_n 0, 1) := by decide +kernel
theorem dX6_falls_97 : decode cX6_falls 97 = .ok (.getfield 19, 3) := by decide +kernel
theorem dX6_falls_100 : decode cX6_falls 100 = .ok (.iload_n 1, 1) := by decide +kernel
theorem dX6_falls_101 : decode cX6_falls 101 = .ok (.invokevirtual 106, 3) := by decide +kernel
theorem dX6_falls_104 : decode cX6_falls 104 = .ok (.ireturn, 1) := by decide +kernel
theorem dX6_falls_105 : decode cX6_falls 105 = .ok (.iconst (-1), 1) := by decide +kernel
theorem dX6_falls_106 : decode cX6_falls 106 = .ok (.ireturn, 1) := by decide +kernel
theorem dX6_fall_0 : decode cX6_fall 0 = .ok (.aload_n 0, 1) := by decide +kernel
theorem dX6_fall_1 : decode cX6_fall 1 = .ok (.getfield 29, 3) := by decide +kernel
theorem dX6_fall_4 : decode cX6_fall 4 = .ok (.getfield 110, 3) := by decide +kernel
theorem dX6_fall_7 : decode cX6_fall 7 = .ok (.istore_n 1, 1) := by decide +kernel
theorem dX6_fall_8 : decode cX6_fall 8 = .ok (.iload_n 1, 1) := by decide +kernel
theorem dX6_fall_9 : decode cX6_fall 9 = .ok (.aload_n 0, 1) := by decide +kernel
theorem dX6_fall_10 : decode cX6_fall 10 = .ok (.getfield 19, 3) := by decide +kernel
theorem dX6_fall_13 : decode cX6_fall 13 = .ok (.getfield 87, 3) := by decide +kernel
theorem dX6_fall_16 : decode cX6_fall 16 = .ok (.if_icmp .lt 6, 3) := by decide +kernel
theorem dX6_fall_19 : decode cX6_fall 19 = .ok (.bipush (-2), 2) := by decide +kernel
theorem dX6_fall_21 : decode cX6_fall 21 = .ok (.ireturn, 1) := by decide +kernel
theorem dX6_fall_22 : decode cX6_fall 22 = .ok (.bipush 10, 2) := by decide +kernel
theorem dX6_fall_24 : decode cX6_fall 24 = .ok (.aload_n 0, 1) := by decide +kernel
theorem dX6_fall_25 : decode cX6_fall 25 = .ok (.getfield 19, 3) := by decide +kernel
theorem dX6_fall_28 : decode cX6_fall 28 = .ok (.getfield 97, 3) := by decide +kernel
theorem dX6_fall_31 : decode cX6_fall 31 = .ok (.iload_n 1, 1) := by decide +kernel
theorem dX6_fall_32 : decode cX6_fall 32 = .ok (.iaload, 1) := by decide +kernel
theorem dX6_fall_33 : decode cX6_fall 33 = .ok (.imul, 1) := by decide +kernel
theorem dX6_fall_34 : decode cX6_fall 34 = .ok (.istore_n 2, 1) := by decide +kernel
theorem dX6_fall_35 : decode cX6_fall 35 = .ok (.aload_n 0, 1) := by decide +kernel
theorem dX6_fall_36 : decode cX6_fall 36 = .ok (.getfield 19, 3) := by decide +kernel
theorem dX6_fall_39 : decode cX6_fall 39 = .ok (.aload_n 0, 1) := by decide +kernel
theorem dX6_fall_40 : decode cX6_fall 40 = .ok (.getfield 29, 3) := by decide +kernel
theorem dX6_fall_43 : decode cX6_fall 43 = .ok (.invokevirtual 113, 3) := by decide +kernel
theorem dX6_fall_46 : decode cX6_fall 46 = .ok (.iload_n 2, 1) := by decide +kernel
theorem dX6_fall_47 : decode cX6_fall 47 = .ok (.iadd, 1) := by decide +kernel
theorem dX6_fall_48 : decode cX6_fall 48 = .ok (.aload_n 0, 1) := by decide +kernel
theorem dX6_fall_49 : decode cX6_fall 49 = .ok (.getfield 29, 3) := by decide +kernel
theorem dX6_fall_52 : decode cX6_fall 52 = .ok (.aload_n 0, 1) := by decide +kernel
theorem dX6_fall_53 : decode cX6_fall 53 = .ok (.getfield 19, 3) := by decide +kernel
theorem dX6_fall_56 : decode cX6_fall 56 = .ok (.invokevirtual 116, 3) := by decide +kernel
theorem dX6_fall_59 : decode cX6_fall 59 = .ok (.iload_n 2, 1) := by decide +kernel
theorem dX6_fall_60 : decode cX6_fall 60 = .ok (.aload_n 0, 1) := by decide +kernel
theorem dX6_fall_61 : decode cX6_fall 61 = .ok (.getfield 19, 3) := by decide +kernel
theorem dX6_fall_64 : decode cX6_fall 64 = .ok (.getfield 100, 3) := by decide +kernel
theorem dX6_fall_67 : decode cX6_fall 67 = .ok (.iload_n 1, 1) := by decide +kernel
theorem dX6_fall_68 : decode cX6_fall 68 = .ok (.iaload, 1) := by decide +kernel
theorem dX6_fall_69 : decode cX6_fall 69 = .ok (.imul, 1) := by decide +kernel
theorem dX6_fall_70 : decode cX6_fall 70 = .ok (.iadd, 1) := by decide +kernel
theorem dX6_fall_71 : decode cX6_fall 71 = .ok (.invokevirtual 119, 3) := by decide +kernel
theorem dX6_fall_74 : decode cX6_fall 74 = .ok (.ifCond .ne 6, 3) := by decide +kernel
theorem dX6_fall_77 : decode cX6_fall 77 = .ok (.bipush (-3), 2) := by decide +kernel
theorem dX6_fall_79 : decode cX6_fall 79 = .ok (.ireturn, 1) := by decide +kernel
theorem dX6_fall_80 : decode cX6_fall 80 = .ok (.aload_n 0, 1) := by decide +kernel
theorem dX6_fall_81 : decode cX6_fall 81 = .ok (.getfield 29, 3) := by decide +kernel
theorem dX6_fall_84 : decode cX6_fall 84 = .ok (.iload_n 2, 1) := by decide +kernel
theorem dX6_fall_85 : decode cX6_fall 85 = .ok (.aload_n 0, 1) := by decide +kernel
theorem dX6_fall_86 : decode cX6_fall 86 = .ok (.getfield 19, 3) := by decide +kernel
theorem dX6_fall_89 : decode cX6_fall 89 = .ok (.getfield 103, 3) := by decide +kernel
theorem dX6_fall_92 : decode cX6_fall 92 = .ok (.iload_n 1, 1) := by decide +kernel
theorem dX6_fall_93 : decode cX6_fall 93 = .ok (.iaload, 1) := by decide +kernel
theorem dX6_fall_94 : decode cX6_fall 94 = .ok (.invokevirtual 123, 3) := by decide +kernel
theorem dX6_fall_97 : decode cX6_fall 97 = .ok (.aload_n 0, 1) := by decide +kernel
theorem dX6_fall_98 : decode cX6_fall 98 = .ok (.getfield 29, 3) := by decide +kernel
theorem dX6_fall_101 : decode cX6_fall 101 = .ok (.getfield 110, 3) := by decide +kernel
theorem dX6_fall_104 : decode cX6_fall 104 = .ok (.ireturn, 1) := by decide +kernel
theorem dX6_layer_0 : decode cX6_layer 0 = .ok (.aload_n 0, 1) := by decide +kernel
theorem dX6_layer_1 : decode cX6_layer 1 = .ok (.getfield 29, 3) := by decide +kernel
theorem dX6_layer_4 : decode cX6_layer 4 = .ok (.iload_n 1, 1) := by decide +kernel
theorem dX6_layer_5 : decode cX6_layer 5 = .ok (.invokevirtual 127, 3) := by decide +kernel
theorem dX6_layer_8 : decode cX6_layer 8 = .ok (.ifCond .ne 5, 3) := by decide +kernel
theorem dX6_layer_11 : decode cX6_layer 11 = .ok (.iconst (-1), 1) := by decide +kernel
theorem dX6_layer_12 : decode cX6_layer 12 = .ok (.ireturn, 1) := by decide +kernel
theorem dX6_layer_13 : decode cX6_layer 13 = .ok (.iload_n 2, 1) := by decide +kernel
theorem dX6_layer_14 : decode cX6_layer 14 = .ok (.tableswitch 55 0 2 #[26, 36, 46], 26) := by decide +kernel
theorem dX6_layer_40 : decode cX6_layer 40 = .ok (.aload_n 0, 1) := by decide +kernel
theorem dX6_layer_41 : decode cX6_layer 41 = .ok (.getfield 29, 3) := by decide +kernel
theorem dX6_layer_44 : decode cX6_layer 44 = .ok (.getfield 131, 3) := by decide +kernel
theorem dX6_layer_47 : decode cX6_layer 47 = .ok (.iload_n 1, 1) := by decide +kernel
theorem dX6_layer_48 : decode cX6_layer 48 = .ok (.iaload, 1) := by decide +kernel
theorem dX6_layer_49 : decode cX6_layer 49 = .ok (.ireturn, 1) := by decide +kernel
theorem dX6_layer_50 : decode cX6_layer 50 = .ok (.aload_n 0, 1) := by decide +kernel
theorem dX6_layer_51 : decode cX6_layer 51 = .ok (.getfield 29, 3) := by decide +kernel
theorem dX6_layer_54 : decode cX6_layer 54 = .ok (.getfield 134, 3) := by decide +kernel
theorem dX6_layer_57 : decode cX6_layer 57 = .ok (.iload_n 1, 1) := by decide +kernel
theorem dX6_layer_58 : decode cX6_layer 58 = .ok (.iaload, 1) := by decide +kernel
theorem dX6_layer_59 : decode cX6_layer 59 = .ok (.ireturn, 1) := by decide +kernel
theorem dX6_layer_60 : decode cX6_layer 60 = .ok (.aload_n 0, 1) := by decide +kernel
theorem dX6_layer_61 : decode cX6_layer 61 = .ok (.getfield 29, 3) := by decide +kernel
theorem dX6_layer_64 : decode cX6_layer 64 = .ok (.iload_n 1, 1) := by decide +kernel
theorem dX6_layer_65 : decode cX6_layer 65 = .ok (.invokevirtual 137, 3) := by decide +kernel
theorem dX6_layer_68 : decode cX6_layer 68 = .ok (.ireturn, 1) := by decide +kernel
theorem dX6_layer_69 : decode cX6_layer 69 = .ok (.iconst (-1), 1) := by decide +kernel
theorem dX6_layer_70 : decode cX6_layer 70 = .ok (.ireturn, 1) := by decide +kernel
theorem dX6_firstOut_0 : decode cX6_firstOut 0 = .ok (.aload_n 0, 1) := by decide +kernel
theorem dX6_firstOut_1 : decode cX6_firstOut 1 = .ok (.aload_n 0, 1) := by decide +kernel
theorem dX6_firstOut_2 : decode cX6_firstOut 2 = .ok (.getfield 29, 3) := by decide +kernel
theorem dX6_firstOut_5 : decode cX6_firstOut 5 = .ok (.getfield 110, 3) := by decide +kernel
theorem dX6_firstOut_8 : decode cX6_firstOut 8 = .ok (.aload_n 0, 1) := by decide +kernel
theorem dX6_firstOut_9 : decode cX6_firstOut 9 = .ok (.getfield 29, 3) := by decide +kernel
theorem dX6_firstOut_12 : decode cX6_firstOut 12 = .ok (.invokevirtual 113, 3) := by decide +kernel
theorem dX6_firstOut_15 : decode cX6_firstOut 15 = .ok (.aload_n 0, 1) := by decide +kernel
theorem dX6_firstOut_16 : decode cX6_firstOut 16 = .ok (.getfield 29, 3) := by decide +kernel
theorem dX6_firstOut_19 : decode cX6_firstOut 19 = .ok (.aload_n 0, 1) := by decide +kernel
theorem dX6_firstOut_20 : decode cX6_firstOut 20 = .ok (.getfield 19, 3) := by decide +kernel
theorem dX6_firstOut_23 : decode cX6_firstOut 23 = .ok (.invokevirtual 116, 3) := by decide +kernel
theorem dX6_firstOut_26 : decode cX6_firstOut 26 = .ok (.iconst (-1), 1) := by decide +kernel
theorem dX6_firstOut_27 : decode cX6_firstOut 27 = .ok (.invokevirtual 140, 3) := by decide +kernel
theorem dX6_firstOut_30 : decode cX6_firstOut 30 = .ok (.istore_n 1, 1) := by decide +kernel
theorem dX6_firstOut_31 : decode cX6_firstOut 31 = .ok (.iload_n 1, 1) := by decide +kernel
theorem dX6_firstOut_32 : decode cX6_firstOut 32 = .ok (.aload_n 0, 1) := by decide +kernel
theorem dX6_firstOut_33 : decode cX6_firstOut 33 = .ok (.getfield 19, 3) := by decide +kernel
theorem dX6_firstOut_36 : decode cX6_firstOut 36 = .ok (.getfield 87, 3) := by decide +kernel
theorem dX6_firstOut_39 : decode cX6_firstOut 39 = .ok (.if_icmp .ne 8, 3) := by decide +kernel
theorem dX6_firstOut_42 : decode cX6_firstOut 42 = .ok (.bipush (-4), 2) := by decide +kernel
theorem dX6_firstOut_44 : decode cX6_firstOut 44 = .ok (.goto 4, 3) := by decide +kernel
theorem dX6_firstOut_47 : decode cX6_firstOut 47 = .ok (.iload_n 1, 1) := by decide +kernel
theorem dX6_firstOut_48 : decode cX6_firstOut 48 = .ok (.ireturn, 1) := by decide +kernel
theorem dX6_thaw_0 : decode cX6_thaw 0 = .ok (.iload_n 1, 1) := by decide +kernel
theorem dX6_thaw_1 : decode cX6_thaw 1 = .ok (.iconst 0, 1) := by decide +kernel
theorem dX6_thaw_2 : decode cX6_thaw 2 = .ok (.iconst 2, 1) := by decide +kernel
theorem dX6_thaw_3 : decode cX6_thaw 3 = .ok (.invokestatic 68, 3) := by decide +kernel
theorem dX6_thaw_6 : decode cX6_thaw 6 = .ok (.ifCond .ne 5, 3) := by decide +kernel
theorem dX6_thaw_9 : decode cX6_thaw 9 = .ok (.iconst (-1), 1) := by decide +kernel
theorem dX6_thaw_10 : decode cX6_thaw 10 = .ok (.ireturn, 1) := by decide +kernel
theorem dX6_thaw_11 : decode cX6_thaw 11 = .ok (.aload_n 0, 1) := by decide +kernel
theorem dX6_thaw_12 : decode cX6_thaw 12 = .ok (.getfield 29, 3) := by decide +kernel
theorem dX6_thaw_15 : decode cX6_thaw 15 = .ok (.iload_n 1, 1) := by decide +kernel
theorem dX6_thaw_16 : decode cX6_thaw 16 = .ok (.aload_n 0, 1) := by decide +kernel
theorem dX6_thaw_17 : decode cX6_thaw 17 = .ok (.getfield 19, 3) := by decide +kernel
theorem dX6_thaw_20 : decode cX6_thaw 20 = .ok (.getfield 144, 3) := by decide +kernel
theorem dX6_thaw_23 : decode cX6_thaw 23 = .ok (.invokevirtual 147, 3) := by decide +kernel
theorem dX6_thaw_26 : decode cX6_thaw 26 = .ok (.ireturn, 1) := by decide +kernel
theorem dX6_doors_0 : decode cX6_doors 0 = .ok (.iload_n 1, 1) := by decide +kernel
theorem dX6_doors_1 : decode cX6_doors 1 = .ok (.iconst 1, 1) := by decide +kernel
theorem dX6_doors_2 : decode cX6_doors 2 = .ok (.bipush 6, 2) := by decide +kernel
theorem dX6_doors_4 : decode cX6_doors 4 = .ok (.invokestatic 68, 3) := by decide +kernel
theorem dX6_doors_7 : decode cX6_doors 7 = .ok (.ifCond .eq 14, 3) := by decide +kernel
theorem dX6_doors_10 : decode cX6_doors 10 = .ok (.iload_n 2, 1) := by decide +kernel
theorem dX6_doors_11 : decode cX6_doors 11 = .ok (.iconst (-1), 1) := by decide +kernel
theorem dX6_doors_12 : decode cX6_doors 12 = .ok (.iload_n 1, 1) := by decide +kernel
theorem dX6_doors_13 : decode cX6_doors 13 = .ok (.iconst 1, 1) := by decide +kernel
theorem dX6_doors_14 : decode cX6_doors 14 = .ok (.isub, 1) := by decide +kernel
theorem dX6_doors_15 : decode cX6_doors 15 = .ok (.invokestatic 68, 3) := by decide +kernel
theorem dX6_doors_18 : decode cX6_doors 18 = .ok (.ifCond .ne 5, 3) := by decide +kernel
theorem dX6_doors_21 : decode cX6_doors 21 = .ok (.iconst (-1), 1) := by decide +kernel
theorem dX6_doors_22 : decode cX6_doors 22 = .ok (.ireturn, 1) := by decide +kernel
theorem dX6_doors_23 : decode cX6_doors 23 = .ok (.aload_n 0, 1) := by decide +kernel
theorem dX6_doors_24 : decode cX6_doors 24 = .ok (.getfield 53, 3) := by decide +kernel
theorem dX6_doors_27 : decode cX6_doors 27 = .ok (.iload_n 1, 1) := by decide +kernel
theorem dX6_doors_28 : decode cX6_doors 28 = .ok (.aload_n 0, 1) := by decide +kernel
theorem dX6_doors_29 : decode cX6_doors 29 = .ok (.getfield 29, 3) := by decide +kernel
theorem dX6_doors_32 : decode cX6_doors 32 = .ok (.aload_n 0, 1) := by decide +kernel
theorem dX6_doors_33 : decode cX6_doors 33 = .ok (.getfield 19, 3) := by decide +kernel
theorem dX6_doors_36 : decode cX6_doors 36 = .ok (.invokevirtual 151, 3) := by decide +kernel
theorem dX6_doors_39 : decode cX6_doors 39 = .ok (.iload_n 2, 1) := by decide +kernel
theorem dX6_doors_40 : decode cX6_doors 40 = .ok (.iconst (-1), 1) := by decide +kernel
theorem dX6_doors_41 : decode cX6_doors 41 = .ok (.if_icmp .ne 13, 3) := by decide +kernel
theorem dX6_doors_44 : decode cX6_doors 44 = .ok (.aload_n 0, 1) := by decide +kernel
theorem dX6_doors_45 : decode cX6_doors 45 = .ok (.getfield 53, 3) := by decide +kernel
theorem dX6_doors_48 : decode cX6_doors 48 = .ok (.getfield 155, 3) := by decide +kernel
theorem dX6_doors_51 : decode cX6_doors 51 = .ok (.goto 11, 3) := by decide +kernel
theorem dX6_doors_54 : decode cX6_doors 54 = .ok (.aload_n 0, 1) := by decide +kernel
theorem dX6_doors_55 : decode cX6_doors 55 = .ok (.getfield 53, 3) := by decide +kernel
theorem dX6_doors_58 : decode cX6_doors 58 = .ok (.iload_n 2, 1) := by decide +kernel
theorem dX6_doors_59 : decode cX6_doors 59 = .ok (.invokevirtual 158, 3) := by decide +kernel
theorem dX6_doors_62 : decode cX6_doors 62 = .ok (.ireturn, 1) := by decide +kernel
theorem dX6_sell_0 : decode cX6_sell 0 = .ok (.aload_n 0, 1) := by decide +kernel
theorem dX6_sell_1 : decode cX6_sell 1 = .ok (.getfield 29, 3) := by decide +kernel
theorem dX6_sell_4 : decode cX6_sell 4 = .ok (.iload_n 1, 1) := by decide +kernel
theorem dX6_sell_5 : decode cX6_sell 5 = .ok (.invokevirtual 127, 3) := by decide +kernel
theorem dX6_sell_8 : decode cX6_sell 8 = .ok (.ifCond .eq 14, 3) := by decide +kernel
theorem dX6_sell_11 : decode cX6_sell 11 = .ok (.iload_n 2, 1) := by decide +kernel
theorem dX6_sell_12 : decode cX6_sell 12 = .ok (.iconst 1, 1) := by decide +kernel
theorem dX6_sell_13 : decode cX6_sell 13 = .ok (.sipush 200, 3) := by decide +kernel
theorem dX6_sell_16 : decode cX6_sell 16 = .ok (.invokestatic 68, 3) := by decide +kernel
theorem dX6_sell_19 : decode cX6_sell 19 = .ok (.ifCond .ne 5, 3) := by decide +kernel
theorem dX6_sell_22 : decode cX6_sell 22 = .ok (.iconst (-1), 1) := by decide +kernel
theorem dX6_sell_23 : decode cX6_sell 23 = .ok (.ireturn, 1) := by decide +kernel
theorem dX6_sell_24 : decode cX6_sell 24 = .ok (.aload_n 0, 1) := by decide +kernel
theorem dX6_sell_25 : decode cX6_sell 25 = .ok (.getfield 29, 3) := by decide +kernel
theorem dX6_sell_28 : decode cX6_sell 28 = .ok (.getfield 131, 3) := by decide +kernel
theorem dX6_sell_31 : decode cX6_sell 31 = .ok (.iload_n 1, 1) := by decide +kernel
theorem dX6_sell_32 : decode cX6_sell 32 = .ok (.iaload, 1) := by decide +kernel
theorem dX6_sell_33 : decode cX6_sell 33 = .ok (.iload_n 2, 1) := by decide +kernel
theorem dX6_sell_34 : decode cX6_sell 34 = .ok (.if_icmp .ge 6, 3) := by decide +kernel
theorem dX6_sell_37 : decode cX6_sell 37 = .ok (.bipush (-2), 2) := by decide +kernel
theorem dX6_sell_39 : decode cX6_sell 39 = .ok (.ireturn, 1) := by decide +kernel
theorem dX6_sell_40 : decode cX6_sell 40 = .ok (.iload_n 2, 1) := by decide +kernel
theorem dX6_sell_41 : decode cX6_sell 41 = .ok (.aload_n 0, 1) := by decide +kernel
theorem dX6_sell_42 : decode cX6_sell 42 = .ok (.getfield 19, 3) := by decide +kernel
theorem dX6_sell_45 : decode cX6_sell 45 = .ok (.iload_n 1, 1) := by decide +kernel
theorem dX6_sell_46 : decode cX6_sell 46 = .ok (.invokevirtual 106, 3) := by decide +kernel
theorem dX6_sell_49 : decode cX6_sell 49 = .ok (.imul, 1) := by decide +kernel
theorem dX6_sell_50 : decode cX6_sell 50 = .ok (.bipush 10, 2) := by decide +kernel
theorem dX6_sell_52 : decode cX6_sell 52 = .ok (.idiv, 1) := by decide +kernel
theorem dX6_sell_53 : decode cX6_sell 53 = .ok (.istore_n 3, 1) := by decide +kernel
theorem dX6_sell_54 : decode cX6_sell 54 = .ok (.aload_n 0, 1) := by decide +kernel
theorem dX6_sell_55 : decode cX6_sell 55 = .ok (.getfield 29, 3) := by decide +kernel
theorem dX6_sell_58 : decode cX6_sell 58 = .ok (.iload_n 1, 1) := by decide +kernel
theorem dX6_sell_59 : decode cX6_sell 59 = .ok (.iload_n 2, 1) := by decide +kernel
theorem dX6_sell_60 : decode cX6_sell 60 = .ok (.iload_n 3, 1) := by decide +kernel
theorem dX6_sell_61 : decode cX6_sell 61 = .ok (.invokevirtual 161, 3) := by decide +kernel
theorem dX6_sell_64 : decode cX6_sell 64 = .ok (.iload_n 3, 1) := by decide +kernel
theorem dX6_sell_65 : decode cX6_sell 65 = .ok (.ireturn, 1) := by decide +kernel
theorem dX6_undo_0 : decode cX6_undo 0 = .ok (.aload_n 0, 1) := by decide +kernel
theorem dX6_undo_1 : decode cX6_undo 1 = .ok (.getfield 29, 3) := by decide +kernel
theorem dX6_undo_4 : decode cX6_undo 4 = .ok (.invokevirtual 165, 3) := by decide +kernel
theorem dX6_undo_7 : decode cX6_undo 7 = .ok (.ireturn, 1) := by decide +kernel
theorem dX6_swap_0 : decode cX6_swap 0 = .ok (.aload_n 0, 1) := by decide +kernel
theorem dX6_swap_1 : decode cX6_swap 1 = .ok (.getfield 29, 3) := by decide +kernel
theorem dX6_swap_4 : decode cX6_swap 4 = .ok (.iload_n 1, 1) := by decide +kernel
theorem dX6_swap_5 : decode cX6_swap 5 = .ok (.invokevirtual 127, 3) := by decide +kernel
theorem dX6_swap_8 : decode cX6_swap 8 = .ok (.ifCond .eq 13, 3) := by decide +kernel
theorem dX6_swap_11 : decode cX6_swap 11 = .ok (.iload_n 2, 1) := by decide +kernel
theorem dX6_swap_12 : decode cX6_swap 12 = .ok (.iconst 0, 1) := by decide +kernel
theorem dX6_swap_13 : decode cX6_swap 13 = .ok (.bipush 9, 2) := by decide +kernel
theorem dX6_swap_15 : decode cX6_swap 15 = .ok (.invokestatic 68, 3) := by decide +kernel
theorem dX6_swap_18 : decode cX6_swap 18 = .ok (.ifCond .ne 5, 3) := by decide +kernel
theorem dX6_swap_21 : decode cX6_swap 21 = .ok (.iconst (-1), 1) := by decide +kernel
theorem dX6_swap_22 : decode cX6_swap 22 = .ok (.ireturn, 1) := by decide +kernel
theorem dX6_swap_23 : decode cX6_swap 23 = .ok (.aload_n 0, 1) := by decide +kernel
theorem dX6_swap_24 : decode cX6_swap 24 = .ok (.getfield 29, 3) := by decide +kernel
theorem dX6_swap_27 : decode cX6_swap 27 = .ok (.getfield 134, 3) := by decide +kernel
theorem dX6_swap_30 : decode cX6_swap 30 = .ok (.iload_n 1, 1) := by decide +kernel
theorem dX6_swap_31 : decode cX6_swap 31 = .ok (.iaload, 1) := by decide +kernel
theorem dX6_swap_32 : decode cX6_swap 32 = .ok (.istore_n 3, 1) := by decide +kernel
theorem dX6_swap_33 : decode cX6_swap 33 = .ok (.aload_n 0, 1) := by decide +kernel
theorem dX6_swap_34 : decode cX6_swap 34 = .ok (.getfield 29, 3) := by decide +kernel
theorem dX6_swap_37 : decode cX6_swap 37 = .ok (.getfield 134, 3) := by decide +kernel
theorem dX6_swap_40 : decode cX6_swap 40 = .ok (.iload_n 1, 1) := by decide +kernel
theorem dX6_swap_41 : decode cX6_swap 41 = .ok (.iload_n 2, 1) := by decide +kernel
theorem dX6_swap_42 : decode cX6_swap 42 = .ok (.iastore, 1) := by decide +kernel
theorem dX6_swap_43 : decode cX6_swap 43 = .ok (.iload_n 3, 1) := by decide +kernel
theorem dX6_swap_44 : decode cX6_swap 44 = .ok (.ireturn, 1) := by decide +kernel
theorem dX6_letGo_0 : decode cX6_letGo 0 = .ok (.iload_n 1, 1) := by decide +kernel
theorem dX6_letGo_1 : decode cX6_letGo 1 = .ok (.iconst 1, 1) := by decide +kernel
theorem dX6_letGo_2 : decode cX6_letGo 2 = .ok (.sipush 999, 3) := by decide +kernel
theorem dX6_letGo_5 : decode cX6_letGo 5 = .ok (.invokestatic 68, 3) := by decide +kernel
theorem dX6_letGo_8 : decode cX6_letGo 8 = .ok (.ifCond .eq 22, 3) := by decide +kernel
theorem dX6_letGo_11 : decode cX6_letGo 11 = .ok (.iload_n 2, 1) := by decide +kernel
theorem dX6_letGo_12 : decode cX6_letGo 12 = .ok (.iconst 1, 1) := by decide +kernel
theorem dX6_letGo_13 : decode cX6_letGo 13 = .ok (.bipush 99, 2) := by decide +kernel
theorem dX6_letGo_15 : decode cX6_letGo 15 = .ok (.invokestatic 68, 3) := by decide +kernel
theorem dX6_letGo_18 : decode cX6_letGo 18 = .ok (.ifCond .eq 12, 3) := by decide +kernel
theorem dX6_letGo_21 : decode cX6_letGo 21 = .ok (.iload_n 3, 1) := by decide +kernel
theorem dX6_letGo_22 : decode cX6_letGo 22 = .ok (.iconst 0, 1) := by decide +kernel
theorem dX6_letGo_23 : decode cX6_letGo 23 = .ok (.iconst 2, 1) := by decide +kernel
theorem dX6_letGo_24 : decode cX6_letGo 24 = .ok (.invokestatic 68, 3) := by decide +kernel
theorem dX6_letGo_27 : decode cX6_letGo 27 = .ok (.ifCond .ne 5, 3) := by decide +kernel
theorem dX6_letGo_30 : decode cX6_letGo 30 = .ok (.iconst (-1), 1) := by decide +kernel
theorem dX6_letGo_31 : decode cX6_letGo 31 = .ok (.ireturn, 1) := by decide +kernel
theorem dX6_letGo_32 : decode cX6_letGo 32 = .ok (.aload_n 0, 1) := by decide +kernel
theorem dX6_letGo_33 : decode cX6_letGo 33 = .ok (.getfield 60, 3) := by decide +kernel
theorem dX6_letGo_36 : decode cX6_letGo 36 = .ok (.bipush 10, 2) := by decide +kernel
theorem dX6_letGo_38 : decode cX6_letGo 38 = .ok (.iload_n 2, 1) := by decide +kernel
theorem dX6_letGo_39 : decode cX6_letGo 39 = .ok (.imul, 1) := by decide +kernel
theorem dX6_letGo_40 : decode cX6_letGo 40 = .ok (.bipush 10, 2) := by decide +kernel
theorem dX6_letGo_42 : decode cX6_letGo 42 = .ok (.iload_n 1, 1) := by decide +kernel
theorem dX6_letGo_43 : decode cX6_letGo 43 = .ok (.imul, 1) := by decide +kernel
theorem dX6_letGo_44 : decode cX6_letGo 44 = .ok (.aload_n 0, 1) := by decide +kernel
theorem dX6_letGo_45 : decode cX6_letGo 45 = .ok (.getfield 29, 3) := by decide +kernel
theorem dX6_letGo_48 : decode cX6_letGo 48 = .ok (.aload_n 0, 1) := by decide +kernel
theorem dX6_letGo_49 : decode cX6_letGo 49 = .ok (.getfield 19, 3) := by decide +kernel
theorem dX6_letGo_52 : decode cX6_letGo 52 = .ok (.invokevirtual 168, 3) := by decide +kernel
theorem dX6_letGo_55 : decode cX6_letGo 55 = .ok (.iload_n 3, 1) := by decide +kernel
theorem dX6_letGo_56 : decode cX6_letGo 56 = .ok (.ifCond .ne 11, 3) := by decide +kernel
theorem dX6_letGo_59 : decode cX6_letGo 59 = .ok (.aload_n 0, 1) := by decide +kernel
theorem dX6_letGo_60 : decode cX6_letGo 60 = .ok (.getfield 60, 3) := by decide +kernel
theorem dX6_letGo_63 : decode cX6_letGo 63 = .ok (.getfield 171, 3) := by decide +kernel
theorem dX6_letGo_66 : decode cX6_letGo 66 = .ok (.ireturn, 1) := by decide +kernel
theorem dX6_letGo_67 : decode cX6_letGo 67 = .ok (.iload_n 3, 1) := by decide +kernel
theorem dX6_letGo_68 : decode cX6_letGo 68 = .ok (.iconst 1, 1) := by decide +kernel
theorem dX6_letGo_69 : decode cX6_letGo 69 = .ok (.if_icmp .ne 13, 3) := by decide +kernel
theorem dX6_letGo_72 : decode cX6_letGo 72 = .ok (.aload_n 0, 1) := by decide +kernel
theorem dX6_letGo_73 : decode cX6_letGo 73 = .ok (.getfield 60, 3) := by decide +kernel
theorem dX6_letGo_76 : decode cX6_letGo 76 = .ok (.getfield 174, 3) := by decide +kernel
theorem dX6_letGo_79 : decode cX6_letGo 79 = .ok (.goto 10, 3) := by decide +kernel
theorem dX6_letGo_82 : decode cX6_letGo 82 = .ok (.aload_n 0, 1) := by decide +kernel
theorem dX6_letGo_83 : decode cX6_letGo 83 = .ok (.getfield 60, 3) := by decide +kernel
theorem dX6_letGo_86 : decode cX6_letGo 86 = .ok (.getfield 177, 3) := by decide +kernel
theorem dX6_letGo_89 : decode cX6_letGo 89 = .ok (.ireturn, 1) := by decide +kernel
theorem dX6_odds_0 : decode cX6_odds 0 = .ok (.iload_n 1, 1) := by decide +kernel
theorem dX6_odds_1 : decode cX6_odds 1 = .ok (.iload_n 2, 1) := by decide +kernel
theorem dX6_odds_2 : decode cX6_odds 2 = .ok (.invokestatic 180, 3) := by decide +kernel
theorem dX6_odds_5 : decode cX6_odds 5 = .ok (.ifCond .eq 20, 3) := by decide +kernel
theorem dX6_odds_8 : decode cX6_odds 8 = .ok (.iload_n 3, 1) := by decide +kernel
theorem dX6_odds_9 : decode cX6_odds 9 = .ok (.invokestatic 183, 3) := by decide +kernel
theorem dX6_odds_12 : decode cX6_odds 12 = .ok (.ifCond .eq 13, 3) := by decide +kernel
theorem dX6_odds_15 : decode cX6_odds 15 = .ok (.iload 4, 2) := by decide +kernel
theorem dX6_odds_17 : decode cX6_odds 17 = .ok (.iconst 0, 1) := by decide +kernel
theorem dX6_odds_18 : decode cX6_odds 18 = .ok (.iconst 1, 1) := by decide +kernel
theorem dX6_odds_19 : decode cX6_odds 19 = .ok (.invokestatic 68, 3) := by decide +kernel
theorem dX6_odds_22 : decode cX6_odds 22 = .ok (.ifCond .ne 5, 3) := by decide +kernel
theorem dX6_odds_25 : decode cX6_odds 25 = .ok (.iconst (-1), 1) := by decide +kernel
theorem dX6_odds_26 : decode cX6_odds 26 = .ok (.ireturn, 1) := by decide +kernel
theorem dX6_odds_27 : decode cX6_odds 27 = .ok (.aload_n 0, 1) := by decide +kernel
theorem dX6_odds_28 : decode cX6_odds 28 = .ok (.iload_n 1, 1) := by decide +kernel
theorem dX6_odds_29 : decode cX6_odds 29 = .ok (.iload_n 2, 1) := by decide +kernel
theorem dX6_odds_30 : decode cX6_odds 30 = .ok (.invokevirtual 186, 3) := by decide +kernel
theorem dX6_odds_33 : decode cX6_odds 33 = .ok (.istore 5, 2) := by decide +kernel
theorem dX6_odds_35 : decode cX6_odds 35 = .ok (.iload 5, 2) := by decide +kernel
theorem dX6_odds_37 : decode cX6_odds 37 = .ok (.ifCond .ne 6, 3) := by decide +kernel
theorem dX6_odds_40 : decode cX6_odds 40 = .ok (.bipush (-4), 2) := by decide +kernel
theorem dX6_odds_42 : decode cX6_odds 42 = .ok (.ireturn, 1) := by decide +kernel
theorem dX6_odds_43 : decode cX6_odds 43 = .ok (.aload_n 0, 1) := by decide +kernel
theorem dX6_odds_44 : decode cX6_odds 44 = .ok (.iload_n 1, 1) := by decide +kernel
theorem dX6_odds_45 : decode cX6_odds 45 = .ok (.iload_n 2, 1) := by decide +kernel
theorem dX6_odds_46 : decode cX6_odds 46 = .ok (.iload_n 3, 1) := by decide +kernel
theorem dX6_odds_47 : decode cX6_odds 47 = .ok (.invokevirtual 189, 3) := by decide +kernel
theorem dX6_odds_50 : decode cX6_odds 50 = .ok (.istore 6, 2) := by decide +kernel
theorem dX6_odds_52 : decode cX6_odds 52 = .ok (.iconst 1, 1) := by decide +kernel
theorem dX6_odds_53 : decode cX6_odds 53 = .ok (.iload 5, 2) := by decide +kernel
theorem dX6_odds_55 : decode cX6_odds 55 = .ok (.iload 6, 2) := by decide +kernel
theorem dX6_odds_57 : decode cX6_odds 57 = .ok (.invokestatic 193, 3) := by decide +kernel
theorem dX6_odds_60 : decode cX6_odds 60 = .ok (.invokestatic 196, 3) := by decide +kernel
theorem dX6_odds_63 : decode cX6_odds 63 = .ok (.istore 7, 2) := by decide +kernel
theorem dX6_odds_65 : decode cX6_odds 65 = .ok (.iload 4, 2) := by decide +kernel
theorem dX6_odds_67 : decode cX6_odds 67 = .ok (.ifCond .ne 8, 3) := by decide +kernel
theorem dX6_odds_70 : decode cX6_odds 70 = .ok (.iload 6, 2) := by decide +kernel
theorem dX6_odds_72 : decode cX6_odds 72 = .ok (.goto 5, 3) := by decide +kernel
theorem dX6_odds_75 : decode cX6_odds 75 = .ok (.iload 5, 2) := by decide +kernel
theorem dX6_odds_77 : decode cX6_odds 77 = .ok (.iload 7, 2) := by decide +kernel
theorem dX6_odds_79 : decode cX6_odds 79 = .ok (.idiv, 1) := by decide +kernel
theorem dX6_odds_80 : decode cX6_odds 80 = .ok (.ireturn, 1) := by decide +kernel
theorem dX6_likeliest_0 : decode cX6_likeliest 0 = .ok (.iload_n 1, 1) := by decide +kernel
theorem dX6_likeliest_1 : decode cX6_likeliest 1 = .ok (.iload_n 2, 1) := by decide +kernel
theorem dX6_likeliest_2 : decode cX6_likeliest 2 = .ok (.invokestatic 180, 3) := by decide +kernel
theorem dX6_likeliest_5 : decode cX6_likeliest 5 = .ok (.ifCond .ne 5, 3) := by decide +kernel
theorem dX6_likeliest_8 : decode cX6_likeliest 8 = .ok (.iconst (-1), 1) := by decide +kernel
theorem dX6_likeliest_9 : decode cX6_likeliest 9 = .ok (.ireturn, 1) := by decide +kernel
theorem dX6_likeliest_10 : decode cX6_likeliest 10 = .ok (.bipush (-4), 2) := by decide +kernel
theorem dX6_likeliest_12 : decode cX6_likeliest 12 = .ok (.istore_n 3, 1) := by decide +kernel
theorem dX6_likeliest_13 : decode cX6_likeliest 13 = .ok (.iconst 0, 1) := by decide +kernel
theorem dX6_likeliest_14 : decode cX6_likeliest 14 = .ok (.istore 4, 2) := by decide +kernel
theorem dX6_likeliest_16 : decode cX6_likeliest 16 = .ok (.iconst 0, 1) := by decide +kernel
theorem dX6_likeliest_17 : decode cX6_likeliest 17 = .ok (.istore 5, 2) := by decide +kernel
theorem dX6_likeliest_19 : decode cX6_likeliest 19 = .ok (.iload 5, 2) := by decide +kernel
theorem dX6_likeliest_21 : decode cX6_likeliest 21 = .ok (.aload_n 0, 1) := by decide +kernel
theorem dX6_likeliest_22 : decode cX6_likeliest 22 = .ok (.getfield 29, 3) := by decide +kernel
theorem dX6_likeliest_25 : decode cX6_likeliest 25 = .ok (.getfield 110, 3) := by decide +kernel
theorem dX6_likeliest_28 : decode cX6_likeliest 28 = .ok (.if_icmp .ge 49, 3) := by decide +kernel
theorem dX6_likeliest_31 : decode cX6_likeliest 31 = .ok (.aload_n 0, 1) := by decide +kernel
theorem dX6_likeliest_32 : decode cX6_likeliest 32 = .ok (.iload_n 1, 1) := by decide +kernel
theorem dX6_likeliest_33 : decode cX6_likeliest 33 = .ok (.iload_n 2, 1) := by decide +kernel
theorem dX6_likeliest_34 : decode cX6_likeliest 34 = .ok (.aload_n 0, 1) := by decide +kernel
theorem dX6_likeliest_35 : decode cX6_likeliest 35 = .ok (.getfield 19, 3) := by decide +kernel
theorem dX6_likeliest_38 : decode cX6_likeliest 38 = .ok (.getfield 93, 3) := by decide +kernel
theorem dX6_likeliest_41 : decode cX6_likeliest 41 = .ok (.iload 5, 2) := by decide +kernel
theorem dX6_likeliest_43 : decode cX6_likeliest 43 = .ok (.iaload, 1) := by decide +kernel
theorem dX6_likeliest_44 : decode cX6_likeliest 44 = .ok (.invokevirtual 189, 3) := by decide +kernel
theorem dX6_likeliest_47 : decode cX6_likeliest 47 = .ok (.istore 6, 2) := by decide +kernel
theorem dX6_likeliest_49 : decode cX6_likeliest 49 = .ok (.iload 6, 2) := by decide +kernel
theorem dX6_likeliest_51 : decode cX6_likeliest 51 = .ok (.iload 4, 2) := by decide +kernel
theorem dX6_likeliest_53 : decode cX6_likeliest 53 = .ok (.if_icmp .le 18, 3) := by decide +kernel
theorem dX6_likeliest_56 : decode cX6_likeliest 56 = .ok (.iload 6, 2) := by decide +kernel
theorem dX6_likeliest_58 : decode cX6_likeliest 58 = .ok (.istore 4, 2) := by decide +kernel
theorem dX6_likeliest_60 : decode cX6_likeliest 60 = .ok (.aload_n 0, 1) := by decide +kernel
theorem dX6_likeliest_61 : decode cX6_likeliest 61 = .ok (.getfield 19, 3) := by decide +kernel
theorem dX6_likeliest_64 : decode cX6_likeliest 64 = .ok (.getfield 93, 3) := by decide +kernel
theorem dX6_likeliest_67 : decode cX6_likeliest 67 = .ok (.iload 5, 2) := by decide +kernel
theorem dX6_likeliest_69 : decode cX6_likeliest 69 = .ok (.iaload, 1) := by decide +kernel
theorem dX6_likeliest_70 : decode cX6_likeliest 70 = .ok (.istore_n 3, 1) := by decide +kernel
theorem dX6_likeliest_71 : decode cX6_likeliest 71 = .ok (.iinc 5 1, 3) := by decide +kernel
theorem dX6_likeliest_74 : decode cX6_likeliest 74 = .ok (.goto (-55), 3) := by decide +kernel
theorem dX6_likeliest_77 : decode cX6_likeliest 77 = .ok (.iload_n 3, 1) := by decide +kernel
theorem dX6_likeliest_78 : decode cX6_likeliest 78 = .ok (.ireturn, 1) := by decide +kernel
theorem dX6_mark_0 : decode cX6_mark 0 = .ok (.iload_n 1, 1) := by decide +kernel
theorem dX6_mark_1 : decode cX6_mark 1 = .ok (.iconst 0, 1) := by decide +kernel
theorem dX6_mark_2 : decode cX6_mark 2 = .ok (.bipush 9, 2) := by decide +kernel
theorem dX6_mark_4 : decode cX6_mark 4 = .ok (.invokestatic 68, 3) := by decide +kernel
theorem dX6_mark_7 : decode cX6_mark 7 = .ok (.ifCond .ne 5, 3) := by decide +kernel
theorem dX6_mark_10 : decode cX6_mark 10 = .ok (.iconst (-1), 1) := by decide +kernel
theorem dX6_mark_11 : decode cX6_mark 11 = .ok (.ireturn, 1) := by decide +kernel
theorem dX6_mark_12 : decode cX6_mark 12 = .ok (.aload_n 0, 1) := by decide +kernel
theorem dX6_mark_13 : decode cX6_mark 13 = .ok (.getfield 46, 3) := by decide +kernel
theorem dX6_mark_16 : decode cX6_mark 16 = .ok (.iload_n 1, 1) := by decide +kernel
theorem dX6_mark_17 : decode cX6_mark 17 = .ok (.invokevirtual 201, 3) := by decide +kernel
theorem dX6_mark_20 : decode cX6_mark 20 = .ok (.ifCond .eq 13, 3) := by decide +kernel
theorem dX6_mark_23 : decode cX6_mark 23 = .ok (.aload_n 0, 1) := by decide +kernel
theorem dX6_mark_24 : decode cX6_mark 24 = .ok (.getfield 46, 3) := by decide +kernel
theorem dX6_mark_27 : decode cX6_mark 27 = .ok (.getfield 204, 3) := by decide +kernel
theorem dX6_mark_30 : decode cX6_mark 30 = .ok (.goto 5, 3) := by decide +kernel
theorem dX6_mark_33 : decode cX6_mark 33 = .ok (.bipush (-3), 2) := by decide +kernel
theorem dX6_mark_35 : decode cX6_mark 35 = .ok (.ireturn, 1) := by decide +kernel
theorem dX6_noMarks_0 : decode cX6_noMarks 0 = .ok (.aload_n 0, 1) := by decide +kernel
theorem dX6_noMarks_1 : decode cX6_noMarks 1 = .ok (.getfield 46, 3) := by decide +kernel
theorem dX6_noMarks_4 : decode cX6_noMarks 4 = .ok (.invokevirtual 92, 3) := by decide +kernel
theorem dX6_noMarks_7 : decode cX6_noMarks 7 = .ok (.ireturn, 1) := by decide +kernel
theorem dX6_far_0 : decode cX6_far 0 = .ok (.aload_n 0, 1) := by decide +kernel
theorem dX6_far_1 : decode cX6_far 1 = .ok (.getfield 46, 3) := by decide +kernel
theorem dX6_far_4 : decode cX6_far 4 = .ok (.aload_n 0, 1) := by decide +kernel
theorem dX6_far_5 : decode cX6_far 5 = .ok (.getfield 29, 3) := by decide +kernel
theorem dX6_far_8 : decode cX6_far 8 = .ok (.invokevirtual 205, 3) := by decide +kernel
theorem dX6_far_11 : decode cX6_far 11 = .ok (.ireturn, 1) := by decide +kernel
theorem dX6_odd_0 : decode cX6_odd 0 = .ok (.aload_n 0, 1) := by decide +kernel
theorem dX6_odd_1 : decode cX6_odd 1 = .ok (.getfield 46, 3) := by decide +kernel
theorem dX6_odd_4 : decode cX6_odd 4 = .ok (.aload_n 0, 1) := by decide +kernel
theorem dX6_odd_5 : decode cX6_odd 5 = .ok (.getfield 29, 3) := by decide +kernel
theorem dX6_odd_8 : decode cX6_odd 8 = .ok (.invokevirtual 205, 3) := by decide +kernel
theorem dX6_odd_11 : decode cX6_odd 11 = .ok (.ifCond .ne 8, 3) := by decide +kernel
theorem dX6_odd_14 : decode cX6_odd 14 = .ok (.bipush (-4), 2) := by decide +kernel
theorem dX6_odd_16 : decode cX6_odd 16 = .ok (.goto 14, 3) := by decide +kernel
theorem dX6_odd_19 : decode cX6_odd 19 = .ok (.aload_n 0, 1) := by decide +kernel
theorem dX6_odd_20 : decode cX6_odd 20 = .ok (.getfield 46, 3) := by decide +kernel
theorem dX6_odd_23 : decode cX6_odd 23 = .ok (.aload_n 0, 1) := by decide +kernel
theorem dX6_odd_24 : decode cX6_odd 24 = .ok (.getfield 29, 3) := by decide +kernel
theorem dX6_odd_27 : decode cX6_odd 27 = .ok (.invokevirtual 209, 3) := by decide +kernel
theorem dX6_odd_30 : decode cX6_odd 30 = .ok (.ireturn, 1) := by decide +kernel
theorem dX6_wish_0 : decode cX6_wish 0 = .ok (.iload_n 1, 1) := by decide +kernel
theorem dX6_wish_1 : decode cX6_wish 1 = .ok (.invokestatic 183, 3) := by decide +kernel
theorem dX6_wish_4 : decode cX6_wish 4 = .ok (.ifCond .eq 11, 3) := by decide +kernel
theorem dX6_wish_7 : decode cX6_wish 7 = .ok (.aload_n 0, 1) := by decide +kernel
theorem dX6_wish_8 : decode cX6_wish 8 = .ok (.iload_n 1, 1) := by decide +kernel
theorem dX6_wish_9 : decode cX6_wish 9 = .ok (.invokevirtual 212, 3) := by decide +kernel
theorem dX6_wish_12 : decode cX6_wish 12 = .ok (.goto 4, 3) := by decide +kernel
theorem dX6_wish_15 : decode cX6_wish 15 = .ok (.iconst (-1), 1) := by decide +kernel
theorem dX6_wish_16 : decode cX6_wish 16 = .ok (.ireturn, 1) := by decide +kernel
theorem dX6_nearest_0 : decode cX6_nearest 0 = .ok (.iload_n 1, 1) := by decide +kernel
theorem dX6_nearest_1 : decode cX6_nearest 1 = .ok (.invokestatic 183, 3) := by decide +kernel
theorem dX6_nearest_4 : decode cX6_nearest 4 = .ok (.ifCond .eq 14, 3) := by decide +kernel
theorem dX6_nearest_7 : decode cX6_nearest 7 = .ok (.iload_n 2, 1) := by decide +kernel
theorem dX6_nearest_8 : decode cX6_nearest 8 = .ok (.iconst 1, 1) := by decide +kernel
theorem dX6_nearest_9 : decode cX6_nearest 9 = .ok (.sipush 999, 3) := by decide +kernel
theorem dX6_nearest_12 : decode cX6_nearest 12 = .ok (.invokestatic 68, 3) := by decide +kernel
theorem dX6_nearest_15 : decode cX6_nearest 15 = .ok (.ifCond .ne 5, 3) := by decide +kernel
theorem dX6_nearest_18 : decode cX6_nearest 18 = .ok (.iconst (-1), 1) := by decide +kernel
theorem dX6_nearest_19 : decode cX6_nearest 19 = .ok (.ireturn, 1) := by decide +kernel
theorem dX6_nearest_20 : decode cX6_nearest 20 = .ok (.bipush (-4), 2) := by decide +kernel
theorem dX6_nearest_22 : decode cX6_nearest 22 = .ok (.istore_n 3, 1) := by decide +kernel
theorem dX6_nearest_23 : decode cX6_nearest 23 = .ok (.bipush 100, 2) := by decide +kernel
theorem dX6_nearest_25 : decode cX6_nearest 25 = .ok (.istore 4, 2) := by decide +kernel
theorem dX6_nearest_27 : decode cX6_nearest 27 = .ok (.iconst 0, 1) := by decide +kernel
theorem dX6_nearest_28 : decode cX6_nearest 28 = .ok (.istore 5, 2) := by decide +kernel
theorem dX6_nearest_30 : decode cX6_nearest 30 = .ok (.iload 5, 2) := by decide +kernel
theorem dX6_nearest_32 : decode cX6_nearest 32 = .ok (.aload_n 0, 1) := by decide +kernel
theorem dX6_nearest_33 : decode cX6_nearest 33 = .ok (.getfield 29, 3) := by decide +kernel
theorem dX6_nearest_36 : decode cX6_nearest 36 = .ok (.getfield 110, 3) := by decide +kernel
theorem dX6_nearest_39 : decode cX6_nearest 39 = .ok (.if_icmp .ge 66, 3) := by decide +kernel
theorem dX6_nearest_42 : decode cX6_nearest 42 = .ok (.aload_n 0, 1) := by decide +kernel
theorem dX6_nearest_43 : decode cX6_nearest 43 = .ok (.getfield 19, 3) := by decide +kernel
theorem dX6_nearest_46 : decode cX6_nearest 46 = .ok (.getfield 93, 3) := by decide +kernel
theorem dX6_nearest_49 : decode cX6_nearest 49 = .ok (.iload 5, 2) := by decide +kernel
theorem dX6_nearest_51 : decode cX6_nearest 51 = .ok (.iaload, 1) := by decide +kernel
theorem dX6_nearest_52 : decode cX6_nearest 52 = .ok (.iload_n 1, 1) := by decide +kernel
theorem dX6_nearest_53 : decode cX6_nearest 53 = .ok (.isub, 1) := by decide +kernel
theorem dX6_nearest_54 : decode cX6_nearest 54 = .ok (.invokestatic 215, 3) := by decide +kernel
theorem dX6_nearest_57 : decode cX6_nearest 57 = .ok (.istore 6, 2) := by decide +kernel
theorem dX6_nearest_59 : decode cX6_nearest 59 = .ok (.iload 6, 2) := by decide +kernel
theorem dX6_nearest_61 : decode cX6_nearest 61 = .ok (.iload 4, 2) := by decide +kernel
theorem dX6_nearest_63 : decode cX6_nearest 63 = .ok (.if_icmp .ge 36, 3) := by decide +kernel
theorem dX6_nearest_66 : decode cX6_nearest 66 = .ok (.aload_n 0, 1) := by decide +kernel
theorem dX6_nearest_67 : decode cX6_nearest 67 = .ok (.aload_n 0, 1) := by decide +kernel
theorem dX6_nearest_68 : decode cX6_nearest 68 = .ok (.getfield 19, 3) := by decide +kernel
theorem dX6_nearest_71 : decode cX6_nearest 71 = .ok (.getfield 93, 3) := by decide +kernel
theorem dX6_nearest_74 : decode cX6_nearest 74 = .ok (.iload 5, 2) := by decide +kernel
theorem dX6_nearest_76 : decode cX6_nearest 76 = .ok (.iaload, 1) := by decide +kernel
theorem dX6_nearest_77 : decode cX6_nearest 77 = .ok (.invokevirtual 212, 3) := by decide +kernel
theorem dX6_nearest_80 : decode cX6_nearest 80 = .ok (.iload_n 2, 1) := by decide +kernel
theorem dX6_nearest_81 : decode cX6_nearest 81 = .ok (.if_icmp .lt 18, 3) := by decide +kernel
theorem dX6_nearest_84 : decode cX6_nearest 84 = .ok (.iload 6, 2) := by decide +kernel
theorem dX6_nearest_86 : decode cX6_nearest 86 = .ok (.istore 4, 2) := by decide +kernel
theorem dX6_nearest_88 : decode cX6_nearest 88 = .ok (.aload_n 0, 1) := by decide +kernel
theorem dX6_nearest_89 : decode cX6_nearest 89 = .ok (.getfield 19, 3) := by decide +kernel
theorem dX6_nearest_92 : decode cX6_nearest 92 = .ok (.getfield 93, 3) := by decide +kernel
theorem dX6_nearest_95 : decode cX6_nearest 95 = .ok (.iload 5, 2) := by decide +kernel
theorem dX6_nearest_97 : decode cX6_nearest 97 = .ok (.iaload, 1) := by decide +kernel
theorem dX6_nearest_98 : decode cX6_nearest 98 = .ok (.istore_n 3, 1) := by decide +kernel
theorem dX6_nearest_99 : decode cX6_nearest 99 = .ok (.iinc 5 1, 3) := by decide +kernel
theorem dX6_nearest_102 : decode cX6_nearest 102 = .ok (.goto (-72), 3) := by decide +kernel
theorem dX6_nearest_105 : decode cX6_nearest 105 = .ok (.iload_n 3, 1) := by decide +kernel
theorem dX6_nearest_106 : decode cX6_nearest 106 = .ok (.ireturn, 1) := by decide +kernel
theorem dX6_moved_0 : decode cX6_moved 0 = .ok (.iload_n 1, 1) := by decide +kernel
theorem dX6_moved_1 : decode cX6_moved 1 = .ok (.bipush 10, 2) := by decide +kernel
theorem dX6_moved_3 : decode cX6_moved 3 = .ok (.sipush 9990, 3) := by decide +kernel
theorem dX6_moved_6 : decode cX6_moved 6 = .ok (.invokestatic 68, 3) := by decide +kernel
theorem dX6_moved_9 : decode cX6_moved 9 = .ok (.ifCond .ne 5, 3) := by decide +kernel
theorem dX6_moved_12 : decode cX6_moved 12 = .ok (.iconst (-1), 1) := by decide +kernel
theorem dX6_moved_13 : decode cX6_moved 13 = .ok (.ireturn, 1) := by decide +kernel
theorem dX6_moved_14 : decode cX6_moved 14 = .ok (.iconst 0, 1) := by decide +kernel
theorem dX6_moved_15 : decode cX6_moved 15 = .ok (.istore_n 2, 1) := by decide +kernel
theorem dX6_moved_16 : decode cX6_moved 16 = .ok (.iconst 0, 1) := by decide +kernel
theorem dX6_moved_17 : decode cX6_moved 17 = .ok (.istore_n 3, 1) := by decide +kernel
theorem dX6_moved_18 : decode cX6_moved 18 = .ok (.iconst 0, 1) := by decide +kernel
theorem dX6_moved_19 : decode cX6_moved 19 = .ok (.istore 4, 2) := by decide +kernel
theorem dX6_moved_21 : decode cX6_moved 21 = .ok (.iload 4, 2) := by decide +kernel
theorem dX6_moved_23 : decode cX6_moved 23 = .ok (.aload_n 0, 1) := by decide +kernel
theorem dX6_moved_24 : decode cX6_moved 24 = .ok (.getfield 29, 3) := by decide +kernel
theorem dX6_moved_27 : decode cX6_moved 27 = .ok (.getfield 110, 3) := by decide +kernel
theorem dX6_moved_30 : decode cX6_moved 30 = .ok (.if_icmp .ge 68, 3) := by decide +kernel
theorem dX6_moved_33 : decode cX6_moved 33 = .ok (.aload_n 0, 1) := by decide +kernel
theorem dX6_moved_34 : decode cX6_moved 34 = .ok (.getfield 29, 3) := by decide +kernel
theorem dX6_moved_37 : decode cX6_moved 37 = .ok (.getfield 131, 3) := by decide +kernel
theorem dX6_moved_40 : decode cX6_moved 40 = .ok (.iload 4, 2) := by decide +kernel
theorem dX6_moved_42 : decode cX6_moved 42 = .ok (.iaload, 1) := by decide +kernel
theorem dX6_moved_43 : decode cX6_moved 43 = .ok (.aload_n 0, 1) := by decide +kernel
theorem dX6_moved_44 : decode cX6_moved 44 = .ok (.getfield 19, 3) := by decide +kernel
theorem dX6_moved_47 : decode cX6_moved 47 = .ok (.getfield 100, 3) := by decide +kernel
theorem dX6_moved_50 : decode cX6_moved 50 = .ok (.iload 4, 2) := by decide +kernel
theorem dX6_moved_52 : decode cX6_moved 52 = .ok (.iaload, 1) := by decide +kernel
theorem dX6_moved_53 : decode cX6_moved 53 = .ok (.imul, 1) := by decide +kernel
theorem dX6_moved_54 : decode cX6_moved 54 = .ok (.istore 5, 2) := by decide +kernel
theorem dX6_moved_56 : decode cX6_moved 56 = .ok (.iload 5, 2) := by decide +kernel
theorem dX6_moved_58 : decode cX6_moved 58 = .ok (.iload_n 1, 1) := by decide +kernel
theorem dX6_moved_59 : decode cX6_moved 59 = .ok (.if_icmp .le 6, 3) := by decide +kernel
theorem dX6_moved_62 : decode cX6_moved 62 = .ok (.bipush (-4), 2) := by decide +kernel
theorem dX6_moved_64 : decode cX6_moved 64 = .ok (.ireturn, 1) := by decide +kernel
theorem dX6_moved_65 : decode cX6_moved 65 = .ok (.iload 5, 2) := by decide +kernel
theorem dX6_moved_67 : decode cX6_moved 67 = .ok (.ifCond .le 20, 3) := by decide +kernel
theorem dX6_moved_70 : decode cX6_moved 70 = .ok (.iload_n 2, 1) := by decide +kernel
theorem dX6_moved_71 : decode cX6_moved 71 = .ok (.ifCond .eq 11, 3) := by decide +kernel
theorem dX6_moved_74 : decode cX6_moved 74 = .ok (.iload_n 3, 1) := by decide +kernel
theorem dX6_moved_75 : decode cX6_moved 75 = .ok (.iload 5, 2) := by decide +kernel
theorem dX6_moved_77 : decode cX6_moved 77 = .ok (.iadd, 1) := by decide +kernel
theorem dX6_moved_78 : decode cX6_moved 78 = .ok (.iload_n 1, 1) := by decide +kernel
theorem dX6_moved_79 : decode cX6_moved 79 = .ok (.if_icmp .le 8, 3) := by decide +kernel
theorem dX6_moved_82 : decode cX6_moved 82 = .ok (.iinc 2 1, 3) := by decide +kernel
theorem dX6_moved_85 : decode cX6_moved 85 = .ok (.iconst 0, 1) := by decide +kernel
theorem dX6_moved_86 : decode cX6_moved 86 = .ok (.istore_n 3, 1) := by decide +kernel
theorem dX6_moved_87 : decode cX6_moved 87 = .ok (.iload_n 3, 1) := by decide +kernel
theorem dX6_moved_88 : decode cX6_moved 88 = .ok (.iload 5, 2) := by decide +kernel
theorem dX6_moved_90 : decode cX6_moved 90 = .ok (.iadd, 1) := by decide +kernel
theorem dX6_moved_91 : decode cX6_moved 91 = .ok (.istore_n 3, 1) := by decide +kernel
theorem dX6_moved_92 : decode cX6_moved 92 = .ok (.iinc 4 1, 3) := by decide +kernel
theorem dX6_moved_95 : decode cX6_moved 95 = .ok (.goto (-74), 3) := by decide +kernel
theorem dX6_moved_98 : decode cX6_moved 98 = .ok (.iload_n 2, 1) := by decide +kernel
theorem dX6_moved_99 : decode cX6_moved 99 = .ok (.ifCond .ne 7, 3) := by decide +kernel
theorem dX6_moved_102 : decode cX6_moved 102 = .ok (.iconst 0, 1) := by decide +kernel
theorem dX6_moved_103 : decode cX6_moved 103 = .ok (.goto 8, 3) := by decide +kernel
theorem dX6_moved_106 : decode cX6_moved 106 = .ok (.iconst 2, 1) := by decide +kernel
theorem dX6_moved_107 : decode cX6_moved 107 = .ok (.iload_n 2, 1) := by decide +kernel
theorem dX6_moved_108 : decode cX6_moved 108 = .ok (.imul, 1) := by decide +kernel
theorem dX6_moved_109 : decode cX6_moved 109 = .ok (.iconst 1, 1) := by decide +kernel
theorem dX6_moved_110 : decode cX6_moved 110 = .ok (.isub, 1) := by decide +kernel
theorem dX6_moved_111 : decode cX6_moved 111 = .ok (.ireturn, 1) := by decide +kernel
theorem dX6_rent_0 : decode cX6_rent 0 = .ok (.iload_n 1, 1) := by decide +kernel
theorem dX6_rent_1 : decode cX6_rent 1 = .ok (.iconst 1, 1) := by decide +kernel
theorem dX6_rent_2 : decode cX6_rent 2 = .ok (.ldc 218, 2) := by decide +kernel
theorem dX6_rent_4 : decode cX6_rent 4 = .ok (.invokestatic 68, 3) := by decide +kernel
theorem dX6_rent_7 : decode cX6_rent 7 = .ok (.ifCond .ne 7, 3) := by decide +kernel
theorem dX6_rent_10 : decode cX6_rent 10 = .ok (.ldc2_w 219, 3) := by decide +kernel
theorem dX6_rent_13 : decode cX6_rent 13 = .ok (.lreturn, 1) := by decide +kernel
theorem dX6_rent_14 : decode cX6_rent 14 = .ok (.lconst 0, 1) := by decide +kernel
theorem dX6_rent_15 : decode cX6_rent 15 = .ok (.lstore_n 2, 1) := by decide +kernel
theorem dX6_rent_16 : decode cX6_rent 16 = .ok (.iconst 0, 1) := by decide +kernel
theorem dX6_rent_17 : decode cX6_rent 17 = .ok (.istore 4, 2) := by decide +kernel
theorem dX6_rent_19 : decode cX6_rent 19 = .ok (.iload 4, 2) := by decide +kernel
theorem dX6_rent_21 : decode cX6_rent 21 = .ok (.aload_n 0, 1) := by decide +kernel
theorem dX6_rent_22 : decode cX6_rent 22 = .ok (.getfield 29, 3) := by decide +kernel
theorem dX6_rent_25 : decode cX6_rent 25 = .ok (.getfield 110, 3) := by decide +kernel
theorem dX6_rent_28 : decode cX6_rent 28 = .ok (.if_icmp .ge 33, 3) := by decide +kernel
theorem dX6_rent_31 : decode cX6_rent 31 = .ok (.lload_n 2, 1) := by decide +kernel
theorem dX6_rent_32 : decode cX6_rent 32 = .ok (.aload_n 0, 1) := by decide +kernel
theorem dX6_rent_33 : decode cX6_rent 33 = .ok (.getfield 29, 3) := by decide +kernel
theorem dX6_rent_36 : decode cX6_rent 36 = .ok (.getfield 131, 3) := by decide +kernel
theorem dX6_rent_39 : decode cX6_rent 39 = .ok (.iload 4, 2) := by decide +kernel
theorem dX6_rent_41 : decode cX6_rent 41 = .ok (.iaload, 1) := by decide +kernel
theorem dX6_rent_42 : decode cX6_rent 42 = .ok (.aload_n 0, 1) := by decide +kernel
theorem dX6_rent_43 : decode cX6_rent 43 = .ok (.getfield 19, 3) := by decide +kernel
theorem dX6_rent_46 : decode cX6_rent 46 = .ok (.iload 4, 2) := by decide +kernel
theorem dX6_rent_48 : decode cX6_rent 48 = .ok (.invokevirtual 106, 3) := by decide +kernel
theorem dX6_rent_51 : decode cX6_rent 51 = .ok (.imul, 1) := by decide +kernel
theorem dX6_rent_52 : decode cX6_rent 52 = .ok (.i2l, 1) := by decide +kernel
theorem dX6_rent_53 : decode cX6_rent 53 = .ok (.ladd, 1) := by decide +kernel
theorem dX6_rent_54 : decode cX6_rent 54 = .ok (.lstore_n 2, 1) := by decide +kernel
theorem dX6_rent_55 : decode cX6_rent 55 = .ok (.iinc 4 1, 3) := by decide +kernel
theorem dX6_rent_58 : decode cX6_rent 58 = .ok (.goto (-39), 3) := by decide +kernel
theorem dX6_rent_61 : decode cX6_rent 61 = .ok (.iload_n 1, 1) := by decide +kernel
theorem dX6_rent_62 : decode cX6_rent 62 = .ok (.i2l, 1) := by decide +kernel
theorem dX6_rent_63 : decode cX6_rent 63 = .ok (.lload_n 2, 1) := by decide +kernel
theorem dX6_rent_64 : decode cX6_rent 64 = .ok (.lmul, 1) := by decide +kernel
theorem dX6_rent_65 : decode cX6_rent 65 = .ok (.ldc2_w 221, 3) := by decide +kernel
theorem dX6_rent_68 : decode cX6_rent 68 = .ok (.ldiv, 1) := by decide +kernel
theorem dX6_rent_69 : decode cX6_rent 69 = .ok (.lreturn, 1) := by decide +kernel
theorem dX6_winter_0 : decode cX6_winter 0 = .ok (.iload_n 1, 1) := by decide +kernel
theorem dX6_winter_1 : decode cX6_winter 1 = .ok (.invokestatic 223, 3) := by decide +kernel
theorem dX6_winter_4 : decode cX6_winter 4 = .ok (.ifCond .eq 14, 3) := by decide +kernel
theorem dX6_winter_7 : decode cX6_winter 7 = .ok (.aload_n 0, 1) := by decide +kernel
theorem dX6_winter_8 : decode cX6_winter 8 = .ok (.iconst 0, 1) := by decide +kernel
theorem dX6_winter_9 : decode cX6_winter 9 = .ok (.iconst 0, 1) := by decide +kernel
theorem dX6_winter_10 : decode cX6_winter 10 = .ok (.iconst 0, 1) := by decide +kernel
theorem dX6_winter_11 : decode cX6_winter 11 = .ok (.iload_n 1, 1) := by decide +kernel
theorem dX6_winter_12 : decode cX6_winter 12 = .ok (.invokevirtual 140, 3) := by decide +kernel
theorem dX6_winter_15 : decode cX6_winter 15 = .ok (.goto 4, 3) := by decide +kernel
theorem dX6_winter_18 : decode cX6_winter 18 = .ok (.iconst (-1), 1) := by decide +kernel
theorem dX6_winter_19 : decode cX6_winter 19 = .ok (.ireturn, 1) := by decide +kernel
theorem dX6_ten_0 : decode cX6_ten 0 = .ok (.iload_n 1, 1) := by decide +kernel
theorem dX6_ten_1 : decode cX6_ten 1 = .ok (.invokestatic 223, 3) := by decide +kernel
theorem dX6_ten_4 : decode cX6_ten 4 = .ok (.ifCond .ne 5, 3) := by decide +kernel
theorem dX6_ten_7 : decode cX6_ten 7 = .ok (.iconst (-1), 1) := by decide +kernel
theorem dX6_ten_8 : decode cX6_ten 8 = .ok (.ireturn, 1) := by decide +kernel
theorem dX6_ten_9 : decode cX6_ten 9 = .ok (.iconst 0, 1) := by decide +kernel
theorem dX6_ten_10 : decode cX6_ten 10 = .ok (.istore_n 2, 1) := by decide +kernel
theorem dX6_ten_11 : decode cX6_ten 11 = .ok (.iconst 0, 1) := by decide +kernel
theorem dX6_ten_12 : decode cX6_ten 12 = .ok (.istore_n 3, 1) := by decide +kernel
theorem dX6_ten_13 : decode cX6_ten 13 = .ok (.iload_n 3, 1) := by decide +kernel
theorem dX6_ten_14 : decode cX6_ten 14 = .ok (.bipush 10, 2) := by decide +kernel
theorem dX6_ten_16 : decode cX6_ten 16 = .ok (.if_icmp .ge 36, 3) := by decide +kernel
theorem dX6_ten_19 : decode cX6_ten 19 = .ok (.aload_n 0, 1) := by decide +kernel
theorem dX6_ten_20 : decode cX6_ten 20 = .ok (.iconst 0, 1) := by decide +kernel
theorem dX6_ten_21 : decode cX6_ten 21 = .ok (.iconst 0, 1) := by decide +kernel
theorem dX6_ten_22 : decode cX6_ten 22 = .ok (.iconst 0, 1) := by decide +kernel
theorem dX6_ten_23 : decode cX6_ten 23 = .ok (.iload_n 1, 1) := by decide +kernel
theorem dX6_ten_24 : decode cX6_ten 24 = .ok (.iload_n 3, 1) := by decide +kernel
theorem dX6_ten_25 : decode cX6_ten 25 = .ok (.iadd, 1) := by decide +kernel
theorem dX6_ten_26 : decode cX6_ten 26 = .ok (.sipush 10000, 3) := by decide +kernel
theorem dX6_ten_29 : decode cX6_ten 29 = .ok (.irem, 1) := by decide +kernel
theorem dX6_ten_30 : decode cX6_ten 30 = .ok (.invokevirtual 140, 3) := by decide +kernel
theorem dX6_ten_33 : decode cX6_ten 33 = .ok (.aload_n 0, 1) := by decide +kernel
theorem dX6_ten_34 : decode cX6_ten 34 = .ok (.getfield 19, 3) := by decide +kernel
theorem dX6_ten_37 : decode cX6_ten 37 = .ok (.getfield 87, 3) := by decide +kernel
theorem dX6_ten_40 : decode cX6_ten 40 = .ok (.if_icmp .ne 6, 3) := by decide +kernel
theorem dX6_ten_43 : decode cX6_ten 43 = .ok (.iinc 2 1, 3) := by decide +kernel
theorem dX6_ten_46 : decode cX6_ten 46 = .ok (.iinc 3 1, 3) := by decide +kernel
theorem dX6_ten_49 : decode cX6_ten 49 = .ok (.goto (-36), 3) := by decide +kernel
theorem dX6_ten_52 : decode cX6_ten 52 = .ok (.iload_n 2, 1) := by decide +kernel
theorem dX6_ten_53 : decode cX6_ten 53 = .ok (.ireturn, 1) := by decide +kernel
theorem dX6_keep_0 : decode cX6_keep 0 = .ok (.aload_n 0, 1) := by decide +kernel
theorem dX6_keep_1 : decode cX6_keep 1 = .ok (.getfield 39, 3) := by decide +kernel
theorem dX6_keep_4 : decode cX6_keep 4 = .ok (.iconst 2, 1) := by decide +kernel
theorem dX6_keep_5 : decode cX6_keep 5 = .ok (.if_icmp .lt 6, 3) := by decide +kernel
theorem dX6_keep_8 : decode cX6_keep 8 = .ok (.bipush (-3), 2) := by decide +kernel
theorem dX6_keep_10 : decode cX6_keep 10 = .ok (.ireturn, 1) := by decide +kernel
theorem dX6_keep_11 : decode cX6_keep 11 = .ok (.aload_n 0, 1) := by decide +kernel
theorem dX6_keep_12 : decode cX6_keep 12 = .ok (.aload_n 0, 1) := by decide +kernel
theorem dX6_keep_13 : decode cX6_keep 13 = .ok (.getfield 39, 3) := by decide +kernel
theorem dX6_keep_16 : decode cX6_keep 16 = .ok (.invokevirtual 226, 3) := by decide +kernel
theorem dX6_keep_19 : decode cX6_keep 19 = .ok (.aload_n 0, 1) := by decide +kernel
theorem dX6_keep_20 : decode cX6_keep 20 = .ok (.getfield 29, 3) := by decide +kernel
theorem dX6_keep_23 : decode cX6_keep 23 = .ok (.invokevirtual 230, 3) := by decide +kernel
theorem dX6_keep_26 : decode cX6_keep 26 = .ok (.aload_n 0, 1) := by decide +kernel
theorem dX6_keep_27 : decode cX6_keep 27 = .ok (.dup, 1) := by decide +kernel
theorem dX6_keep_28 : decode cX6_keep 28 = .ok (.getfield 39, 3) := by decide +kernel
theorem dX6_keep_31 : decode cX6_keep 31 = .ok (.iconst 1, 1) := by decide +kernel
theorem dX6_keep_32 : decode cX6_keep 32 = .ok (.iadd, 1) := by decide +kernel
theorem dX6_keep_33 : decode cX6_keep 33 = .ok (.putfield 39, 3) := by decide +kernel
theorem dX6_keep_36 : decode cX6_keep 36 = .ok (.aload_n 0, 1) := by decide +kernel
theorem dX6_keep_37 : decode cX6_keep 37 = .ok (.getfield 39, 3) := by decide +kernel
theorem dX6_keep_40 : decode cX6_keep 40 = .ok (.ireturn, 1) := by decide +kernel
theorem dX6_back_0 : decode cX6_back 0 = .ok (.aload_n 0, 1) := by decide +kernel
theorem dX6_back_1 : decode cX6_back 1 = .ok (.getfield 39, 3) := by decide +kernel
theorem dX6_back_4 : decode cX6_back 4 = .ok (.ifCond .ne 6, 3) := by decide +kernel
theorem dX6_back_7 : decode cX6_back 7 = .ok (.bipush (-2), 2) := by decide +kernel
theorem dX6_back_9 : decode cX6_back 9 = .ok (.ireturn, 1) := by decide +kernel
theorem dX6_back_10 : decode cX6_back 10 = .ok (.aload_n 0, 1) := by decide +kernel
theorem dX6_back_11 : decode cX6_back 11 = .ok (.dup, 1) := by decide +kernel
theorem dX6_back_12 : decode cX6_back 12 = .ok (.getfield 39, 3) := by decide +kernel
theorem dX6_back_15 : decode cX6_back 15 = .ok (.iconst 1, 1) := by decide +kernel
theorem dX6_back_16 : decode cX6_back 16 = .ok (.isub, 1) := by decide +kernel
theorem dX6_back_17 : decode cX6_back 17 = .ok (.putfield 39, 3) := by decide +kernel
theorem dX6_back_20 : decode cX6_back 20 = .ok (.aload_n 0, 1) := by decide +kernel
theorem dX6_back_21 : decode cX6_back 21 = .ok (.getfield 29, 3) := by decide +kernel
theorem dX6_back_24 : decode cX6_back 24 = .ok (.aload_n 0, 1) := by decide +kernel
theorem dX6_back_25 : decode cX6_back 25 = .ok (.aload_n 0, 1) := by decide +kernel
theorem dX6_back_26 : decode cX6_back 26 = .ok (.getfield 39, 3) := by decide +kernel
theorem dX6_back_29 : decode cX6_back 29 = .ok (.invokevirtual 226, 3) := by decide +kernel
theorem dX6_back_32 : decode cX6_back 32 = .ok (.invokevirtual 230, 3) := by decide +kernel
theorem dX6_back_35 : decode cX6_back 35 = .ok (.aload_n 0, 1) := by decide +kernel
theorem dX6_back_36 : decode cX6_back 36 = .ok (.getfield 39, 3) := by decide +kernel
theorem dX6_back_39 : decode cX6_back 39 = .ok (.ireturn, 1) := by decide +kernel
theorem dX6_count_0 : decode cX6_count 0 = .ok (.iload_n 1, 1) := by decide +kernel
theorem dX6_count_1 : decode cX6_count 1 = .ok (.tableswitch 124 0 8 #[51, 59, 67, 75, 87, 95, 103, 111, 116], 51) := by decide +kernel
theorem dX6_count_52 : decode cX6_count 52 = .ok (.aload_n 0, 1) := by decide +kernel
theorem dX6_count_53 : decode cX6_count 53 = .ok (.getfield 19, 3) := by decide +kernel
theorem dX6_count_56 : decode cX6_count 56 = .ok (.getfield 87, 3) := by decide +kernel
theorem dX6_count_59 : decode cX6_count 59 = .ok (.ireturn, 1) := by decide +kernel
theorem dX6_count_60 : decode cX6_count 60 = .ok (.aload_n 0, 1) := by decide +kernel
theorem dX6_count_61 : decode cX6_count 61 = .ok (.getfield 29, 3) := by decide +kernel
theorem dX6_count_64 : decode cX6_count 64 = .ok (.getfield 110, 3) := by decide +kernel
theorem dX6_count_67 : decode cX6_count 67 = .ok (.ireturn, 1) := by decide +kernel
theorem dX6_count_68 : decode cX6_count 68 = .ok (.aload_n 0, 1) := by decide +kernel
theorem dX6_count_69 : decode cX6_count 69 = .ok (.getfield 29, 3) := by decide +kernel
theorem dX6_count_72 : decode cX6_count 72 = .ok (.invokevirtual 113, 3) := by decide +kernel
theorem dX6_count_75 : decode cX6_count 75 = .ok (.ireturn, 1) := by decide +kernel
theorem dX6_count_76 : decode cX6_count 76 = .ok (.aload_n 0, 1) := by decide +kernel
theorem dX6_count_77 : decode cX6_count 77 = .ok (.getfield 29, 3) := by decide +kernel
theorem dX6_count_80 : decode cX6_count 80 = .ok (.aload_n 0, 1) := by decide +kernel
theorem dX6_count_81 : decode cX6_count 81 = .ok (.getfield 19, 3) := by decide +kernel
theorem dX6_count_84 : decode cX6_count 84 = .ok (.invokevirtual 116, 3) := by decide +kernel
theorem dX6_count_87 : decode cX6_count 87 = .ok (.ireturn, 1) := by decide +kernel
theorem dX6_count_88 : decode cX6_count 88 = .ok (.aload_n 0, 1) := by decide +kernel
theorem dX6_count_89 : decode cX6_count 89 = .ok (.getfield 29, 3) := by decide +kernel
theorem dX6_count_92 : decode cX6_count 92 = .ok (.getfield 234, 3) := by decide +kernel
theorem dX6_count_95 : decode cX6_count 95 = .ok (.ireturn, 1) := by decide +kernel
theorem dX6_count_96 : decode cX6_count 96 = .ok (.aload_n 0, 1) := by decide +kernel
theorem dX6_count_97 : decode cX6_count 97 = .ok (.getfield 29, 3) := by decide +kernel
theorem dX6_count_100 : decode cX6_count 100 = .ok (.getfield 237, 3) := by decide +kernel
theorem dX6_count_103 : decode cX6_count 103 = .ok (.ireturn, 1) := by decide +kernel
theorem dX6_count_104 : decode cX6_count 104 = .ok (.aload_n 0, 1) := by decide +kernel
theorem dX6_count_105 : decode cX6_count 105 = .ok (.getfield 46, 3) := by decide +kernel
theorem dX6_count_108 : decode cX6_count 108 = .ok (.getfield 204, 3) := by decide +kernel
theorem dX6_count_111 : decode cX6_count 111 = .ok (.ireturn, 1) := by decide +kernel
theorem dX6_count_112 : decode cX6_count 112 = .ok (.aload_n 0, 1) := by decide +kernel
theorem dX6_count_113 : decode cX6_count 113 = .ok (.getfield 39, 3) := by decide +kernel
theorem dX6_count_116 : decode cX6_count 116 = .ok (.ireturn, 1) := by decide +kernel
theorem dX6_count_117 : decode cX6_count 117 = .ok (.aload_n 0, 1) := by decide +kernel
theorem dX6_count_118 : decode cX6_count 118 = .ok (.getfield 10, 3) := by decide +kernel
theorem dX6_count_121 : decode cX6_count 121 = .ok (.getfield 76, 3) := by decide +kernel
theorem dX6_count_124 : decode cX6_count 124 = .ok (.ireturn, 1) := by decide +kernel
theorem dX6_count_125 : decode cX6_count 125 = .ok (.iconst (-1), 1) := by decide +kernel
theorem dX6_count_126 : decode cX6_count 126 = .ok (.ireturn, 1) := by decide +kernel
theorem dX6_inside_0 : decode cX6_inside 0 = .ok (.iload_n 0, 1) := by decide +kernel
theorem dX6_inside_1 : decode cX6_inside 1 = .ok (.iload_n 1, 1) := by decide +kernel
theorem dX6_inside_2 : decode cX6_inside 2 = .ok (.if_icmp .lt 12, 3) := by decide +kernel
theorem dX6_inside_5 : decode cX6_inside 5 = .ok (.iload_n 0, 1) := by decide +kernel
theorem dX6_inside_6 : decode cX6_inside 6 = .ok (.iload_n 2, 1) := by decide +kernel
theorem dX6_inside_7 : decode cX6_inside 7 = .ok (.if_icmp .gt 7, 3) := by decide +kernel
theorem dX6_inside_10 : decode cX6_inside 10 = .ok (.iconst 1, 1) := by decide +kernel
theorem dX6_inside_11 : decode cX6_inside 11 = .ok (.goto 4, 3) := by decide +kernel
theorem dX6_inside_14 : decode cX6_inside 14 = .ok (.iconst 0, 1) := by decide +kernel
theorem dX6_inside_15 : decode cX6_inside 15 = .ok (.ireturn, 1) := by decide +kernel
theorem dX6_isYear_0 : decode cX6_isYear 0 = .ok (.iload_n 0, 1) := by decide +kernel
theorem dX6_isYear_1 : decode cX6_isYear 1 = .ok (.iconst 0, 1) := by decide +kernel
theorem dX6_isYear_2 : decode cX6_isYear 2 = .ok (.bipush 99, 2) := by decide +kernel
theorem dX6_isYear_4 : decode cX6_isYear 4 = .ok (.invokestatic 68, 3) := by decide +kernel
theorem dX6_isYear_7 : decode cX6_isYear 7 = .ok (.ireturn, 1) := by decide +kernel
theorem dX6_isWinter_0 : decode cX6_isWinter 0 = .ok (.iload_n 0, 1) := by decide +kernel
theorem dX6_isWinter_1 : decode cX6_isWinter 1 = .ok (.iconst 0, 1) := by decide +kernel
theorem dX6_isWinter_2 : decode cX6_isWinter 2 = .ok (.sipush 9999, 3) := by decide +kernel
theorem dX6_isWinter_5 : decode cX6_isWinter 5 = .ok (.invokestatic 68, 3) := by decide +kernel
theorem dX6_isWinter_8 : decode cX6_isWinter 8 = .ok (.ireturn, 1) := by decide +kernel
theorem dX6_isPiece_0 : decode cX6_isPiece 0 = .ok (.iload_n 0, 1) := by decide +kernel
theorem dX6_isPiece_1 : decode cX6_isPiece 1 = .ok (.iconst 0, 1) := by decide +kernel
theorem dX6_isPiece_2 : decode cX6_isPiece 2 = .ok (.bipush 9, 2) := by decide +kernel
theorem dX6_isPiece_4 : decode cX6_isPiece 4 = .ok (.invokestatic 68, 3) := by decide +kernel
theorem dX6_isPiece_7 : decode cX6_isPiece 7 = .ok (.ifCond .eq 17, 3) := by decide +kernel
theorem dX6_isPiece_10 : decode cX6_isPiece 10 = .ok (.iload_n 1, 1) := by decide +kernel
theorem dX6_isPiece_11 : decode cX6_isPiece 11 = .ok (.iconst 1, 1) := by decide +kernel
theorem dX6_isPiece_12 : decode cX6_isPiece 12 = .ok (.bipush 9, 2) := by decide +kernel
theorem dX6_isPiece_14 : decode cX6_isPiece 14 = .ok (.invokestatic 68, 3) := by decide +kernel
theorem dX6_isPiece_17 : decode cX6_isPiece 17 = .ok (.ifCond .eq 7, 3) := by decide +kernel
theorem dX6_isPiece_20 : decode cX6_isPiece 20 = .ok (.iconst 1, 1) := by decide +kernel
theorem dX6_isPiece_21 : decode cX6_isPiece 21 = .ok (.goto 4, 3) := by decide +kernel
theorem dX6_isPiece_24 : decode cX6_isPiece 24 = .ok (.iconst 0, 1) := by decide +kernel
theorem dX6_isPiece_25 : decode cX6_isPiece 25 = .ok (.ireturn, 1) := by decide +kernel
theorem dX6_keptAt_0 : decode cX6_keptAt 0 = .ok (.iload_n 1, 1) := by decide +kernel
theorem dX6_keptAt_1 : decode cX6_keptAt 1 = .ok (.ifCond .ne 10, 3) := by decide +kernel
theorem dX6_keptAt_4 : decode cX6_keptAt 4 = .ok (.aload_n 0, 1) := by decide +kernel
theorem dX6_keptAt_5 : decode cX6_keptAt 5 = .ok (.getfield 33, 3) := by decide +kernel
theorem dX6_keptAt_8 : decode cX6_keptAt 8 = .ok (.goto 7, 3) := by decide +kernel
theorem dX6_keptAt_11 : decode cX6_keptAt 11 = .ok (.aload_n 0, 1) := by decide +kernel
theorem dX6_keptAt_12 : decode cX6_keptAt 12 = .ok (.getfield 36, 3) := by decide +kernel
theorem dX6_keptAt_15 : decode cX6_keptAt 15 = .ok (.areturn, 1) := by decide +kernel
theorem dX6_firstThatCannot_0 : decode cX6_firstThatCannot 0 = .ok (.iload_n 1, 1) := by decide +kernel
theorem dX6_firstThatCannot_1 : decode cX6_firstThatCannot 1 = .ok (.istore 5, 2) := by decide +kernel
theorem dX6_firstThatCannot_3 : decode cX6_firstThatCannot 3 = .ok (.iload 5, 2) := by decide +kernel
theorem dX6_firstThatCannot_5 : decode cX6_firstThatCannot 5 = .ok (.aload_n 0, 1) := by decide +kernel
theorem dX6_firstThatCannot_6 : decode cX6_firstThatCannot 6 = .ok (.getfield 19, 3) := by decide +kernel
theorem dX6_firstThatCannot_9 : decode cX6_firstThatCannot 9 = .ok (.getfield 87, 3) := by decide +kernel
theorem dX6_firstThatCannot_12 : decode cX6_firstThatCannot 12 = .ok (.if_icmp .ge 69, 3) := by decide +kernel
theorem dX6_firstThatCannot_15 : decode cX6_firstThatCannot 15 = .ok (.bipush 10, 2) := by decide +kernel
theorem dX6_firstThatCannot_17 : decode cX6_firstThatCannot 17 = .ok (.aload_n 0, 1) := by decide +kernel
theorem dX6_firstThatCannot_18 : decode cX6_firstThatCannot 18 = .ok (.getfield 19, 3) := by decide +kernel
theorem dX6_firstThatCannot_21 : decode cX6_firstThatCannot 21 = .ok (.getfield 97, 3) := by decide +kernel
theorem dX6_firstThatCannot_24 : decode cX6_firstThatCannot 24 = .ok (.iload 5, 2) := by decide +kernel
theorem dX6_firstThatCannot_26 : decode cX6_firstThatCannot 26 = .ok (.iaload, 1) := by decide +kernel
theorem dX6_firstThatCannot_27 : decode cX6_firstThatCannot 27 = .ok (.aload_n 0, 1) := by decide +kernel
theorem dX6_firstThatCannot_28 : decode cX6_firstThatCannot 28 = .ok (.iload 5, 2) := by decide +kernel
theorem dX6_firstThatCannot_30 : decode cX6_firstThatCannot 30 = .ok (.iload 4, 2) := by decide +kernel
theorem dX6_firstThatCannot_32 : decode cX6_firstThatCannot 32 = .ok (.invokevirtual 240, 3) := by decide +kernel
theorem dX6_firstThatCannot_35 : decode cX6_firstThatCannot 35 = .ok (.iadd, 1) := by decide +kernel
theorem dX6_firstThatCannot_36 : decode cX6_firstThatCannot 36 = .ok (.imul, 1) := by decide +kernel
theorem dX6_firstThatCannot_37 : decode cX6_firstThatCannot 37 = .ok (.istore 6, 2) := by decide +kernel
theorem dX6_firstThatCannot_39 : decode cX6_firstThatCannot 39 = .ok (.iload_n 2, 1) := by decide +kernel
theorem dX6_firstThatCannot_40 : decode cX6_firstThatCannot 40 = .ok (.iload 6, 2) := by decide +kernel
theorem dX6_firstThatCannot_42 : decode cX6_firstThatCannot 42 = .ok (.iadd, 1) := by decide +kernel
theorem dX6_firstThatCannot_43 : decode cX6_firstThatCannot 43 = .ok (.istore_n 2, 1) := by decide +kernel
theorem dX6_firstThatCannot_44 : decode cX6_firstThatCannot 44 = .ok (.iload_n 3, 1) := by decide +kernel
theorem dX6_firstThatCannot_45 : decode cX6_firstThatCannot 45 = .ok (.iload 6, 2) := by decide +kernel
theorem dX6_firstThatCannot_47 : decode cX6_firstThatCannot 47 = .ok (.aload_n 0, 1) := by decide +kernel
theorem dX6_firstThatCannot_48 : decode cX6_firstThatCannot 48 = .ok (.getfield 19, 3) := by decide +kernel
theorem dX6_firstThatCannot_51 : decode cX6_firstThatCannot 51 = .ok (.getfield 100, 3) := by decide +kernel
theorem dX6_firstThatCannot_54 : decode cX6_firstThatCannot 54 = .ok (.iload 5, 2) := by decide +kernel
theorem dX6_firstThatCannot_56 : decode cX6_firstThatCannot 56 = .ok (.iaload, 1) := by decide +kernel
theorem dX6_firstThatCannot_57 : decode cX6_firstThatCannot 57 = .ok (.imul, 1) := by decide +kernel
theorem dX6_firstThatCannot_58 : decode cX6_firstThatCannot 58 = .ok (.iadd, 1) := by decide +kernel
theorem dX6_firstThatCannot_59 : decode cX6_firstThatCannot 59 = .ok (.istore_n 3, 1) := by decide +kernel
theorem dX6_firstThatCannot_60 : decode cX6_firstThatCannot 60 = .ok (.aload_n 0, 1) := by decide +kernel
theorem dX6_firstThatCannot_61 : decode cX6_firstThatCannot 61 = .ok (.getfield 19, 3) := by decide +kernel
theorem dX6_firstThatCannot_64 : decode cX6_firstThatCannot 64 = .ok (.iload_n 2, 1) := by decide +kernel
theorem dX6_firstThatCannot_65 : decode cX6_firstThatCannot 65 = .ok (.iload_n 3, 1) := by decide +kernel
theorem dX6_firstThatCannot_66 : decode cX6_firstThatCannot 66 = .ok (.invokevirtual 119, 3) := by decide +kernel
theorem dX6_firstThatCannot_69 : decode cX6_firstThatCannot 69 = .ok (.ifCond .ne 6, 3) := by decide +kernel
theorem dX6_firstThatCannot_72 : decode cX6_firstThatCannot 72 = .ok (.iload 5, 2) := by decide +kernel
theorem dX6_firstThatCannot_74 : decode cX6_firstThatCannot 74 = .ok (.ireturn, 1) := by decide +kernel
theorem dX6_firstThatCannot_75 : decode cX6_firstThatCannot 75 = .ok (.iinc 5 1, 3) := by decide +kernel
theorem dX6_firstThatCannot_78 : decode cX6_firstThatCannot 78 = .ok (.goto (-75), 3) := by decide +kernel
theorem dX6_firstThatCannot_81 : decode cX6_firstThatCannot 81 = .ok (.aload_n 0, 1) := by decide +kernel
theorem dX6_firstThatCannot_82 : decode cX6_firstThatCannot 82 = .ok (.getfield 19, 3) := by decide +kernel
theorem dX6_firstThatCannot_85 : decode cX6_firstThatCannot 85 = .ok (.getfield 87, 3) := by decide +kernel
theorem dX6_firstThatCannot_88 : decode cX6_firstThatCannot 88 = .ok (.ireturn, 1) := by decide +kernel
theorem dX6_moreInches_0 : decode cX6_moreInches 0 = .ok (.iload_n 2, 1) := by decide +kernel
theorem dX6_moreInches_1 : decode cX6_moreInches 1 = .ok (.iconst (-1), 1) := by decide +kernel
theorem dX6_moreInches_2 : decode cX6_moreInches 2 = .ok (.if_icmp .ne 5, 3) := by decide +kernel
theorem dX6_moreInches_5 : decode cX6_moreInches 5 = .ok (.iconst 0, 1) := by decide +kernel
theorem dX6_moreInches_6 : decode cX6_moreInches 6 = .ok (.ireturn, 1) := by decide +kernel
theorem dX6_moreInches_7 : decode cX6_moreInches 7 = .ok (.ldc2_w 243, 3) := by decide +kernel
theorem dX6_moreInches_10 : decode cX6_moreInches 10 = .ok (.iload_n 2, 1) := by decide +kernel
theorem dX6_moreInches_11 : decode cX6_moreInches 11 = .ok (.i2l, 1) := by decide +kernel
theorem dX6_moreInches_12 : decode cX6_moreInches 12 = .ok (.lmul, 1) := by decide +kernel
theorem dX6_moreInches_13 : decode cX6_moreInches 13 = .ok (.ldc2_w 245, 3) := by decide +kernel
theorem dX6_moreInches_16 : decode cX6_moreInches 16 = .ok (.iload_n 1, 1) := by decide +kernel
theorem dX6_moreInches_17 : decode cX6_moreInches 17 = .ok (.i2l, 1) := by decide +kernel
theorem dX6_moreInches_18 : decode cX6_moreInches 18 = .ok (.lmul, 1) := by decide +kernel
theorem dX6_moreInches_19 : decode cX6_moreInches 19 = .ok (.ladd, 1) := by decide +kernel
theorem dX6_moreInches_20 : decode cX6_moreInches 20 = .ok (.lconst 1, 1) := by decide +kernel
theorem dX6_moreInches_21 : decode cX6_moreInches 21 = .ok (.ladd, 1) := by decide +kernel
theorem dX6_moreInches_22 : decode cX6_moreInches 22 = .ok (.lstore_n 3, 1) := by decide +kernel
theorem dX6_moreInches_23 : decode cX6_moreInches 23 = .ok (.iconst 1, 1) := by decide +kernel
theorem dX6_moreInches_24 : decode cX6_moreInches 24 = .ok (.aload_n 0, 1) := by decide +kernel
theorem dX6_moreInches_25 : decode cX6_moreInches 25 = .ok (.getfield 19, 3) := by decide +kernel
theorem dX6_moreInches_28 : decode cX6_moreInches 28 = .ok (.getfield 247, 3) := by decide +kernel
theorem dX6_moreInches_31 : decode cX6_moreInches 31 = .ok (.iconst 1, 1) := by decide +kernel
theorem dX6_moreInches_32 : decode cX6_moreInches 32 = .ok (.iadd, 1) := by decide +kernel
theorem dX6_moreInches_33 : decode cX6_moreInches 33 = .ok (.invokestatic 196, 3) := by decide +kernel
theorem dX6_moreInches_36 : decode cX6_moreInches 36 = .ok (.istore 5, 2) := by decide +kernel
theorem dX6_moreInches_38 : decode cX6_moreInches 38 = .ok (.lload_n 3, 1) := by decide +kernel
theorem dX6_moreInches_39 : decode cX6_moreInches 39 = .ok (.lload_n 3, 1) := by decide +kernel
theorem dX6_moreInches_40 : decode cX6_moreInches 40 = .ok (.lmul, 1) := by decide +kernel
theorem dX6_moreInches_41 : decode cX6_moreInches 41 = .ok (.ldc2_w 250, 3) := by decide +kernel
theorem dX6_moreInches_44 : decode cX6_moreInches 44 = .ok (.lrem, 1) := by decide +kernel
theorem dX6_moreInches_45 : decode cX6_moreInches 45 = .ok (.iload 5, 2) := by decide +kernel
theorem dX6_moreInches_47 : decode cX6_moreInches 47 = .ok (.i2l, 1) := by decide +kernel
theorem dX6_moreInches_48 : decode cX6_moreInches 48 = .ok (.lrem, 1) := by decide +kernel
theorem dX6_moreInches_49 : decode cX6_moreInches 49 = .ok (.l2i, 1) := by decide +kernel
theorem dX6_moreInches_50 : decode cX6_moreInches 50 = .ok (.ireturn, 1) := by decide +kernel
theorem dX6_weightOf_0 : decode cX6_weightOf 0 = .ok (.iload_n 2, 1) := by decide +kernel
theorem dX6_weightOf_1 : decode cX6_weightOf 1 = .ok (.aload_n 0, 1) := by decide +kernel
theorem dX6_weightOf_2 : decode cX6_weightOf 2 = .ok (.getfield 19, 3) := by decide +kernel
theorem dX6_weightOf_5 : decode cX6_weightOf 5 = .ok (.getfield 103, 3) := by decide +kernel
theorem dX6_weightOf_8 : decode cX6_weightOf 8 = .ok (.iload_n 1, 1) := by decide +kernel
theorem dX6_weightOf_9 : decode cX6_weightOf 9 = .ok (.iaload, 1) := by decide +kernel
theorem dX6_weightOf_10 : decode cX6_weightOf 10 = .ok (.if_icmp .ne 16, 3) := by decide +kernel
theorem dX6_weightOf_13 : decode cX6_weightOf 13 = .ok (.bipush 10, 2) := by decide +kernel
theorem dX6_weightOf_15 : decode cX6_weightOf 15 = .ok (.aload_n 0, 1) := by decide +kernel
theorem dX6_weightOf_16 : decode cX6_weightOf 16 = .ok (.getfield 19, 3) := by decide +kernel
theorem dX6_weightOf_19 : decode cX6_weightOf 19 = .ok (.getfield 252, 3) := by decide +kernel
theorem dX6_weightOf_22 : decode cX6_weightOf 22 = .ok (.isub, 1) := by decide +kernel
theorem dX6_weightOf_23 : decode cX6_weightOf 23 = .ok (.goto 10, 3) := by decide +kernel
theorem dX6_weightOf_26 : decode cX6_weightOf 26 = .ok (.aload_n 0, 1) := by decide +kernel
theorem dX6_weightOf_27 : decode cX6_weightOf 27 = .ok (.getfield 19, 3) := by decide +kernel
theorem dX6_weightOf_30 : decode cX6_weightOf 30 = .ok (.getfield 252, 3) := by decide +kernel
theorem dX6_weightOf_33 : decode cX6_weightOf 33 = .ok (.istore 4, 2) := by decide +kernel
theorem dX6_weightOf_35 : decode cX6_weightOf 35 = .ok (.iload_n 3, 1) := by decide +kernel
theorem dX6_weightOf_36 : decode cX6_weightOf 36 = .ok (.aload_n 0, 1) := by decide +kernel
theorem dX6_weightOf_37 : decode cX6_weightOf 37 = .ok (.getfield 19, 3) := by decide +kernel
theorem dX6_weightOf_40 : decode cX6_weightOf 40 = .ok (.getfield 100, 3) := by decide +kernel
theorem dX6_weightOf_43 : decode cX6_weightOf 43 = .ok (.iload_n 1, 1) := by decide +kernel
theorem dX6_weightOf_44 : decode cX6_weightOf 44 = .ok (.iaload, 1) := by decide +kernel
theorem dX6_weightOf_45 : decode cX6_weightOf 45 = .ok (.if_icmp .ne 8, 3) := by decide +kernel
theorem dX6_weightOf_48 : decode cX6_weightOf 48 = .ok (.bipush 9, 2) := by decide +kernel
theorem dX6_weightOf_50 : decode cX6_weightOf 50 = .ok (.goto 4, 3) := by decide +kernel
theorem dX6_weightOf_53 : decode cX6_weightOf 53 = .ok (.iconst 1, 1) := by decide +kernel
theorem dX6_weightOf_54 : decode cX6_weightOf 54 = .ok (.istore 5, 2) := by decide +kernel
theorem dX6_weightOf_56 : decode cX6_weightOf 56 = .ok (.aload_n 0, 1) := by decide +kernel
theorem dX6_weightOf_57 : decode cX6_weightOf 57 = .ok (.getfield 29, 3) := by decide +kernel
theorem dX6_weightOf_60 : decode cX6_weightOf 60 = .ok (.getfield 131, 3) := by decide +kernel
theorem dX6_weightOf_63 : decode cX6_weightOf 63 = .ok (.iload_n 1, 1) := by decide +kernel
theorem dX6_weightOf_64 : decode cX6_weightOf 64 = .ok (.iaload, 1) := by decide +kernel
theorem dX6_weightOf_65 : decode cX6_weightOf 65 = .ok (.iload 4, 2) := by decide +kernel
theorem dX6_weightOf_67 : decode cX6_weightOf 67 = .ok (.imul, 1) := by decide +kernel
theorem dX6_weightOf_68 : decode cX6_weightOf 68 = .ok (.iload 5, 2) := by decide +kernel
theorem dX6_weightOf_70 : decode cX6_weightOf 70 = .ok (.imul, 1) := by decide +kernel
theorem dX6_weightOf_71 : decode cX6_weightOf 71 = .ok (.ireturn, 1) := by decide +kernel
theorem dX6_weightOfAll_0 : decode cX6_weightOfAll 0 = .ok (.iconst 0, 1) := by decide +kernel
theorem dX6_weightOfAll_1 : decode cX6_weightOfAll 1 = .ok (.istore_n 3, 1) := by decide +kernel
theorem dX6_weightOfAll_2 : decode cX6_weightOfAll 2 = .ok (.iconst 0, 1) := by decide +kernel
theorem dX6_weightOfAll_3 : decode cX6_weightOfAll 3 = .ok (.istore 4, 2) := by decide +kernel
theorem dX6_weightOfAll_5 : decode cX6_weightOfAll 5 = .ok (.iload 4, 2) := by decide +kernel
theorem dX6_weightOfAll_7 : decode cX6_weightOfAll 7 = .ok (.aload_n 0, 1) := by decide +kernel
theorem dX6_weightOfAll_8 : decode cX6_weightOfAll 8 = .ok (.getfield 29, 3) := by decide +kernel
theorem dX6_weightOfAll_11 : decode cX6_weightOfAll 11 = .ok (.getfield 110, 3) := by decide +kernel
theorem dX6_weightOfAll_14 : decode cX6_weightOfAll 14 = .ok (.if_icmp .ge 20, 3) := by decide +kernel
theorem dX6_weightOfAll_17 : decode cX6_weightOfAll 17 = .ok (.iload_n 3, 1) := by decide +kernel
theorem dX6_weightOfAll_18 : decode cX6_weightOfAll 18 = .ok (.aload_n 0, 1) := by decide +kernel
theorem dX6_weightOfAll_19 : decode cX6_weightOfAll 19 = .ok (.iload 4, 2) := by decide +kernel
theorem dX6_weightOfAll_21 : decode cX6_weightOfAll 21 = .ok (.iload_n 1, 1) := by decide +kernel
theorem dX6_weightOfAll_22 : decode cX6_weightOfAll 22 = .ok (.iload_n 2, 1) := by decide +kernel
theorem dX6_weightOfAll_23 : decode cX6_weightOfAll 23 = .ok (.invokevirtual 255, 3) := by decide +kernel
theorem dX6_weightOfAll_26 : decode cX6_weightOfAll 26 = .ok (.iadd, 1) := by decide +kernel
theorem dX6_weightOfAll_27 : decode cX6_weightOfAll 27 = .ok (.istore_n 3, 1) := by decide +kernel
theorem dX6_weightOfAll_28 : decode cX6_weightOfAll 28 = .ok (.iinc 4 1, 3) := by decide +kernel
theorem dX6_weightOfAll_31 : decode cX6_weightOfAll 31 = .ok (.goto (-26), 3) := by decide +kernel
theorem dX6_weightOfAll_34 : decode cX6_weightOfAll 34 = .ok (.iload_n 3, 1) := by decide +kernel
theorem dX6_weightOfAll_35 : decode cX6_weightOfAll 35 = .ok (.ireturn, 1) := by decide +kernel
theorem dX6_weightOfYear_0 : decode cX6_weightOfYear 0 = .ok (.iconst 0, 1) := by decide +kernel
theorem dX6_weightOfYear_1 : decode cX6_weightOfYear 1 = .ok (.istore 4, 2) := by decide +kernel
theorem dX6_weightOfYear_3 : decode cX6_weightOfYear 3 = .ok (.iconst 0, 1) := by decide +kernel
theorem dX6_weightOfYear_4 : decode cX6_weightOfYear 4 = .ok (.istore 5, 2) := by decide +kernel
theorem dX6_weightOfYear_6 : decode cX6_weightOfYear 6 = .ok (.iload 5, 2) := by decide +kernel
theorem dX6_weightOfYear_8 : decode cX6_weightOfYear 8 = .ok (.aload_n 0, 1) := by decide +kernel
theorem dX6_weightOfYear_9 : decode cX6_weightOfYear 9 = .ok (.getfield 29, 3) := by decide +kernel
theorem dX6_weightOfYear_12 : decode cX6_weightOfYear 12 = .ok (.getfield 110, 3) := by decide +kernel
theorem dX6_weightOfYear_15 : decode cX6_weightOfYear 15 = .ok (.if_icmp .ge 36, 3) := by decide +kernel
theorem dX6_weightOfYear_18 : decode cX6_weightOfYear 18 = .ok (.aload_n 0, 1) := by decide +kernel
theorem dX6_weightOfYear_19 : decode cX6_weightOfYear 19 = .ok (.getfield 19, 3) := by decide +kernel
theorem dX6_weightOfYear_22 : decode cX6_weightOfYear 22 = .ok (.getfield 93, 3) := by decide +kernel
theorem dX6_weightOfYear_25 : decode cX6_weightOfYear 25 = .ok (.iload 5, 2) := by decide +kernel
theorem dX6_weightOfYear_27 : decode cX6_weightOfYear 27 = .ok (.iaload, 1) := by decide +kernel
theorem dX6_weightOfYear_28 : decode cX6_weightOfYear 28 = .ok (.iload_n 3, 1) := by decide +kernel
theorem dX6_weightOfYear_29 : decode cX6_weightOfYear 29 = .ok (.if_icmp .ne 16, 3) := by decide +kernel
theorem dX6_weightOfYear_32 : decode cX6_weightOfYear 32 = .ok (.iload 4, 2) := by decide +kernel
theorem dX6_weightOfYear_34 : decode cX6_weightOfYear 34 = .ok (.aload_n 0, 1) := by decide +kernel
theorem dX6_weightOfYear_35 : decode cX6_weightOfYear 35 = .ok (.iload 5, 2) := by decide +kernel
theorem dX6_weightOfYear_37 : decode cX6_weightOfYear 37 = .ok (.iload_n 1, 1) := by decide +kernel
theorem dX6_weightOfYear_38 : decode cX6_weightOfYear 38 = .ok (.iload_n 2, 1) := by decide +kernel
theorem dX6_weightOfYear_39 : decode cX6_weightOfYear 39 = .ok (.invokevirtual 255, 3) := by decide +kernel
theorem dX6_weightOfYear_42 : decode cX6_weightOfYear 42 = .ok (.iadd, 1) := by decide +kernel
theorem dX6_weightOfYear_43 : decode cX6_weightOfYear 43 = .ok (.istore 4, 2) := by decide +kernel
theorem dX6_weightOfYear_45 : decode cX6_weightOfYear 45 = .ok (.iinc 5 1, 3) := by decide +kernel
theorem dX6_weightOfYear_48 : decode cX6_weightOfYear 48 = .ok (.goto (-42), 3) := by decide +kernel
theorem dX6_weightOfYear_51 : decode cX6_weightOfYear 51 = .ok (.iload 4, 2) := by decide +kernel
theorem dX6_weightOfYear_53 : decode cX6_weightOfYear 53 = .ok (.ireturn, 1) := by decide +kernel
theorem dX6_tenthsOfYear_0 : decode cX6_tenthsOfYear 0 = .ok (.iconst 0, 1) := by decide +kernel
theorem dX6_tenthsOfYear_1 : decode cX6_tenthsOfYear 1 = .ok (.istore_n 2, 1) := by decide +kernel
theorem dX6_tenthsOfYear_2 : decode cX6_tenthsOfYear 2 = .ok (.iconst 0, 1) := by decide +kernel
theorem dX6_tenthsOfYear_3 : decode cX6_tenthsOfYear 3 = .ok (.istore_n 3, 1) := by decide +kernel
theorem dX6_tenthsOfYear_4 : decode cX6_tenthsOfYear 4 = .ok (.iload_n 3, 1) := by decide +kernel
theorem dX6_tenthsOfYear_5 : decode cX6_tenthsOfYear 5 = .ok (.aload_n 0, 1) := by decide +kernel
theorem dX6_tenthsOfYear_6 : decode cX6_tenthsOfYear 6 = .ok (.getfield 29, 3) := by decide +kernel
theorem dX6_tenthsOfYear_9 : decode cX6_tenthsOfYear 9 = .ok (.getfield 110, 3) := by decide +kernel
theorem dX6_tenthsOfYear_12 : decode cX6_tenthsOfYear 12 = .ok (.if_icmp .ge 34, 3) := by decide +kernel
theorem dX6_tenthsOfYear_15 : decode cX6_tenthsOfYear 15 = .ok (.aload_n 0, 1) := by decide +kernel
theorem dX6_tenthsOfYear_16 : decode cX6_tenthsOfYear 16 = .ok (.getfield 19, 3) := by decide +kernel
theorem dX6_tenthsOfYear_19 : decode cX6_tenthsOfYear 19 = .ok (.getfield 93, 3) := by decide +kernel
theorem dX6_tenthsOfYear_22 : decode cX6_tenthsOfYear 22 = .ok (.iload_n 3, 1) := by decide +kernel
theorem dX6_tenthsOfYear_23 : decode cX6_tenthsOfYear 23 = .ok (.iaload, 1) := by decide +kernel
theorem dX6_tenthsOfYear_24 : decode cX6_tenthsOfYear 24 = .ok (.iload_n 1, 1) := by decide +kernel
theorem dX6_tenthsOfYear_25 : decode cX6_tenthsOfYear 25 = .ok (.if_icmp .ne 15, 3) := by decide +kernel
theorem dX6_tenthsOfYear_28 : decode cX6_tenthsOfYear 28 = .ok (.iload_n 2, 1) := by decide +kernel
theorem dX6_tenthsOfYear_29 : decode cX6_tenthsOfYear 29 = .ok (.aload_n 0, 1) := by decide +kernel
theorem dX6_tenthsOfYear_30 : decode cX6_tenthsOfYear 30 = .ok (.getfield 29, 3) := by decide +kernel
theorem dX6_tenthsOfYear_33 : decode cX6_tenthsOfYear 33 = .ok (.getfield 131, 3) := by decide +kernel
theorem dX6_tenthsOfYear_36 : decode cX6_tenthsOfYear 36 = .ok (.iload_n 3, 1) := by decide +kernel
theorem dX6_tenthsOfYear_37 : decode cX6_tenthsOfYear 37 = .ok (.iaload, 1) := by decide +kernel
theorem dX6_tenthsOfYear_38 : decode cX6_tenthsOfYear 38 = .ok (.iadd, 1) := by decide +kernel
theorem dX6_tenthsOfYear_39 : decode cX6_tenthsOfYear 39 = .ok (.istore_n 2, 1) := by decide +kernel
theorem dX6_tenthsOfYear_40 : decode cX6_tenthsOfYear 40 = .ok (.iinc 3 1, 3) := by decide +kernel
theorem dX6_tenthsOfYear_43 : decode cX6_tenthsOfYear 43 = .ok (.goto (-39), 3) := by decide +kernel
theorem dX6_tenthsOfYear_46 : decode cX6_tenthsOfYear 46 = .ok (.iload_n 2, 1) := by decide +kernel
theorem dX6_tenthsOfYear_47 : decode cX6_tenthsOfYear 47 = .ok (.ireturn, 1) := by decide +kernel
theorem dX6_commonDivisor_0 : decode cX6_commonDivisor 0 = .ok (.iconst 0, 1) := by decide +kernel
theorem dX6_commonDivisor_1 : decode cX6_commonDivisor 1 = .ok (.istore_n 2, 1) := by decide +kernel
theorem dX6_commonDivisor_2 : decode cX6_commonDivisor 2 = .ok (.iload_n 2, 1) := by decide +kernel
theorem dX6_commonDivisor_3 : decode cX6_commonDivisor 3 = .ok (.bipush 64, 2) := by decide +kernel
theorem dX6_commonDivisor_5 : decode cX6_commonDivisor 5 = .ok (.if_icmp .ge 21, 3) := by decide +kernel
theorem dX6_commonDivisor_8 : decode cX6_commonDivisor 8 = .ok (.iload_n 1, 1) := by decide +kernel
theorem dX6_commonDivisor_9 : decode cX6_commonDivisor 9 = .ok (.ifCond .eq 17, 3) := by decide +kernel
theorem dX6_commonDivisor_12 : decode cX6_commonDivisor 12 = .ok (.iload_n 0, 1) := by decide +kernel
theorem dX6_commonDivisor_13 : decode cX6_commonDivisor 13 = .ok (.iload_n 1, 1) := by decide +kernel
theorem dX6_commonDivisor_14 : decode cX6_commonDivisor 14 = .ok (.irem, 1) := by decide +kernel
theorem dX6_commonDivisor_15 : decode cX6_commonDivisor 15 = .ok (.istore_n 3, 1) := by decide +kernel
theorem dX6_commonDivisor_16 : decode cX6_commonDivisor 16 = .ok (.iload_n 1, 1) := by decide +kernel
theorem dX6_commonDivisor_17 : decode cX6_commonDivisor 17 = .ok (.istore_n 0, 1) := by decide +kernel
theorem dX6_commonDivisor_18 : decode cX6_commonDivisor 18 = .ok (.iload_n 3, 1) := by decide +kernel
theorem dX6_commonDivisor_19 : decode cX6_commonDivisor 19 = .ok (.istore_n 1, 1) := by decide +kernel
theorem dX6_commonDivisor_20 : decode cX6_commonDivisor 20 = .ok (.iinc 2 1, 3) := by decide +kernel
theorem dX6_commonDivisor_23 : decode cX6_commonDivisor 23 = .ok (.goto (-21), 3) := by decide +kernel
theorem dX6_commonDivisor_26 : decode cX6_commonDivisor 26 = .ok (.iload_n 0, 1) := by decide +kernel
theorem dX6_commonDivisor_27 : decode cX6_commonDivisor 27 = .ok (.ireturn, 1) := by decide +kernel
theorem dX7_init_0 : decode cX7_init 0 = .ok (.aload_n 0, 1) := by decide +kernel
theorem dX7_init_1 : decode cX7_init 1 = .ok (.invokespecial 1, 3) := by decide +kernel
theorem dX7_init_4 : decode cX7_init 4 = .ok (.aload_n 0, 1) := by decide +kernel
theorem dX7_init_5 : decode cX7_init 5 = .ok (.sipush 400, 3) := by decide +kernel
theorem dX7_init_8 : decode cX7_init 8 = .ok (.newarray .byte, 2) := by decide +kernel
theorem dX7_init_10 : decode cX7_init 10 = .ok (.putfield 7, 3) := by decide +kernel
theorem dX7_init_13 : decode cX7_init 13 = .ok (.aload_n 0, 1) := by decide +kernel
theorem dX7_init_14 : decode cX7_init 14 = .ok (.bipush 10, 2) := by decide +kernel
theorem dX7_init_16 : decode cX7_init 16 = .ok (.newarray .int, 2) := by decide +kernel
theorem dX7_init_18 : decode cX7_init 18 = .ok (.putfield 13, 3) := by decide +kernel
theorem dX7_init_21 : decode cX7_init 21 = .ok (.aload_n 0, 1) := by decide +kernel
theorem dX7_init_22 : decode cX7_init 22 = .ok (.iconst 2, 1) := by decide +kernel
theorem dX7_init_23 : decode cX7_init 23 = .ok (.newarray .int, 2) := by decide +kernel
theorem dX7_init_25 : decode cX7_init 25 = .ok (.putfield 17, 3) := by decide +kernel
theorem dX7_init_28 : decode cX7_init 28 = .ok (.aload_n 0, 1) := by decide +kernel
theorem dX7_init_29 : decode cX7_init 29 = .ok (.bipush 96, 2) := by decide +kernel
theorem dX7_init_31 : decode cX7_init 31 = .ok (.newarray .int, 2) := by decide +kernel
theorem dX7_init_33 : decode cX7_init 33 = .ok (.putfield 20, 3) := by decide +kernel
theorem dX7_init_36 : decode cX7_init 36 = .ok (.aload_n 0, 1) := by decide +kernel
theorem dX7_init_37 : decode cX7_init 37 = .ok (.sipush 200, 3) := by decide +kernel
theorem dX7_init_40 : decode cX7_init 40 = .ok (.newarray .int, 2) := by decide +kernel
theorem dX7_init_42 : decode cX7_init 42 = .ok (.putfield 23, 3) := by decide +kernel
theorem dX7_init_45 : decode cX7_init 45 = .ok (.aload_n 0, 1) := by decide +kernel
theorem dX7_init_46 : decode cX7_init 46 = .ok (.iconst 3, 1) := by decide +kernel
theorem dX7_init_47 : decode cX7_init 47 = .ok (.newarray .int, 2) := by decide +kernel
theorem dX7_init_49 : decode cX7_init 49 = .ok (.putfield 26, 3) := by decide +kernel
theorem dX7_init_52 : decode cX7_init 52 = .ok (.aload_n 0, 1) := by decide +kernel
theorem dX7_init_53 : decode cX7_init 53 = .ok (.bipush 36, 2) := by decide +kernel
theorem dX7_init_55 : decode cX7_init 55 = .ok (.newarray .int, 2) := by decide +kernel
theorem dX7_init_57 : decode cX7_init 57 = .ok (.putfield 29, 3) := by decide +kernel
theorem dX7_init_60 : decode cX7_init 60 = .ok (.aload_n 0, 1) := by decide +kernel
theorem dX7_init_61 : decode cX7_init 61 = .ok (.bipush 36, 2) := by decide +kernel
theorem dX7_init_63 : decode cX7_init 63 = .ok (.newarray .int, 2) := by decide +kernel
theorem dX7_init_65 : decode cX7_init 65 = .ok (.putfield 32, 3) := by decide +kernel
theorem dX7_init_68 : decode cX7_init 68 = .ok (.aload_n 0, 1) := by decide +kernel
theorem dX7_init_69 : decode cX7_init 69 = .ok (.iconst 3, 1) := by decide +kernel
theorem dX7_init_70 : decode cX7_init 70 = .ok (.newarray .long, 2) := by decide +kernel
theorem dX7_init_72 : decode cX7_init 72 = .ok (.putfield 35, 3) := by decide +kernel
theorem dX7_init_75 : decode cX7_init 75 = .ok (.aload_n 0, 1) := by decide +kernel
theorem dX7_init_76 : decode cX7_init 76 = .ok (.iconst 3, 1) := by decide +kernel
theorem dX7_init_77 : decode cX7_init 77 = .ok (.newarray .int, 2) := by decide +kernel
theorem dX7_init_79 : decode cX7_init 79 = .ok (.putfield 39, 3) := by decide +kernel
theorem dX7_init_82 : decode cX7_init 82 = .ok (.aload_n 0, 1) := by decide +kernel
theorem dX7_init_83 : decode cX7_init 83 = .ok (.bipush 72, 2) := by decide +kernel
theorem dX7_init_85 : decode cX7_init 85 = .ok (.newarray .int, 2) := by decide +kernel
theorem dX7_init_87 : decode cX7_init 87 = .ok (.putfield 42, 3) := by decide +kernel
theorem dX7_init_90 : decode cX7_init 90 = .ok (.aload_n 0, 1) := by decide +kernel
theorem dX7_init_91 : decode cX7_init 91 = .ok (.bipush 14, 2) := by decide +kernel
theorem dX7_init_93 : decode cX7_init 93 = .ok (.newarray .int, 2) := by decide +kernel
theorem dX7_init_95 : decode cX7_init 95 = .ok (.putfield 45, 3) := by decide +kernel
theorem dX7_init_98 : decode cX7_init 98 = .ok (.aload_n 0, 1) := by decide +kernel
theorem dX7_init_99 : decode cX7_init 99 = .ok (.bipush 12, 2) := by decide +kernel
theorem dX7_init_101 : decode cX7_init 101 = .ok (.newarray .int, 2) := by decide +kernel
theorem dX7_init_103 : decode cX7_init 103 = .ok (.putfield 48, 3) := by decide +kernel
theorem dX7_init_106 : decode cX7_init 106 = .ok (.aload_n 0, 1) := by decide +kernel
theorem dX7_init_107 : decode cX7_init 107 = .ok (.bipush 6, 2) := by decide +kernel
theorem dX7_init_109 : decode cX7_init 109 = .ok (.newarray .int, 2) := by decide +kernel
theorem dX7_init_111 : decode cX7_init 111 = .ok (.putfield 51, 3) := by decide +kernel
theorem dX7_init_114 : decode cX7_init 114 = .ok (.aload_n 0, 1) := by decide +kernel
theorem dX7_init_115 : decode cX7_init 115 = .ok (.bipush 6, 2) := by decide +kernel
theorem dX7_init_117 : decode cX7_init 117 = .ok (.newarray .int, 2) := by decide +kernel
theorem dX7_init_119 : decode cX7_init 119 = .ok (.putfield 54, 3) := by decide +kernel
theorem dX7_init_122 : decode cX7_init 122 = .ok (.aload_n 0, 1) := by decide +kernel
theorem dX7_init_123 : decode cX7_init 123 = .ok (.bipush 12, 2) := by decide +kernel
theorem dX7_init_125 : decode cX7_init 125 = .ok (.newarray .int, 2) := by decide +kernel
theorem dX7_init_127 : decode cX7_init 127 = .ok (.putfield 57, 3) := by decide +kernel
theorem dX7_init_130 : decode cX7_init 130 = .ok (.aload_n 0, 1) := by decide +kernel
theorem dX7_init_131 : decode cX7_init 131 = .ok (.bipush 12, 2) := by decide +kernel
theorem dX7_init_133 : decode cX7_init 133 = .ok (.newarray .int, 2) := by decide +kernel
theorem dX7_init_135 : decode cX7_init 135 = .ok (.putfield 60, 3) := by decide +kernel
theorem dX7_init_138 : decode cX7_init 138 = .ok (.aload_n 0, 1) := by decide +kernel
theorem dX7_init_139 : decode cX7_init 139 = .ok (.sipush 225, 3) := by decide +kernel
theorem dX7_init_142 : decode cX7_init 142 = .ok (.newarray .int, 2) := by decide +kernel
theorem dX7_init_144 : decode cX7_init 144 = .ok (.putfield 63, 3) := by decide +kernel
theorem dX7_init_147 : decode cX7_init 147 = .ok (.aload_n 0, 1) := by decide +kernel
theorem dX7_init_148 : decode cX7_init 148 = .ok (.iconst 4, 1) := by decide +kernel
theorem dX7_init_149 : decode cX7_init 149 = .ok (.newarray .int, 2) := by decide +kernel
theorem dX7_init_151 : decode cX7_init 151 = .ok (.putfield 66, 3) := by decide +kernel
theorem dX7_init_154 : decode cX7_init 154 = .ok (.aload_n 0, 1) := by decide +kernel
theorem dX7_init_155 : decode cX7_init 155 = .ok (.invokevirtual 69, 3) := by decide +kernel
theorem dX7_init_158 : decode cX7_init 158 = .ok (.aload_n 0, 1) := by decide +kernel
theorem dX7_init_159 : decode cX7_init 159 = .ok (.getfield 17, 3) := by decide +kernel
theorem dX7_init_162 : decode cX7_init 162 = .ok (.iconst 1, 1) := by decide +kernel
theorem dX7_init_163 : decode cX7_init 163 = .ok (.iconst 1, 1) := by decide +kernel
theorem dX7_init_164 : decode cX7_init 164 = .ok (.iastore, 1) := by decide +kernel
theorem dX7_init_165 : decode cX7_init 165 = .ok (.aload_n 0, 1) := by decide +kernel
theorem dX7_init_166 : decode cX7_init 166 = .ok (.getfield 20, 3) := by decide +kernel
theorem dX7_init_169 : decode cX7_init 169 = .ok (.bipush 48, 2) := by decide +kernel
theorem dX7_init_171 : decode cX7_init 171 = .ok (.iconst 0, 1) := by decide +kernel
theorem dX7_init_172 : decode cX7_init 172 = .ok (.iastore, 1) := by decide +kernel
theorem dX7_init_173 : decode cX7_init 173 = .ok (.aload_n 0, 1) := by decide +kernel
theorem dX7_init_174 : decode cX7_init 174 = .ok (.getfield 20, 3) := by decide +kernel
theorem dX7_init_177 : decode cX7_init 177 = .ok (.bipush 49, 2) := by decide +kernel
theorem dX7_init_179 : decode cX7_init 179 = .ok (.iconst 5, 1) := by decide +kernel
theorem dX7_init_180 : decode cX7_init 180 = .ok (.iastore, 1) := by decide +kernel
theorem dX7_init_181 : decode cX7_init 181 = .ok (.aload_n 0, 1) := by decide +kernel
theorem dX7_init_182 : decode cX7_init 182 = .ok (.getfield 20, 3) := by decide +kernel
theorem dX7_init_185 : decode cX7_init 185 = .ok (.bipush 50, 2) := by decide +kernel
theorem dX7_init_187 : decode cX7_init 187 = .ok (.iconst 2, 1) := by decide +kernel
theorem dX7_init_188 : decode cX7_init 188 = .ok (.iastore, 1) := by decide +kernel
theorem dX7_init_189 : decode cX7_init 189 = .ok (.aload_n 0, 1) := by decide +kernel
theorem dX7_init_190 : decode cX7_init 190 = .ok (.getfield 20, 3) := by decide +kernel
theorem dX7_init_193 : decode cX7_init 193 = .ok (.bipush 51, 2) := by decide +kernel
theorem dX7_init_195 : decode cX7_init 195 = .ok (.iconst 1, 1) := by decide +kernel
theorem dX7_init_196 : decode cX7_init 196 = .ok (.iastore, 1) := by decide +kernel
theorem dX7_init_197 : decode cX7_init 197 = .ok (.aload_n 0, 1) := by decide +kernel
theorem dX7_init_198 : decode cX7_init 198 = .ok (.invokevirtual 72, 3) := by decide +kernel
theorem dX7_init_201 : decode cX7_init 201 = .ok (.return_, 1) := by decide +kernel
theorem dX7_in_0 : decode cX7_in 0 = .ok (.lload_n 0, 1) := by decide +kernel
theorem dX7_in_1 : decode cX7_in 1 = .ok (.lload_n 2, 1) := by decide +kernel
theorem dX7_in_2 : decode cX7_in 2 = .ok (.lcmp, 1) := by decide +kernel
theorem dX7_in_3 : decode cX7_in 3 = .ok (.ifCond .lt 14, 3) := by decide +kernel
theorem dX7_in_6 : decode cX7_in 6 = .ok (.lload_n 0, 1) := by decide +kernel
theorem dX7_in_7 : decode cX7_in 7 = .ok (.lload 4, 2) := by decide +kernel
theorem dX7_in_9 : decode cX7_in 9 = .ok (.lcmp, 1) := by decide +kernel
theorem dX7_in_10 : decode cX7_in 10 = .ok (.ifCond .gt 7, 3) := by decide +kernel
theorem dX7_in_13 : decode cX7_in 13 = .ok (.iconst 1, 1) := by decide +kernel
theorem dX7_in_14 : decode cX7_in 14 = .ok (.goto 4, 3) := by decide +kernel
theorem dX7_in_17 : decode cX7_in 17 = .ok (.iconst 0, 1) := by decide +kernel
theorem dX7_in_18 : decode cX7_in 18 = .ok (.ireturn, 1) := by decide +kernel
theorem dX7_write_0 : decode cX7_write 0 = .ok (.iload_n 1, 1) := by decide +kernel
theorem dX7_write_1 : decode cX7_write 1 = .ok (.i2l, 1) := by decide +kernel
theorem dX7_write_2 : decode cX7_write 2 = .ok (.lconst 1, 1) := by decide +kernel
theorem dX7_write_3 : decode cX7_write 3 = .ok (.ldc2_w 75, 3) := by decide +kernel
theorem dX7_write_6 : decode cX7_write 6 = .ok (.invokestatic 77, 3) := by decide +kernel
theorem dX7_write_9 : decode cX7_write 9 = .ok (.ifCond .ne 5, 3) := by decide +kernel
theorem dX7_write_12 : decode cX7_write 12 = .ok (.iconst (-1), 1) := by decide +kernel
theorem dX7_write_13 : decode cX7_write 13 = .ok (.ireturn, 1) := by decide +kernel
theorem dX7_write_14 : decode cX7_write 14 = .ok (.aload_n 0, 1) := by decide +kernel
theorem dX7_write_15 : decode cX7_write 15 = .ok (.getfield 81, 3) := by decide +kernel
theorem dX7_write_18 : decode cX7_write 18 = .ok (.iload_n 1, 1) := by decide +kernel
theorem dX7_write_19 : decode cX7_write 19 = .ok (.iadd, 1) := by decide +kernel
theorem dX7_write_20 : decode cX7_write 20 = .ok (.sipush 400, 3) := by decide +kernel
theorem dX7_write_23 : decode cX7_write 23 = .ok (.if_icmp .le 6, 3) := by decide +kernel
theorem dX7_write_26 : decode cX7_write 26 = .ok (.bipush (-3), 2) := by decide +kernel
theorem dX7_write_28 : decode cX7_write 28 = .ok (.ireturn, 1) := by decide +kernel
theorem dX7_write_29 : decode cX7_write 29 = .ok (.iload_n 1, 1) := by decide +kernel
theorem dX7_write_30 : decode cX7_write 30 = .ok (.iconst 1, 1) := by decide +kernel
theorem dX7_write_31 : decode cX7_write 31 = .ok (.isub, 1) := by decide +kernel
theorem dX7_write_32 : decode cX7_write 32 = .ok (.istore 4, 2) := by decide +kernel
theorem dX7_write_34 : decode cX7_write 34 = .ok (.iload 4, 2) := by decide +kernel
theorem dX7_write_36 : decode cX7_write 36 = .ok (.ifCond .lt 37, 3) := by decide +kernel
theorem dX7_write_39 : decode cX7_write 39 = .ok (.aload_n 0, 1) := by decide +kernel
theorem dX7_write_40 : decode cX7_write 40 = .ok (.getfield 7, 3) := by decide +kernel
theorem dX7_write_43 : decode cX7_write 43 = .ok (.aload_n 0, 1) := by decide +kernel
theorem dX7_write_44 : decode cX7_write 44 = .ok (.getfield 81, 3) := by decide +kernel
theorem dX7_write_47 : decode cX7_write 47 = .ok (.lload_n 2, 1) := by decide +kernel
theorem dX7_write_48 : decode cX7_write 48 = .ok (.bipush 8, 2) := by decide +kernel
theorem dX7_write_50 : decode cX7_write 50 = .ok (.iload 4, 2) := by decide +kernel
theorem dX7_write_52 : decode cX7_write 52 = .ok (.imul, 1) := by decide +kernel
theorem dX7_write_53 : decode cX7_write 53 = .ok (.lshr, 1) := by decide +kernel
theorem dX7_write_54 : decode cX7_write 54 = .ok (.l2i, 1) := by decide +kernel
theorem dX7_write_55 : decode cX7_write 55 = .ok (.i2b, 1) := by decide +kernel
theorem dX7_write_56 : decode cX7_write 56 = .ok (.bastore, 1) := by decide +kernel
theorem dX7_write_57 : decode cX7_write 57 = .ok (.aload_n 0, 1) := by decide +kernel
theorem dX7_write_58 : decode cX7_write 58 = .ok (.dup, 1) := by decide +kernel
theorem dX7_write_59 : decode cX7_write 59 = .ok (.getfield 81, 3) := by decide +kernel
theorem dX7_write_62 : decode cX7_write 62 = .ok (.iconst 1, 1) := by decide +kernel
theorem dX7_write_63 : decode cX7_write 63 = .ok (.iadd, 1) := by decide +kernel
theorem dX7_write_64 : decode cX7_write 64 = .ok (.putfield 81, 3) := by decide +kernel
theorem dX7_write_67 : decode cX7_write 67 = .ok (.iinc 4 (-1), 3) := by decide +kernel
theorem dX7_write_70 : decode cX7_write 70 = .ok (.goto (-36), 3) := by decide +kernel
theorem dX7_write_73 : decode cX7_write 73 = .ok (.aload_n 0, 1) := by decide +kernel
theorem dX7_write_74 : decode cX7_write 74 = .ok (.getfield 81, 3) := by decide +kernel
theorem dX7_write_77 : decode cX7_write 77 = .ok (.ireturn, 1) := by decide +kernel
theorem dX7_wipe_0 : decode cX7_wipe 0 = .ok (.aload_n 0, 1) := by decide +kernel
theorem dX7_wipe_1 : decode cX7_wipe 1 = .ok (.getfield 81, 3) := by decide +kernel
theorem dX7_wipe_4 : decode cX7_wipe 4 = .ok (.istore_n 1, 1) := by decide +kernel
theorem dX7_wipe_5 : decode cX7_wipe 5 = .ok (.aload_n 0, 1) := by decide +kernel
theorem dX7_wipe_6 : decode cX7_wipe 6 = .ok (.iconst 0, 1) := by decide +kernel
theorem dX7_wipe_7 : decode cX7_wipe 7 = .ok (.putfield 81, 3) := by decide +kernel
theorem dX7_wipe_10 : decode cX7_wipe 10 = .ok (.iload_n 1, 1) := by decide +kernel
theorem dX7_wipe_11 : decode cX7_wipe 11 = .ok (.ireturn, 1) := by decide +kernel
theorem dX7_number_0 : decode cX7_number 0 = .ok (.iconst 0, 1) := by decide +kernel
theorem dX7_number_1 : decode cX7_number 1 = .ok (.istore_n 1, 1) := by decide +kernel
theorem dX7_number_2 : decode cX7_number 2 = .ok (.iconst 0, 1) := by decide +kernel
theorem dX7_number_3 : decode cX7_number 3 = .ok (.istore_n 2, 1) := by decide +kernel
theorem dX7_number_4 : decode cX7_number 4 = .ok (.aload_n 0, 1) := by decide +kernel
theorem dX7_number_5 : decode cX7_number 5 = .ok (.getfield 85, 3) := by decide +kernel
theorem dX7_number_8 : decode cX7_number 8 = .ok (.aload_n 0, 1) := by decide +kernel
theorem dX7_number_9 : decode cX7_number 9 = .ok (.getfield 81, 3) := by decide +kernel
theorem dX7_number_12 : decode cX7_number 12 = .ok (.if_icmp .ge 68, 3) := by decide +kernel
theorem dX7_number_15 : decode cX7_number 15 = .ok (.aload_n 0, 1) := by decide +kernel
theorem dX7_number_16 : decode cX7_number 16 = .ok (.getfield 7, 3) := by decide +kernel
theorem dX7_number_19 : decode cX7_number 19 = .ok (.aload_n 0, 1) := by decide +kernel
theorem dX7_number_20 : decode cX7_number 20 = .ok (.getfield 85, 3) := by decide +kernel
theorem dX7_number_23 : decode cX7_number 23 = .ok (.baload, 1) := by decide +kernel
theorem dX7_number_24 : decode cX7_number 24 = .ok (.i2l, 1) := by decide +kernel
theorem dX7_number_25 : decode cX7_number 25 = .ok (.ldc2_w 88, 3) := by decide +kernel
theorem dX7_number_28 : decode cX7_number 28 = .ok (.ldc2_w 90, 3) := by decide +kernel
theorem dX7_number_31 : decode cX7_number 31 = .ok (.invokestatic 77, 3) := by decide +kernel
theorem dX7_number_34 : decode cX7_number 34 = .ok (.ifCond .eq 46, 3) := by decide +kernel
theorem dX7_number_37 : decode cX7_number 37 = .ok (.iload_n 2, 1) := by decide +kernel
theorem dX7_number_38 : decode cX7_number 38 = .ok (.iconst 3, 1) := by decide +kernel
theorem dX7_number_39 : decode cX7_number 39 = .ok (.if_icmp .ge 23, 3) := by decide +kernel
theorem dX7_number_42 : decode cX7_number 42 = .ok (.bipush 10, 2) := by decide +kernel
theorem dX7_number_44 : decode cX7_number 44 = .ok (.iload_n 1, 1) := by decide +kernel
theorem dX7_number_45 : decode cX7_number 45 = .ok (.imul, 1) := by decide +kernel
theorem dX7_number_46 : decode cX7_number 46 = .ok (.aload_n 0, 1) := by decide +kernel
theorem dX7_number_47 : decode cX7_number 47 = .ok (.getfield 7, 3) := by decide +kernel
theorem dX7_number_50 : decode cX7_number 50 = .ok (.aload_n 0, 1) := by decide +kernel
theorem dX7_number_51 : decode cX7_number 51 = .ok (.getfield 85, 3) := by decide +kernel
theorem dX7_number_54 : decode cX7_number 54 = .ok (.baload, 1) := by decide +kernel
theorem dX7_number_55 : decode cX7_number 55 = .ok (.iadd, 1) := by decide +kernel
theorem dX7_number_56 : decode cX7_number 56 = .ok (.bipush 48, 2) := by decide +kernel
theorem dX7_number_58 : decode cX7_number 58 = .ok (.isub, 1) := by decide +kernel
theorem dX7_number_59 : decode cX7_number 59 = .ok (.goto 4, 3) := by decide +kernel
theorem dX7_number_62 : decode cX7_number 62 = .ok (.iload_n 1, 1) := by decide +kernel
theorem dX7_number_63 : decode cX7_number 63 = .ok (.istore_n 1, 1) := by decide +kernel
theorem dX7_number_64 : decode cX7_number 64 = .ok (.iinc 2 1, 3) := by decide +kernel
theorem dX7_number_67 : decode cX7_number 67 = .ok (.aload_n 0, 1) := by decide +kernel
theorem dX7_number_68 : decode cX7_number 68 = .ok (.dup, 1) := by decide +kernel
theorem dX7_number_69 : decode cX7_number 69 = .ok (.getfield 85, 3) := by decide +kernel
theorem dX7_number_72 : decode cX7_number 72 = .ok (.iconst 1, 1) := by decide +kernel
theorem dX7_number_73 : decode cX7_number 73 = .ok (.iadd, 1) := by decide +kernel
theorem dX7_number_74 : decode cX7_number 74 = .ok (.putfield 85, 3) := by decide +kernel
theorem dX7_number_77 : decode cX7_number 77 = .ok (.goto (-73), 3) := by decide +kernel
theorem dX7_number_80 : decode cX7_number 80 = .ok (.iload_n 2, 1) := by decide +kernel
theorem dX7_number_81 : decode cX7_number 81 = .ok (.i2l, 1) := by decide +kernel
theorem dX7_number_82 : decode cX7_number 82 = .ok (.lconst 1, 1) := by decide +kernel
theorem dX7_number_83 : decode cX7_number 83 = .ok (.ldc2_w 92, 3) := by decide +kernel
theorem dX7_number_86 : decode cX7_number 86 = .ok (.invokestatic 77, 3) := by decide +kernel
theorem dX7_number_89 : decode cX7_number 89 = .ok (.ifCond .eq 7, 3) := by decide +kernel
theorem dX7_number_92 : decode cX7_number 92 = .ok (.iload_n 1, 1) := by decide +kernel
theorem dX7_number_93 : decode cX7_number 93 = .ok (.goto 4, 3) := by decide +kernel
theorem dX7_number_96 : decode cX7_number 96 = .ok (.iconst (-1), 1) := by decide +kernel
theorem dX7_number_97 : decode cX7_number 97 = .ok (.ireturn, 1) := by decide +kernel
theorem dX7_parts_0 : decode cX7_parts 0 = .ok (.iload_n 0, 1) := by decide +kernel
theorem dX7_parts_1 : decode cX7_parts 1 = .ok (.bipush 102, 2) := by decide +kernel
theorem dX7_parts_3 : decode cX7_parts 3 = .ok (.if_icmp .ne 7, 3) := by decide +kernel
theorem dX7_parts_6 : decode cX7_parts 6 = .ok (.iconst 4, 1) := by decide +kernel
theorem dX7_parts_7 : decode cX7_parts 7 = .ok (.goto 42, 3) := by decide +kernel
theorem dX7_parts_10 : decode cX7_parts 10 = .ok (.iload_n 0, 1) := by decide +kernel
theorem dX7_parts_11 : decode cX7_parts 11 = .ok (.bipush 98, 2) := by decide +kernel
theorem dX7_parts_13 : decode cX7_parts 13 = .ok (.if_icmp .eq 9, 3) := by decide +kernel
theorem dX7_parts_16 : decode cX7_parts 16 = .ok (.iload_n 0, 1) := by decide +kernel
theorem dX7_parts_17 : decode cX7_parts 17 = .ok (.bipush 112, 2) := by decide +kernel
theorem dX7_parts_19 : decode cX7_parts 19 = .ok (.if_icmp .ne 7, 3) := by decide +kernel
theorem dX7_parts_22 : decode cX7_parts 22 = .ok (.iconst 2, 1) := by decide +kernel
theorem dX7_parts_23 : decode cX7_parts 23 = .ok (.goto 26, 3) := by decide +kernel
theorem dX7_parts_26 : decode cX7_parts 26 = .ok (.iload_n 0, 1) := by decide +kernel
theorem dX7_parts_27 : decode cX7_parts 27 = .ok (.bipush 116, 2) := by decide +kernel
theorem dX7_parts_29 : decode cX7_parts 29 = .ok (.if_icmp .eq 15, 3) := by decide +kernel
theorem dX7_parts_32 : decode cX7_parts 32 = .ok (.iload_n 0, 1) := by decide +kernel
theorem dX7_parts_33 : decode cX7_parts 33 = .ok (.bipush 115, 2) := by decide +kernel
theorem dX7_parts_35 : decode cX7_parts 35 = .ok (.if_icmp .eq 9, 3) := by decide +kernel
theorem dX7_parts_38 : decode cX7_parts 38 = .ok (.iload_n 0, 1) := by decide +kernel
theorem dX7_parts_39 : decode cX7_parts 39 = .ok (.bipush 118, 2) := by decide +kernel
theorem dX7_parts_41 : decode cX7_parts 41 = .ok (.if_icmp .ne 7, 3) := by decide +kernel
theorem dX7_parts_44 : decode cX7_parts 44 = .ok (.iconst 1, 1) := by decide +kernel
theorem dX7_parts_45 : decode cX7_parts 45 = .ok (.goto 4, 3) := by decide +kernel
theorem dX7_parts_48 : decode cX7_parts 48 = .ok (.iconst 0, 1) := by decide +kernel
theorem dX7_parts_49 : decode cX7_parts 49 = .ok (.ireturn, 1) := by decide +kernel
theorem dX7_isIn_0 : decode cX7_isIn 0 = .ok (.aload_n 0, 1) := by decide +kernel
theorem dX7_isIn_1 : decode cX7_isIn 1 = .ok (.getfield 66, 3) := by decide +kernel
theorem dX7_isIn_4 : decode cX7_isIn 4 = .ok (.iload_n 1, 1) := by decide +kernel
theorem dX7_isIn_5 : decode cX7_isIn 5 = .ok (.iaload, 1) := by decide +kernel
theorem dX7_isIn_6 : decode cX7_isIn 6 = .ok (.i2l, 1) := by decide +kernel
theorem dX7_isIn_7 : decode cX7_isIn 7 = .ok (.iload_n 2, 1) := by decide +kernel
theorem dX7_isIn_8 : decode cX7_isIn 8 = .ok (.i2l, 1) := by decide +kernel
theorem dX7_isIn_9 : decode cX7_isIn 9 = .ok (.iload_n 3, 1) := by decide +kernel
theorem dX7_isIn_10 : decode cX7_isIn 10 = .ok (.i2l, 1) := by decide +kernel
theorem dX7_isIn_11 : decode cX7_isIn 11 = .ok (.invokestatic 77, 3) := by decide +kernel
theorem dX7_isIn_14 : decode cX7_isIn 14 = .ok (.ireturn, 1) := by decide +kernel
theorem dX7_isItem_0 : decode cX7_isItem 0 = .ok (.aload_n 0, 1) := by decide +kernel
theorem dX7_isItem_1 : decode cX7_isItem 1 = .ok (.getfield 7, 3) := by decide +kernel
theorem dX7_isItem_4 : decode cX7_isItem 4 = .ok (.aload_n 0, 1) := by decide +kernel
theorem dX7_isItem_5 : decode cX7_isItem 5 = .ok (.getfield 85, 3) := by decide +kernel
theorem dX7_isItem_8 : decode cX7_isItem 8 = .ok (.baload, 1) := by decide +kernel
theorem dX7_isItem_9 : decode cX7_isItem 9 = .ok (.istore_n 1, 1) := by decide +kernel
theorem dX7_isItem_10 : decode cX7_isItem 10 = .ok (.aload_n 0, 1) := by decide +kernel
theorem dX7_isItem_11 : decode cX7_isItem 11 = .ok (.dup, 1) := by decide +kernel
theorem dX7_isItem_12 : decode cX7_isItem 12 = .ok (.getfield 85, 3) := by decide +kernel
theorem dX7_isItem_15 : decode cX7_isItem 15 = .ok (.iconst 1, 1) := by decide +kernel
theorem dX7_isItem_16 : decode cX7_isItem 16 = .ok (.iadd, 1) := by decide +kernel
theorem dX7_isItem_17 : decode cX7_isItem 17 = .ok (.putfield 85, 3) := by decide +kernel
theorem dX7_isItem_20 : decode cX7_isItem 20 = .ok (.iload_n 1, 1) := by decide +kernel
theorem dX7_isItem_21 : decode cX7_isItem 21 = .ok (.invokestatic 94, 3) := by decide +kernel
theorem dX7_isItem_24 : decode cX7_isItem 24 = .ok (.istore_n 2, 1) := by decide +kernel
theorem dX7_isItem_25 : decode cX7_isItem 25 = .ok (.iload_n 2, 1) := by decide +kernel
theorem dX7_isItem_26 : decode cX7_isItem 26 = .ok (.ifCond .le 7, 3) := by decide +kernel
theorem dX7_isItem_29 : decode cX7_isItem 29 = .ok (.iconst 1, 1) := by decide +kernel
theorem dX7_isItem_30 : decode cX7_isItem 30 = .ok (.goto 4, 3) := by decide +kernel
theorem dX7_isItem_33 : decode cX7_isItem 33 = .ok (.iconst 0, 1) := by decide +kernel
theorem dX7_isItem_34 : decode cX7_isItem 34 = .ok (.istore_n 3, 1) := by decide +kernel
theorem dX7_isItem_35 : decode cX7_isItem 35 = .ok (.iconst 0, 1) := by decide +kernel
theorem dX7_isItem_36 : decode cX7_isItem 36 = .ok (.istore 4, 2) := by decide +kernel
theorem dX7_isItem_38 : decode cX7_isItem 38 = .ok (.iload 4, 2) := by decide +kernel
theorem dX7_isItem_40 : decode cX7_isItem 40 = .ok (.iload_n 2, 1) := by decide +kernel
theorem dX7_isItem_41 : decode cX7_isItem 41 = .ok (.if_icmp .ge 103, 3) := by decide +kernel
theorem dX7_isItem_44 : decode cX7_isItem 44 = .ok (.iload_n 3, 1) := by decide +kernel
theorem dX7_isItem_45 : decode cX7_isItem 45 = .ok (.ifCond .eq 99, 3) := by decide +kernel
theorem dX7_isItem_48 : decode cX7_isItem 48 = .ok (.iload 4, 2) := by decide +kernel
theorem dX7_isItem_50 : decode cX7_isItem 50 = .ok (.ifCond .eq 28, 3) := by decide +kernel
theorem dX7_isItem_53 : decode cX7_isItem 53 = .ok (.aload_n 0, 1) := by decide +kernel
theorem dX7_isItem_54 : decode cX7_isItem 54 = .ok (.getfield 85, 3) := by decide +kernel
theorem dX7_isItem_57 : decode cX7_isItem 57 = .ok (.aload_n 0, 1) := by decide +kernel
theorem dX7_isItem_58 : decode cX7_isItem 58 = .ok (.getfield 81, 3) := by decide +kernel
theorem dX7_isItem_61 : decode cX7_isItem 61 = .ok (.if_icmp .ge 21, 3) := by decide +kernel
theorem dX7_isItem_64 : decode cX7_isItem 64 = .ok (.aload_n 0, 1) := by decide +kernel
theorem dX7_isItem_65 : decode cX7_isItem 65 = .ok (.getfield 7, 3) := by decide +kernel
theorem dX7_isItem_68 : decode cX7_isItem 68 = .ok (.aload_n 0, 1) := by decide +kernel
theorem dX7_isItem_69 : decode cX7_isItem 69 = .ok (.getfield 85, 3) := by decide +kernel
theorem dX7_isItem_72 : decode cX7_isItem 72 = .ok (.baload, 1) := by decide +kernel
theorem dX7_isItem_73 : decode cX7_isItem 73 = .ok (.bipush 44, 2) := by decide +kernel
theorem dX7_isItem_75 : decode cX7_isItem 75 = .ok (.if_icmp .ne 7, 3) := by decide +kernel
theorem dX7_isItem_78 : decode cX7_isItem 78 = .ok (.iconst 1, 1) := by decide +kernel
theorem dX7_isItem_79 : decode cX7_isItem 79 = .ok (.goto 4, 3) := by decide +kernel
theorem dX7_isItem_82 : decode cX7_isItem 82 = .ok (.iconst 0, 1) := by decide +kernel
theorem dX7_isItem_83 : decode cX7_isItem 83 = .ok (.istore_n 3, 1) := by decide +kernel
theorem dX7_isItem_84 : decode cX7_isItem 84 = .ok (.aload_n 0, 1) := by decide +kernel
theorem dX7_isItem_85 : decode cX7_isItem 85 = .ok (.dup, 1) := by decide +kernel
theorem dX7_isItem_86 : decode cX7_isItem 86 = .ok (.getfield 85, 3) := by decide +kernel
theorem dX7_isItem_89 : decode cX7_isItem 89 = .ok (.iload 4, 2) := by decide +kernel
theorem dX7_isItem_91 : decode cX7_isItem 91 = .ok (.ifCond .ne 7, 3) := by decide +kernel
theorem dX7_isItem_94 : decode cX7_isItem 94 = .ok (.iconst 0, 1) := by decide +kernel
theorem dX7_isItem_95 : decode cX7_isItem 95 = .ok (.goto 4, 3) := by decide +kernel
theorem dX7_isItem_98 : decode cX7_isItem 98 = .ok (.iconst 1, 1) := by decide +kernel
theorem dX7_isItem_99 : decode cX7_isItem 99 = .ok (.iadd, 1) := by decide +kernel
theorem dX7_isItem_100 : decode cX7_isItem 100 = .ok (.putfield 85, 3) := by decide +kernel
theorem dX7_isItem_103 : decode cX7_isItem 103 = .ok (.aload_n 0, 1) := by decide +kernel
theorem dX7_isItem_104 : decode cX7_isItem 104 = .ok (.getfield 66, 3) := by decide +kernel
theorem dX7_isItem_107 : decode cX7_isItem 107 = .ok (.iload 4, 2) := by decide +kernel
theorem dX7_isItem_109 : decode cX7_isItem 109 = .ok (.iload_n 3, 1) := by decide +kernel
theorem dX7_isItem_110 : decode cX7_isItem 110 = .ok (.ifCond .eq 10, 3) := by decide +kernel
theorem dX7_isItem_113 : decode cX7_isItem 113 = .ok (.aload_n 0, 1) := by decide +kernel
theorem dX7_isItem_114 : decode cX7_isItem 114 = .ok (.invokevirtual 98, 3) := by decide +kernel
theorem dX7_isItem_117 : decode cX7_isItem 117 = .ok (.goto 4, 3) := by decide +kernel
theorem dX7_isItem_120 : decode cX7_isItem 120 = .ok (.iconst (-1), 1) := by decide +kernel
theorem dX7_isItem_121 : decode cX7_isItem 121 = .ok (.iastore, 1) := by decide +kernel
theorem dX7_isItem_122 : decode cX7_isItem 122 = .ok (.aload_n 0, 1) := by decide +kernel
theorem dX7_isItem_123 : decode cX7_isItem 123 = .ok (.getfield 66, 3) := by decide +kernel
theorem dX7_isItem_126 : decode cX7_isItem 126 = .ok (.iload 4, 2) := by decide +kernel
theorem dX7_isItem_128 : decode cX7_isItem 128 = .ok (.iaload, 1) := by decide +kernel
theorem dX7_isItem_129 : decode cX7_isItem 129 = .ok (.ifCond .lt 7, 3) := by decide +kernel
theorem dX7_isItem_132 : decode cX7_isItem 132 = .ok (.iconst 1, 1) := by decide +kernel
theorem dX7_isItem_133 : decode cX7_isItem 133 = .ok (.goto 4, 3) := by decide +kernel
theorem dX7_isItem_136 : decode cX7_isItem 136 = .ok (.iconst 0, 1) := by decide +kernel
theorem dX7_isItem_137 : decode cX7_isItem 137 = .ok (.istore_n 3, 1) := by decide +kernel
theorem dX7_isItem_138 : decode cX7_isItem 138 = .ok (.iinc 4 1, 3) := by decide +kernel
theorem dX7_isItem_141 : decode cX7_isItem 141 = .ok (.goto (-103), 3) := by decide +kernel
theorem dX7_isItem_144 : decode cX7_isItem 144 = .ok (.iload_n 3, 1) := by decide +kernel
