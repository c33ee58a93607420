theorem dX0_init_0 : decode cX0_init 0 = .ok (.aload_n 0, 1) := by decide +kernel
theorem dX0_init_1 : decode cX0_init 1 = .ok (.invokespecial 3, 3) := by decide +kernel
theorem dX0_init_4 : decode cX0_init 4 = .ok (.aload_n 0, 1) := by decide +kernel
theorem dX0_init_5 : decode cX0_init 5 = .ok (.bipush 10, 2) := by decide +kernel
theorem dX0_init_7 : decode cX0_init 7 = .ok (.newarray .int, 2) := by decide +kernel
theorem dX0_init_9 : decode cX0_init 9 = .ok (.putfield 9, 3) := by decide +kernel
theorem dX0_init_12 : decode cX0_init 12 = .ok (.aload_n 0, 1) := by decide +kernel
theorem dX0_init_13 : decode cX0_init 13 = .ok (.bipush 10, 2) := by decide +kernel
theorem dX0_init_15 : decode cX0_init 15 = .ok (.newarray .int, 2) := by decide +kernel
theorem dX0_init_17 : decode cX0_init 17 = .ok (.putfield 15, 3) := by decide +kernel
theorem dX0_init_20 : decode cX0_init 20 = .ok (.aload_n 0, 1) := by decide +kernel
theorem dX0_init_21 : decode cX0_init 21 = .ok (.bipush 10, 2) := by decide +kernel
theorem dX0_init_23 : decode cX0_init 23 = .ok (.newarray .int, 2) := by decide +kernel
theorem dX0_init_25 : decode cX0_init 25 = .ok (.putfield 18, 3) := by decide +kernel
theorem dX0_init_28 : decode cX0_init 28 = .ok (.aload_n 0, 1) := by decide +kernel
theorem dX0_init_29 : decode cX0_init 29 = .ok (.bipush 10, 2) := by decide +kernel
theorem dX0_init_31 : decode cX0_init 31 = .ok (.newarray .int, 2) := by decide +kernel
theorem dX0_init_33 : decode cX0_init 33 = .ok (.putfield 21, 3) := by decide +kernel
theorem dX0_init_36 : decode cX0_init 36 = .ok (.aload_n 0, 1) := by decide +kernel
theorem dX0_init_37 : decode cX0_init 37 = .ok (.bipush 10, 2) := by decide +kernel
theorem dX0_init_39 : decode cX0_init 39 = .ok (.newarray .int, 2) := by decide +kernel
theorem dX0_init_41 : decode cX0_init 41 = .ok (.putfield 24, 3) := by decide +kernel
theorem dX0_init_44 : decode cX0_init 44 = .ok (.aload_n 0, 1) := by decide +kernel
theorem dX0_init_45 : decode cX0_init 45 = .ok (.aload_n 1, 1) := by decide +kernel
theorem dX0_init_46 : decode cX0_init 46 = .ok (.putfield 27, 3) := by decide +kernel
theorem dX0_init_49 : decode cX0_init 49 = .ok (.return_, 1) := by decide +kernel
theorem dX0_add_0 : decode cX0_add 0 = .ok (.aload_n 0, 1) := by decide +kernel
theorem dX0_add_1 : decode cX0_add 1 = .ok (.getfield 31, 3) := by decide +kernel
theorem dX0_add_4 : decode cX0_add 4 = .ok (.bipush 10, 2) := by decide +kernel
theorem dX0_add_6 : decode cX0_add 6 = .ok (.if_icmp .lt 6, 3) := by decide +kernel
theorem dX0_add_9 : decode cX0_add 9 = .ok (.bipush (-5), 2) := by decide +kernel
theorem dX0_add_11 : decode cX0_add 11 = .ok (.ireturn, 1) := by decide +kernel
theorem dX0_add_12 : decode cX0_add 12 = .ok (.aload_n 0, 1) := by decide +kernel
theorem dX0_add_13 : decode cX0_add 13 = .ok (.getfield 9, 3) := by decide +kernel
theorem dX0_add_16 : decode cX0_add 16 = .ok (.aload_n 0, 1) := by decide +kernel
theorem dX0_add_17 : decode cX0_add 17 = .ok (.getfield 31, 3) := by decide +kernel
theorem dX0_add_20 : decode cX0_add 20 = .ok (.iload_n 1, 1) := by decide +kernel
theorem dX0_add_21 : decode cX0_add 21 = .ok (.iastore, 1) := by decide +kernel
theorem dX0_add_22 : decode cX0_add 22 = .ok (.aload_n 0, 1) := by decide +kernel
theorem dX0_add_23 : decode cX0_add 23 = .ok (.getfield 15, 3) := by decide +kernel
theorem dX0_add_26 : decode cX0_add 26 = .ok (.aload_n 0, 1) := by decide +kernel
theorem dX0_add_27 : decode cX0_add 27 = .ok (.getfield 31, 3) := by decide +kernel
theorem dX0_add_30 : decode cX0_add 30 = .ok (.iload_n 3, 1) := by decide +kernel
theorem dX0_add_31 : decode cX0_add 31 = .ok (.iastore, 1) := by decide +kernel
theorem dX0_add_32 : decode cX0_add 32 = .ok (.aload_n 0, 1) := by decide +kernel
theorem dX0_add_33 : decode cX0_add 33 = .ok (.getfield 18, 3) := by decide +kernel
theorem dX0_add_36 : decode cX0_add 36 = .ok (.aload_n 0, 1) := by decide +kernel
theorem dX0_add_37 : decode cX0_add 37 = .ok (.getfield 31, 3) := by decide +kernel
theorem dX0_add_40 : decode cX0_add 40 = .ok (.iload_n 2, 1) := by decide +kernel
theorem dX0_add_41 : decode cX0_add 41 = .ok (.aload_n 0, 1) := by decide +kernel
theorem dX0_add_42 : decode cX0_add 42 = .ok (.getfield 27, 3) := by decide +kernel
theorem dX0_add_45 : decode cX0_add 45 = .ok (.getfield 35, 3) := by decide +kernel
theorem dX0_add_48 : decode cX0_add 48 = .ok (.iload_n 1, 1) := by decide +kernel
theorem dX0_add_49 : decode cX0_add 49 = .ok (.iaload, 1) := by decide +kernel
theorem dX0_add_50 : decode cX0_add 50 = .ok (.iadd, 1) := by decide +kernel
theorem dX0_add_51 : decode cX0_add 51 = .ok (.iload 4, 2) := by decide +kernel
theorem dX0_add_53 : decode cX0_add 53 = .ok (.isub, 1) := by decide +kernel
theorem dX0_add_54 : decode cX0_add 54 = .ok (.aload_n 0, 1) := by decide +kernel
theorem dX0_add_55 : decode cX0_add 55 = .ok (.getfield 27, 3) := by decide +kernel
theorem dX0_add_58 : decode cX0_add 58 = .ok (.getfield 35, 3) := by decide +kernel
theorem dX0_add_61 : decode cX0_add 61 = .ok (.iload_n 3, 1) := by decide +kernel
theorem dX0_add_62 : decode cX0_add 62 = .ok (.iaload, 1) := by decide +kernel
theorem dX0_add_63 : decode cX0_add 63 = .ok (.isub, 1) := by decide +kernel
theorem dX0_add_64 : decode cX0_add 64 = .ok (.sipush 1440, 3) := by decide +kernel
theorem dX0_add_67 : decode cX0_add 67 = .ok (.invokestatic 40, 3) := by decide +kernel
theorem dX0_add_70 : decode cX0_add 70 = .ok (.iastore, 1) := by decide +kernel
theorem dX0_add_71 : decode cX0_add 71 = .ok (.aload_n 0, 1) := by decide +kernel
theorem dX0_add_72 : decode cX0_add 72 = .ok (.dup, 1) := by decide +kernel
theorem dX0_add_73 : decode cX0_add 73 = .ok (.getfield 31, 3) := by decide +kernel
theorem dX0_add_76 : decode cX0_add 76 = .ok (.iconst 1, 1) := by decide +kernel
theorem dX0_add_77 : decode cX0_add 77 = .ok (.iadd, 1) := by decide +kernel
theorem dX0_add_78 : decode cX0_add 78 = .ok (.putfield 31, 3) := by decide +kernel
theorem dX0_add_81 : decode cX0_add 81 = .ok (.aload_n 0, 1) := by decide +kernel
theorem dX0_add_82 : decode cX0_add 82 = .ok (.getfield 31, 3) := by decide +kernel
theorem dX0_add_85 : decode cX0_add 85 = .ok (.ireturn, 1) := by decide +kernel
theorem dX0_clear_0 : decode cX0_clear 0 = .ok (.aload_n 0, 1) := by decide +kernel
theorem dX0_clear_1 : decode cX0_clear 1 = .ok (.getfield 31, 3) := by decide +kernel
theorem dX0_clear_4 : decode cX0_clear 4 = .ok (.istore_n 1, 1) := by decide +kernel
theorem dX0_clear_5 : decode cX0_clear 5 = .ok (.aload_n 0, 1) := by decide +kernel
theorem dX0_clear_6 : decode cX0_clear 6 = .ok (.iconst 0, 1) := by decide +kernel
theorem dX0_clear_7 : decode cX0_clear 7 = .ok (.putfield 31, 3) := by decide +kernel
theorem dX0_clear_10 : decode cX0_clear 10 = .ok (.iload_n 1, 1) := by decide +kernel
theorem dX0_clear_11 : decode cX0_clear 11 = .ok (.ireturn, 1) := by decide +kernel
theorem dX0_wrongClocks_0 : decode cX0_wrongClocks 0 = .ok (.aload_n 0, 1) := by decide +kernel
theorem dX0_wrongClocks_1 : decode cX0_wrongClocks 1 = .ok (.invokevirtual 46, 3) := by decide +kernel
theorem dX0_wrongClocks_4 : decode cX0_wrongClocks 4 = .ok (.iconst 0, 1) := by decide +kernel
theorem dX0_wrongClocks_5 : decode cX0_wrongClocks 5 = .ok (.istore_n 1, 1) := by decide +kernel
theorem dX0_wrongClocks_6 : decode cX0_wrongClocks 6 = .ok (.iload_n 1, 1) := by decide +kernel
theorem dX0_wrongClocks_7 : decode cX0_wrongClocks 7 = .ok (.aload_n 0, 1) := by decide +kernel
theorem dX0_wrongClocks_8 : decode cX0_wrongClocks 8 = .ok (.getfield 31, 3) := by decide +kernel
theorem dX0_wrongClocks_11 : decode cX0_wrongClocks 11 = .ok (.if_icmp .ge 49, 3) := by decide +kernel
theorem dX0_wrongClocks_14 : decode cX0_wrongClocks 14 = .ok (.aload_n 0, 1) := by decide +kernel
theorem dX0_wrongClocks_15 : decode cX0_wrongClocks 15 = .ok (.getfield 24, 3) := by decide +kernel
theorem dX0_wrongClocks_18 : decode cX0_wrongClocks 18 = .ok (.aload_n 0, 1) := by decide +kernel
theorem dX0_wrongClocks_19 : decode cX0_wrongClocks 19 = .ok (.getfield 9, 3) := by decide +kernel
theorem dX0_wrongClocks_22 : decode cX0_wrongClocks 22 = .ok (.iload_n 1, 1) := by decide +kernel
theorem dX0_wrongClocks_23 : decode cX0_wrongClocks 23 = .ok (.iaload, 1) := by decide +kernel
theorem dX0_wrongClocks_24 : decode cX0_wrongClocks 24 = .ok (.iaload, 1) := by decide +kernel
theorem dX0_wrongClocks_25 : decode cX0_wrongClocks 25 = .ok (.aload_n 0, 1) := by decide +kernel
theorem dX0_wrongClocks_26 : decode cX0_wrongClocks 26 = .ok (.getfield 24, 3) := by decide +kernel
theorem dX0_wrongClocks_29 : decode cX0_wrongClocks 29 = .ok (.aload_n 0, 1) := by decide +kernel
theorem dX0_wrongClocks_30 : decode cX0_wrongClocks 30 = .ok (.getfield 15, 3) := by decide +kernel
theorem dX0_wrongClocks_33 : decode cX0_wrongClocks 33 = .ok (.iload_n 1, 1) := by decide +kernel
theorem dX0_wrongClocks_34 : decode cX0_wrongClocks 34 = .ok (.iaload, 1) := by decide +kernel
theorem dX0_wrongClocks_35 : decode cX0_wrongClocks 35 = .ok (.iaload, 1) := by decide +kernel
theorem dX0_wrongClocks_36 : decode cX0_wrongClocks 36 = .ok (.isub, 1) := by decide +kernel
theorem dX0_wrongClocks_37 : decode cX0_wrongClocks 37 = .ok (.sipush 1440, 3) := by decide +kernel
theorem dX0_wrongClocks_40 : decode cX0_wrongClocks 40 = .ok (.invokestatic 40, 3) := by decide +kernel
theorem dX0_wrongClocks_43 : decode cX0_wrongClocks 43 = .ok (.aload_n 0, 1) := by decide +kernel
theorem dX0_wrongClocks_44 : decode cX0_wrongClocks 44 = .ok (.getfield 18, 3) := by decide +kernel
theorem dX0_wrongClocks_47 : decode cX0_wrongClocks 47 = .ok (.iload_n 1, 1) := by decide +kernel
theorem dX0_wrongClocks_48 : decode cX0_wrongClocks 48 = .ok (.iaload, 1) := by decide +kernel
theorem dX0_wrongClocks_49 : decode cX0_wrongClocks 49 = .ok (.if_icmp .eq 5, 3) := by decide +kernel
theorem dX0_wrongClocks_52 : decode cX0_wrongClocks 52 = .ok (.iconst (-1), 1) := by decide +kernel
theorem dX0_wrongClocks_53 : decode cX0_wrongClocks 53 = .ok (.ireturn, 1) := by decide +kernel
theorem dX0_wrongClocks_54 : decode cX0_wrongClocks 54 = .ok (.iinc 1 1, 3) := by decide +kernel
theorem dX0_wrongClocks_57 : decode cX0_wrongClocks 57 = .ok (.goto (-51), 3) := by decide +kernel
theorem dX0_wrongClocks_60 : decode cX0_wrongClocks 60 = .ok (.iconst 0, 1) := by decide +kernel
theorem dX0_wrongClocks_61 : decode cX0_wrongClocks 61 = .ok (.istore_n 1, 1) := by decide +kernel
theorem dX0_wrongClocks_62 : decode cX0_wrongClocks 62 = .ok (.iconst 0, 1) := by decide +kernel
theorem dX0_wrongClocks_63 : decode cX0_wrongClocks 63 = .ok (.istore_n 2, 1) := by decide +kernel
theorem dX0_wrongClocks_64 : decode cX0_wrongClocks 64 = .ok (.iload_n 2, 1) := by decide +kernel
theorem dX0_wrongClocks_65 : decode cX0_wrongClocks 65 = .ok (.aload_n 0, 1) := by decide +kernel
theorem dX0_wrongClocks_66 : decode cX0_wrongClocks 66 = .ok (.getfield 27, 3) := by decide +kernel
theorem dX0_wrongClocks_69 : decode cX0_wrongClocks 69 = .ok (.getfield 49, 3) := by decide +kernel
theorem dX0_wrongClocks_72 : decode cX0_wrongClocks 72 = .ok (.if_icmp .ge 27, 3) := by decide +kernel
theorem dX0_wrongClocks_75 : decode cX0_wrongClocks 75 = .ok (.aload_n 0, 1) := by decide +kernel
theorem dX0_wrongClocks_76 : decode cX0_wrongClocks 76 = .ok (.getfield 21, 3) := by decide +kernel
theorem dX0_wrongClocks_79 : decode cX0_wrongClocks 79 = .ok (.iload_n 2, 1) := by decide +kernel
theorem dX0_wrongClocks_80 : decode cX0_wrongClocks 80 = .ok (.iaload, 1) := by decide +kernel
theorem dX0_wrongClocks_81 : decode cX0_wrongClocks 81 = .ok (.iload_n 2, 1) := by decide +kernel
theorem dX0_wrongClocks_82 : decode cX0_wrongClocks 82 = .ok (.if_icmp .ne 11, 3) := by decide +kernel
theorem dX0_wrongClocks_85 : decode cX0_wrongClocks 85 = .ok (.iload_n 1, 1) := by decide +kernel
theorem dX0_wrongClocks_86 : decode cX0_wrongClocks 86 = .ok (.aload_n 0, 1) := by decide +kernel
theorem dX0_wrongClocks_87 : decode cX0_wrongClocks 87 = .ok (.iload_n 2, 1) := by decide +kernel
theorem dX0_wrongClocks_88 : decode cX0_wrongClocks 88 = .ok (.invokevirtual 50, 3) := by decide +kernel
theorem dX0_wrongClocks_91 : decode cX0_wrongClocks 91 = .ok (.ior, 1) := by decide +kernel
theorem dX0_wrongClocks_92 : decode cX0_wrongClocks 92 = .ok (.istore_n 1, 1) := by decide +kernel
theorem dX0_wrongClocks_93 : decode cX0_wrongClocks 93 = .ok (.iinc 2 1, 3) := by decide +kernel
theorem dX0_wrongClocks_96 : decode cX0_wrongClocks 96 = .ok (.goto (-32), 3) := by decide +kernel
theorem dX0_wrongClocks_99 : decode cX0_wrongClocks 99 = .ok (.iload_n 1, 1) := by decide +kernel
theorem dX0_wrongClocks_100 : decode cX0_wrongClocks 100 = .ok (.ireturn, 1) := by decide +kernel
theorem dX0_tieGroups_0 : decode cX0_tieGroups 0 = .ok (.iconst 0, 1) := by decide +kernel
theorem dX0_tieGroups_1 : decode cX0_tieGroups 1 = .ok (.istore_n 1, 1) := by decide +kernel
theorem dX0_tieGroups_2 : decode cX0_tieGroups 2 = .ok (.iload_n 1, 1) := by decide +kernel
theorem dX0_tieGroups_3 : decode cX0_tieGroups 3 = .ok (.aload_n 0, 1) := by decide +kernel
theorem dX0_tieGroups_4 : decode cX0_tieGroups 4 = .ok (.getfield 27, 3) := by decide +kernel
theorem dX0_tieGroups_7 : decode cX0_tieGroups 7 = .ok (.getfield 49, 3) := by decide +kernel
theorem dX0_tieGroups_10 : decode cX0_tieGroups 10 = .ok (.if_icmp .ge 16, 3) := by decide +kernel
theorem dX0_tieGroups_13 : decode cX0_tieGroups 13 = .ok (.aload_n 0, 1) := by decide +kernel
theorem dX0_tieGroups_14 : decode cX0_tieGroups 14 = .ok (.getfield 21, 3) := by decide +kernel
theorem dX0_tieGroups_17 : decode cX0_tieGroups 17 = .ok (.iload_n 1, 1) := by decide +kernel
theorem dX0_tieGroups_18 : decode cX0_tieGroups 18 = .ok (.iconst (-1), 1) := by decide +kernel
theorem dX0_tieGroups_19 : decode cX0_tieGroups 19 = .ok (.iastore, 1) := by decide +kernel
theorem dX0_tieGroups_20 : decode cX0_tieGroups 20 = .ok (.iinc 1 1, 3) := by decide +kernel
theorem dX0_tieGroups_23 : decode cX0_tieGroups 23 = .ok (.goto (-21), 3) := by decide +kernel
theorem dX0_tieGroups_26 : decode cX0_tieGroups 26 = .ok (.iconst 0, 1) := by decide +kernel
theorem dX0_tieGroups_27 : decode cX0_tieGroups 27 = .ok (.istore_n 1, 1) := by decide +kernel
theorem dX0_tieGroups_28 : decode cX0_tieGroups 28 = .ok (.iload_n 1, 1) := by decide +kernel
theorem dX0_tieGroups_29 : decode cX0_tieGroups 29 = .ok (.aload_n 0, 1) := by decide +kernel
theorem dX0_tieGroups_30 : decode cX0_tieGroups 30 = .ok (.getfield 27, 3) := by decide +kernel
theorem dX0_tieGroups_33 : decode cX0_tieGroups 33 = .ok (.getfield 49, 3) := by decide +kernel
theorem dX0_tieGroups_36 : decode cX0_tieGroups 36 = .ok (.if_icmp .ge 37, 3) := by decide +kernel
theorem dX0_tieGroups_39 : decode cX0_tieGroups 39 = .ok (.aload_n 0, 1) := by decide +kernel
theorem dX0_tieGroups_40 : decode cX0_tieGroups 40 = .ok (.getfield 21, 3) := by decide +kernel
theorem dX0_tieGroups_43 : decode cX0_tieGroups 43 = .ok (.iload_n 1, 1) := by decide +kernel
theorem dX0_tieGroups_44 : decode cX0_tieGroups 44 = .ok (.iaload, 1) := by decide +kernel
theorem dX0_tieGroups_45 : decode cX0_tieGroups 45 = .ok (.iconst (-1), 1) := by decide +kernel
theorem dX0_tieGroups_46 : decode cX0_tieGroups 46 = .ok (.if_icmp .ne 21, 3) := by decide +kernel
theorem dX0_tieGroups_49 : decode cX0_tieGroups 49 = .ok (.aload_n 0, 1) := by decide +kernel
theorem dX0_tieGroups_50 : decode cX0_tieGroups 50 = .ok (.getfield 21, 3) := by decide +kernel
theorem dX0_tieGroups_53 : decode cX0_tieGroups 53 = .ok (.iload_n 1, 1) := by decide +kernel
theorem dX0_tieGroups_54 : decode cX0_tieGroups 54 = .ok (.iload_n 1, 1) := by decide +kernel
theorem dX0_tieGroups_55 : decode cX0_tieGroups 55 = .ok (.iastore, 1) := by decide +kernel
theorem dX0_tieGroups_56 : decode cX0_tieGroups 56 = .ok (.aload_n 0, 1) := by decide +kernel
theorem dX0_tieGroups_57 : decode cX0_tieGroups 57 = .ok (.getfield 24, 3) := by decide +kernel
theorem dX0_tieGroups_60 : decode cX0_tieGroups 60 = .ok (.iload_n 1, 1) := by decide +kernel
theorem dX0_tieGroups_61 : decode cX0_tieGroups 61 = .ok (.iconst 0, 1) := by decide +kernel
theorem dX0_tieGroups_62 : decode cX0_tieGroups 62 = .ok (.iastore, 1) := by decide +kernel
theorem dX0_tieGroups_63 : decode cX0_tieGroups 63 = .ok (.aload_n 0, 1) := by decide +kernel
theorem dX0_tieGroups_64 : decode cX0_tieGroups 64 = .ok (.invokevirtual 54, 3) := by decide +kernel
theorem dX0_tieGroups_67 : decode cX0_tieGroups 67 = .ok (.iinc 1 1, 3) := by decide +kernel
theorem dX0_tieGroups_70 : decode cX0_tieGroups 70 = .ok (.goto (-42), 3) := by decide +kernel
theorem dX0_tieGroups_73 : decode cX0_tieGroups 73 = .ok (.return_, 1) := by decide +kernel
theorem dX0_spread_0 : decode cX0_spread 0 = .ok (.iconst 0, 1) := by decide +kernel
theorem dX0_spread_1 : decode cX0_spread 1 = .ok (.istore_n 1, 1) := by decide +kernel
theorem dX0_spread_2 : decode cX0_spread 2 = .ok (.iload_n 1, 1) := by decide +kernel
theorem dX0_spread_3 : decode cX0_spread 3 = .ok (.aload_n 0, 1) := by decide +kernel
theorem dX0_spread_4 : decode cX0_spread 4 = .ok (.getfield 27, 3) := by decide +kernel
theorem dX0_spread_7 : decode cX0_spread 7 = .ok (.getfield 49, 3) := by decide +kernel
theorem dX0_spread_10 : decode cX0_spread 10 = .ok (.if_icmp .ge 70, 3) := by decide +kernel
theorem dX0_spread_13 : decode cX0_spread 13 = .ok (.iconst 0, 1) := by decide +kernel
theorem dX0_spread_14 : decode cX0_spread 14 = .ok (.istore_n 2, 1) := by decide +kernel
theorem dX0_spread_15 : decode cX0_spread 15 = .ok (.iload_n 2, 1) := by decide +kernel
theorem dX0_spread_16 : decode cX0_spread 16 = .ok (.aload_n 0, 1) := by decide +kernel
theorem dX0_spread_17 : decode cX0_spread 17 = .ok (.getfield 31, 3) := by decide +kernel
theorem dX0_spread_20 : decode cX0_spread 20 = .ok (.if_icmp .ge 54, 3) := by decide +kernel
theorem dX0_spread_23 : decode cX0_spread 23 = .ok (.aload_n 0, 1) := by decide +kernel
theorem dX0_spread_24 : decode cX0_spread 24 = .ok (.aload_n 0, 1) := by decide +kernel
theorem dX0_spread_25 : decode cX0_spread 25 = .ok (.getfield 9, 3) := by decide +kernel
theorem dX0_spread_28 : decode cX0_spread 28 = .ok (.iload_n 2, 1) := by decide +kernel
theorem dX0_spread_29 : decode cX0_spread 29 = .ok (.iaload, 1) := by decide +kernel
theorem dX0_spread_30 : decode cX0_spread 30 = .ok (.aload_n 0, 1) := by decide +kernel
theorem dX0_spread_31 : decode cX0_spread 31 = .ok (.getfield 15, 3) := by decide +kernel
theorem dX0_spread_34 : decode cX0_spread 34 = .ok (.iload_n 2, 1) := by decide +kernel
theorem dX0_spread_35 : decode cX0_spread 35 = .ok (.iaload, 1) := by decide +kernel
theorem dX0_spread_36 : decode cX0_spread 36 = .ok (.aload_n 0, 1) := by decide +kernel
theorem dX0_spread_37 : decode cX0_spread 37 = .ok (.getfield 18, 3) := by decide +kernel
theorem dX0_spread_40 : decode cX0_spread 40 = .ok (.iload_n 2, 1) := by decide +kernel
theorem dX0_spread_41 : decode cX0_spread 41 = .ok (.iaload, 1) := by decide +kernel
theorem dX0_spread_42 : decode cX0_spread 42 = .ok (.ineg, 1) := by decide +kernel
theorem dX0_spread_43 : decode cX0_spread 43 = .ok (.invokevirtual 57, 3) := by decide +kernel
theorem dX0_spread_46 : decode cX0_spread 46 = .ok (.aload_n 0, 1) := by decide +kernel
theorem dX0_spread_47 : decode cX0_spread 47 = .ok (.aload_n 0, 1) := by decide +kernel
theorem dX0_spread_48 : decode cX0_spread 48 = .ok (.getfield 15, 3) := by decide +kernel
theorem dX0_spread_51 : decode cX0_spread 51 = .ok (.iload_n 2, 1) := by decide +kernel
theorem dX0_spread_52 : decode cX0_spread 52 = .ok (.iaload, 1) := by decide +kernel
theorem dX0_spread_53 : decode cX0_spread 53 = .ok (.aload_n 0, 1) := by decide +kernel
theorem dX0_spread_54 : decode cX0_spread 54 = .ok (.getfield 9, 3) := by decide +kernel
theorem dX0_spread_57 : decode cX0_spread 57 = .ok (.iload_n 2, 1) := by decide +kernel
theorem dX0_spread_58 : decode cX0_spread 58 = .ok (.iaload, 1) := by decide +kernel
theorem dX0_spread_59 : decode cX0_spread 59 = .ok (.aload_n 0, 1) := by decide +kernel
theorem dX0_spread_60 : decode cX0_spread 60 = .ok (.getfield 18, 3) := by decide +kernel
theorem dX0_spread_63 : decode cX0_spread 63 = .ok (.iload_n 2, 1) := by decide +kernel
theorem dX0_spread_64 : decode cX0_spread 64 = .ok (.iaload, 1) := by decide +kernel
theorem dX0_spread_65 : decode cX0_spread 65 = .ok (.invokevirtual 57, 3) := by decide +kernel
theorem dX0_spread_68 : decode cX0_spread 68 = .ok (.iinc 2 1, 3) := by decide +kernel
theorem dX0_spread_71 : decode cX0_spread 71 = .ok (.goto (-56), 3) := by decide +kernel
theorem dX0_spread_74 : decode cX0_spread 74 = .ok (.iinc 1 1, 3) := by decide +kernel
theorem dX0_spread_77 : decode cX0_spread 77 = .ok (.goto (-75), 3) := by decide +kernel
theorem dX0_spread_80 : decode cX0_spread 80 = .ok (.return_, 1) := by decide +kernel
theorem dX0_tie_0 : decode cX0_tie 0 = .ok (.aload_n 0, 1) := by decide +kernel
theorem dX0_tie_1 : decode cX0_tie 1 = .ok (.getfield 21, 3) := by decide +kernel
theorem dX0_tie_4 : decode cX0_tie 4 = .ok (.iload_n 1, 1) := by decide +kernel
theorem dX0_tie_5 : decode cX0_tie 5 = .ok (.iaload, 1) := by decide +kernel
theorem dX0_tie_6 : decode cX0_tie 6 = .ok (.iconst (-1), 1) := by decide +kernel
theorem dX0_tie_7 : decode cX0_tie 7 = .ok (.if_icmp .eq 45, 3) := by decide +kernel
theorem dX0_tie_10 : decode cX0_tie 10 = .ok (.aload_n 0, 1) := by decide +kernel
theorem dX0_tie_11 : decode cX0_tie 11 = .ok (.getfield 21, 3) := by decide +kernel
theorem dX0_tie_14 : decode cX0_tie 14 = .ok (.iload_n 2, 1) := by decide +kernel
theorem dX0_tie_15 : decode cX0_tie 15 = .ok (.iaload, 1) := by decide +kernel
theorem dX0_tie_16 : decode cX0_tie 16 = .ok (.iconst (-1), 1) := by decide +kernel
theorem dX0_tie_17 : decode cX0_tie 17 = .ok (.if_icmp .ne 35, 3) := by decide +kernel
theorem dX0_tie_20 : decode cX0_tie 20 = .ok (.aload_n 0, 1) := by decide +kernel
theorem dX0_tie_21 : decode cX0_tie 21 = .ok (.getfield 21, 3) := by decide +kernel
theorem dX0_tie_24 : decode cX0_tie 24 = .ok (.iload_n 2, 1) := by decide +kernel
theorem dX0_tie_25 : decode cX0_tie 25 = .ok (.aload_n 0, 1) := by decide +kernel
theorem dX0_tie_26 : decode cX0_tie 26 = .ok (.getfield 21, 3) := by decide +kernel
theorem dX0_tie_29 : decode cX0_tie 29 = .ok (.iload_n 1, 1) := by decide +kernel
theorem dX0_tie_30 : decode cX0_tie 30 = .ok (.iaload, 1) := by decide +kernel
theorem dX0_tie_31 : decode cX0_tie 31 = .ok (.iastore, 1) := by decide +kernel
theorem dX0_tie_32 : decode cX0_tie 32 = .ok (.aload_n 0, 1) := by decide +kernel
theorem dX0_tie_33 : decode cX0_tie 33 = .ok (.getfield 24, 3) := by decide +kernel
theorem dX0_tie_36 : decode cX0_tie 36 = .ok (.iload_n 2, 1) := by decide +kernel
theorem dX0_tie_37 : decode cX0_tie 37 = .ok (.aload_n 0, 1) := by decide +kernel
theorem dX0_tie_38 : decode cX0_tie 38 = .ok (.getfield 24, 3) := by decide +kernel
theorem dX0_tie_41 : decode cX0_tie 41 = .ok (.iload_n 1, 1) := by decide +kernel
theorem dX0_tie_42 : decode cX0_tie 42 = .ok (.iaload, 1) := by decide +kernel
theorem dX0_tie_43 : decode cX0_tie 43 = .ok (.iload_n 3, 1) := by decide +kernel
theorem dX0_tie_44 : decode cX0_tie 44 = .ok (.iadd, 1) := by decide +kernel
theorem dX0_tie_45 : decode cX0_tie 45 = .ok (.sipush 1440, 3) := by decide +kernel
theorem dX0_tie_48 : decode cX0_tie 48 = .ok (.invokestatic 40, 3) := by decide +kernel
theorem dX0_tie_51 : decode cX0_tie 51 = .ok (.iastore, 1) := by decide +kernel
theorem dX0_tie_52 : decode cX0_tie 52 = .ok (.return_, 1) := by decide +kernel
theorem dX0_wrongInGroup_0 : decode cX0_wrongInGroup 0 = .ok (.iconst 0, 1) := by decide +kernel
theorem dX0_wrongInGroup_1 : decode cX0_wrongInGroup 1 = .ok (.istore_n 2, 1) := by decide +kernel
theorem dX0_wrongInGroup_2 : decode cX0_wrongInGroup 2 = .ok (.iconst 0, 1) := by decide +kernel
theorem dX0_wrongInGroup_3 : decode cX0_wrongInGroup 3 = .ok (.istore_n 3, 1) := by decide +kernel
theorem dX0_wrongInGroup_4 : decode cX0_wrongInGroup 4 = .ok (.iconst 0, 1) := by decide +kernel
theorem dX0_wrongInGroup_5 : decode cX0_wrongInGroup 5 = .ok (.istore 4, 2) := by decide +kernel
theorem dX0_wrongInGroup_7 : decode cX0_wrongInGroup 7 = .ok (.iload 4, 2) := by decide +kernel
theorem dX0_wrongInGroup_9 : decode cX0_wrongInGroup 9 = .ok (.aload_n 0, 1) := by decide +kernel
theorem dX0_wrongInGroup_10 : decode cX0_wrongInGroup 10 = .ok (.getfield 27, 3) := by decide +kernel
theorem dX0_wrongInGroup_13 : decode cX0_wrongInGroup 13 = .ok (.getfield 49, 3) := by decide +kernel
theorem dX0_wrongInGroup_16 : decode cX0_wrongInGroup 16 = .ok (.if_icmp .ge 66, 3) := by decide +kernel
theorem dX0_wrongInGroup_19 : decode cX0_wrongInGroup 19 = .ok (.aload_n 0, 1) := by decide +kernel
theorem dX0_wrongInGroup_20 : decode cX0_wrongInGroup 20 = .ok (.getfield 21, 3) := by decide +kernel
theorem dX0_wrongInGroup_23 : decode cX0_wrongInGroup 23 = .ok (.iload 4, 2) := by decide +kernel
theorem dX0_wrongInGroup_25 : decode cX0_wrongInGroup 25 = .ok (.iaload, 1) := by decide +kernel
theorem dX0_wrongInGroup_26 : decode cX0_wrongInGroup 26 = .ok (.iload_n 1, 1) := by decide +kernel
theorem dX0_wrongInGroup_27 : decode cX0_wrongInGroup 27 = .ok (.if_icmp .ne 49, 3) := by decide +kernel
theorem dX0_wrongInGroup_30 : decode cX0_wrongInGroup 30 = .ok (.iload_n 2, 1) := by decide +kernel
theorem dX0_wrongInGroup_31 : decode cX0_wrongInGroup 31 = .ok (.iconst 1, 1) := by decide +kernel
theorem dX0_wrongInGroup_32 : decode cX0_wrongInGroup 32 = .ok (.iload 4, 2) := by decide +kernel
theorem dX0_wrongInGroup_34 : decode cX0_wrongInGroup 34 = .ok (.ishl, 1) := by decide +kernel
theorem dX0_wrongInGroup_35 : decode cX0_wrongInGroup 35 = .ok (.ior, 1) := by decide +kernel
theorem dX0_wrongInGroup_36 : decode cX0_wrongInGroup 36 = .ok (.istore_n 2, 1) := by decide +kernel
theorem dX0_wrongInGroup_37 : decode cX0_wrongInGroup 37 = .ok (.aload_n 0, 1) := by decide +kernel
theorem dX0_wrongInGroup_38 : decode cX0_wrongInGroup 38 = .ok (.iload 4, 2) := by decide +kernel
theorem dX0_wrongInGroup_40 : decode cX0_wrongInGroup 40 = .ok (.invokevirtual 61, 3) := by decide +kernel
theorem dX0_wrongInGroup_43 : decode cX0_wrongInGroup 43 = .ok (.istore 5, 2) := by decide +kernel
theorem dX0_wrongInGroup_45 : decode cX0_wrongInGroup 45 = .ok (.iload 5, 2) := by decide +kernel
theorem dX0_wrongInGroup_47 : decode cX0_wrongInGroup 47 = .ok (.invokestatic 64, 3) := by decide +kernel
theorem dX0_wrongInGroup_50 : decode cX0_wrongInGroup 50 = .ok (.iload_n 3, 1) := by decide +kernel
theorem dX0_wrongInGroup_51 : decode cX0_wrongInGroup 51 = .ok (.invokestatic 64, 3) := by decide +kernel
theorem dX0_wrongInGroup_54 : decode cX0_wrongInGroup 54 = .ok (.isub, 1) := by decide +kernel
theorem dX0_wrongInGroup_55 : decode cX0_wrongInGroup 55 = .ok (.istore 6, 2) := by decide +kernel
theorem dX0_wrongInGroup_57 : decode cX0_wrongInGroup 57 = .ok (.iload 6, 2) := by decide +kernel
theorem dX0_wrongInGroup_59 : decode cX0_wrongInGroup 59 = .ok (.ifCond .gt 14, 3) := by decide +kernel
theorem dX0_wrongInGroup_62 : decode cX0_wrongInGroup 62 = .ok (.iload 6, 2) := by decide +kernel
theorem dX0_wrongInGroup_64 : decode cX0_wrongInGroup 64 = .ok (.ifCond .ne 12, 3) := by decide +kernel
theorem dX0_wrongInGroup_67 : decode cX0_wrongInGroup 67 = .ok (.iload 5, 2) := by decide +kernel
theorem dX0_wrongInGroup_69 : decode cX0_wrongInGroup 69 = .ok (.iload_n 3, 1) := by decide +kernel
theorem dX0_wrongInGroup_70 : decode cX0_wrongInGroup 70 = .ok (.if_icmp .le 6, 3) := by decide +kernel
theorem dX0_wrongInGroup_73 : decode cX0_wrongInGroup 73 = .ok (.iload 5, 2) := by decide +kernel
theorem dX0_wrongInGroup_75 : decode cX0_wrongInGroup 75 = .ok (.istore_n 3, 1) := by decide +kernel
theorem dX0_wrongInGroup_76 : decode cX0_wrongInGroup 76 = .ok (.iinc 4 1, 3) := by decide +kernel
theorem dX0_wrongInGroup_79 : decode cX0_wrongInGroup 79 = .ok (.goto (-72), 3) := by decide +kernel
theorem dX0_wrongInGroup_82 : decode cX0_wrongInGroup 82 = .ok (.iload_n 2, 1) := by decide +kernel
theorem dX0_wrongInGroup_83 : decode cX0_wrongInGroup 83 = .ok (.iload_n 3, 1) := by decide +kernel
theorem dX0_wrongInGroup_84 : decode cX0_wrongInGroup 84 = .ok (.iconst (-1), 1) := by decide +kernel
theorem dX0_wrongInGroup_85 : decode cX0_wrongInGroup 85 = .ok (.ixor, 1) := by decide +kernel
theorem dX0_wrongInGroup_86 : decode cX0_wrongInGroup 86 = .ok (.iand, 1) := by decide +kernel
theorem dX0_wrongInGroup_87 : decode cX0_wrongInGroup 87 = .ok (.ireturn, 1) := by decide +kernel
theorem dX0_agreeingWith_0 : decode cX0_agreeingWith 0 = .ok (.iconst 0, 1) := by decide +kernel
theorem dX0_agreeingWith_1 : decode cX0_agreeingWith 1 = .ok (.istore_n 2, 1) := by decide +kernel
theorem dX0_agreeingWith_2 : decode cX0_agreeingWith 2 = .ok (.iconst 0, 1) := by decide +kernel
theorem dX0_agreeingWith_3 : decode cX0_agreeingWith 3 = .ok (.istore_n 3, 1) := by decide +kernel
theorem dX0_agreeingWith_4 : decode cX0_agreeingWith 4 = .ok (.iload_n 3, 1) := by decide +kernel
theorem dX0_agreeingWith_5 : decode cX0_agreeingWith 5 = .ok (.aload_n 0, 1) := by decide +kernel
theorem dX0_agreeingWith_6 : decode cX0_agreeingWith 6 = .ok (.getfield 27, 3) := by decide +kernel
theorem dX0_agreeingWith_9 : decode cX0_agreeingWith 9 = .ok (.getfield 49, 3) := by decide +kernel
theorem dX0_agreeingWith_12 : decode cX0_agreeingWith 12 = .ok (.if_icmp .ge 45, 3) := by decide +kernel
theorem dX0_agreeingWith_15 : decode cX0_agreeingWith 15 = .ok (.aload_n 0, 1) := by decide +kernel
theorem dX0_agreeingWith_16 : decode cX0_agreeingWith 16 = .ok (.getfield 21, 3) := by decide +kernel
theorem dX0_agreeingWith_19 : decode cX0_agreeingWith 19 = .ok (.iload_n 3, 1) := by decide +kernel
theorem dX0_agreeingWith_20 : decode cX0_agreeingWith 20 = .ok (.iaload, 1) := by decide +kernel
theorem dX0_agreeingWith_21 : decode cX0_agreeingWith 21 = .ok (.aload_n 0, 1) := by decide +kernel
theorem dX0_agreeingWith_22 : decode cX0_agreeingWith 22 = .ok (.getfield 21, 3) := by decide +kernel
theorem dX0_agreeingWith_25 : decode cX0_agreeingWith 25 = .ok (.iload_n 1, 1) := by decide +kernel
theorem dX0_agreeingWith_26 : decode cX0_agreeingWith 26 = .ok (.iaload, 1) := by decide +kernel
theorem dX0_agreeingWith_27 : decode cX0_agreeingWith 27 = .ok (.if_icmp .ne 24, 3) := by decide +kernel
theorem dX0_agreeingWith_30 : decode cX0_agreeingWith 30 = .ok (.aload_n 0, 1) := by decide +kernel
theorem dX0_agreeingWith_31 : decode cX0_agreeingWith 31 = .ok (.getfield 24, 3) := by decide +kernel
theorem dX0_agreeingWith_34 : decode cX0_agreeingWith 34 = .ok (.iload_n 3, 1) := by decide +kernel
theorem dX0_agreeingWith_35 : decode cX0_agreeingWith 35 = .ok (.iaload, 1) := by decide +kernel
theorem dX0_agreeingWith_36 : decode cX0_agreeingWith 36 = .ok (.aload_n 0, 1) := by decide +kernel
theorem dX0_agreeingWith_37 : decode cX0_agreeingWith 37 = .ok (.getfield 24, 3) := by decide +kernel
theorem dX0_agreeingWith_40 : decode cX0_agreeingWith 40 = .ok (.iload_n 1, 1) := by decide +kernel
theorem dX0_agreeingWith_41 : decode cX0_agreeingWith 41 = .ok (.iaload, 1) := by decide +kernel
theorem dX0_agreeingWith_42 : decode cX0_agreeingWith 42 = .ok (.if_icmp .ne 9, 3) := by decide +kernel
theorem dX0_agreeingWith_45 : decode cX0_agreeingWith 45 = .ok (.iload_n 2, 1) := by decide +kernel
theorem dX0_agreeingWith_46 : decode cX0_agreeingWith 46 = .ok (.iconst 1, 1) := by decide +kernel
theorem dX0_agreeingWith_47 : decode cX0_agreeingWith 47 = .ok (.iload_n 3, 1) := by decide +kernel
theorem dX0_agreeingWith_48 : decode cX0_agreeingWith 48 = .ok (.ishl, 1) := by decide +kernel
theorem dX0_agreeingWith_49 : decode cX0_agreeingWith 49 = .ok (.ior, 1) := by decide +kernel
theorem dX0_agreeingWith_50 : decode cX0_agreeingWith 50 = .ok (.istore_n 2, 1) := by decide +kernel
theorem dX0_agreeingWith_51 : decode cX0_agreeingWith 51 = .ok (.iinc 3 1, 3) := by decide +kernel
theorem dX0_agreeingWith_54 : decode cX0_agreeingWith 54 = .ok (.goto (-50), 3) := by decide +kernel
theorem dX0_agreeingWith_57 : decode cX0_agreeingWith 57 = .ok (.iload_n 2, 1) := by decide +kernel
theorem dX0_agreeingWith_58 : decode cX0_agreeingWith 58 = .ok (.ireturn, 1) := by decide +kernel
theorem dX1_init_0 : decode cX1_init 0 = .ok (.aload_n 0, 1) := by decide +kernel
theorem dX1_init_1 : decode cX1_init 1 = .ok (.invokespecial 3, 3) := by decide +kernel
theorem dX1_init_4 : decode cX1_init 4 = .ok (.aload_n 0, 1) := by decide +kernel
theorem dX1_init_5 : decode cX1_init 5 = .ok (.bipush 10, 2) := by decide +kernel
theorem dX1_init_7 : decode cX1_init 7 = .ok (.newarray .int, 2) := by decide +kernel
theorem dX1_init_9 : decode cX1_init 9 = .ok (.putfield 9, 3) := by decide +kernel
theorem dX1_init_12 : decode cX1_init 12 = .ok (.aload_n 0, 1) := by decide +kernel
theorem dX1_init_13 : decode cX1_init 13 = .ok (.bipush 10, 2) := by decide +kernel
theorem dX1_init_15 : decode cX1_init 15 = .ok (.newarray .int, 2) := by decide +kernel
theorem dX1_init_17 : decode cX1_init 17 = .ok (.putfield 15, 3) := by decide +kernel
theorem dX1_init_20 : decode cX1_init 20 = .ok (.aload_n 0, 1) := by decide +kernel
theorem dX1_init_21 : decode cX1_init 21 = .ok (.bipush 10, 2) := by decide +kernel
theorem dX1_init_23 : decode cX1_init 23 = .ok (.newarray .int, 2) := by decide +kernel
theorem dX1_init_25 : decode cX1_init 25 = .ok (.putfield 18, 3) := by decide +kernel
theorem dX1_init_28 : decode cX1_init 28 = .ok (.aload_n 0, 1) := by decide +kernel
theorem dX1_init_29 : decode cX1_init 29 = .ok (.bipush 10, 2) := by decide +kernel
theorem dX1_init_31 : decode cX1_init 31 = .ok (.newarray .int, 2) := by decide +kernel
theorem dX1_init_33 : decode cX1_init 33 = .ok (.putfield 21, 3) := by decide +kernel
theorem dX1_init_36 : decode cX1_init 36 = .ok (.aload_n 0, 1) := by decide +kernel
theorem dX1_init_37 : decode cX1_init 37 = .ok (.bipush 10, 2) := by decide +kernel
theorem dX1_init_39 : decode cX1_init 39 = .ok (.newarray .int, 2) := by decide +kernel
theorem dX1_init_41 : decode cX1_init 41 = .ok (.putfield 24, 3) := by decide +kernel
theorem dX1_init_44 : decode cX1_init 44 = .ok (.aload_n 0, 1) := by decide +kernel
theorem dX1_init_45 : decode cX1_init 45 = .ok (.aload_n 1, 1) := by decide +kernel
theorem dX1_init_46 : decode cX1_init 46 = .ok (.putfield 27, 3) := by decide +kernel
theorem dX1_init_49 : decode cX1_init 49 = .ok (.return_, 1) := by decide +kernel
theorem dX1_add_0 : decode cX1_add 0 = .ok (.aload_n 0, 1) := by decide +kernel
theorem dX1_add_1 : decode cX1_add 1 = .ok (.getfield 31, 3) := by decide +kernel
theorem dX1_add_4 : decode cX1_add 4 = .ok (.bipush 10, 2) := by decide +kernel
theorem dX1_add_6 : decode cX1_add 6 = .ok (.if_icmp .ge 43, 3) := by decide +kernel
theorem dX1_add_9 : decode cX1_add 9 = .ok (.aload_n 0, 1) := by decide +kernel
theorem dX1_add_10 : decode cX1_add 10 = .ok (.getfield 9, 3) := by decide +kernel
theorem dX1_add_13 : decode cX1_add 13 = .ok (.aload_n 0, 1) := by decide +kernel
theorem dX1_add_14 : decode cX1_add 14 = .ok (.getfield 31, 3) := by decide +kernel
theorem dX1_add_17 : decode cX1_add 17 = .ok (.iload_n 1, 1) := by decide +kernel
theorem dX1_add_18 : decode cX1_add 18 = .ok (.iastore, 1) := by decide +kernel
theorem dX1_add_19 : decode cX1_add 19 = .ok (.aload_n 0, 1) := by decide +kernel
theorem dX1_add_20 : decode cX1_add 20 = .ok (.getfield 15, 3) := by decide +kernel
theorem dX1_add_23 : decode cX1_add 23 = .ok (.aload_n 0, 1) := by decide +kernel
theorem dX1_add_24 : decode cX1_add 24 = .ok (.getfield 31, 3) := by decide +kernel
theorem dX1_add_27 : decode cX1_add 27 = .ok (.iload_n 2, 1) := by decide +kernel
theorem dX1_add_28 : decode cX1_add 28 = .ok (.iastore, 1) := by decide +kernel
theorem dX1_add_29 : decode cX1_add 29 = .ok (.aload_n 0, 1) := by decide +kernel
theorem dX1_add_30 : decode cX1_add 30 = .ok (.getfield 18, 3) := by decide +kernel
theorem dX1_add_33 : decode cX1_add 33 = .ok (.aload_n 0, 1) := by decide +kernel
theorem dX1_add_34 : decode cX1_add 34 = .ok (.getfield 31, 3) := by decide +kernel
theorem dX1_add_37 : decode cX1_add 37 = .ok (.iload_n 3, 1) := by decide +kernel
theorem dX1_add_38 : decode cX1_add 38 = .ok (.iastore, 1) := by decide +kernel
theorem dX1_add_39 : decode cX1_add 39 = .ok (.aload_n 0, 1) := by decide +kernel
theorem dX1_add_40 : decode cX1_add 40 = .ok (.dup, 1) := by decide +kernel
theorem dX1_add_41 : decode cX1_add 41 = .ok (.getfield 31, 3) := by decide +kernel
theorem dX1_add_44 : decode cX1_add 44 = .ok (.iconst 1, 1) := by decide +kernel
theorem dX1_add_45 : decode cX1_add 45 = .ok (.iadd, 1) := by decide +kernel
theorem dX1_add_46 : decode cX1_add 46 = .ok (.putfield 31, 3) := by decide +kernel
theorem dX1_add_49 : decode cX1_add 49 = .ok (.return_, 1) := by decide +kernel
theorem dX1_has_0 : decode cX1_has 0 = .ok (.iload_n 1, 1) := by decide +kernel
theorem dX1_has_1 : decode cX1_has 1 = .ok (.ifCond .lt 15, 3) := by decide +kernel
theorem dX1_has_4 : decode cX1_has 4 = .ok (.iload_n 1, 1) := by decide +kernel
theorem dX1_has_5 : decode cX1_has 5 = .ok (.aload_n 0, 1) := by decide +kernel
theorem dX1_has_6 : decode cX1_has 6 = .ok (.getfield 31, 3) := by decide +kernel
theorem dX1_has_9 : decode cX1_has 9 = .ok (.if_icmp .ge 7, 3) := by decide +kernel
theorem dX1_has_12 : decode cX1_has 12 = .ok (.iconst 1, 1) := by decide +kernel
theorem dX1_has_13 : decode cX1_has 13 = .ok (.goto 4, 3) := by decide +kernel
theorem dX1_has_16 : decode cX1_has 16 = .ok (.iconst 0, 1) := by decide +kernel
theorem dX1_has_17 : decode cX1_has 17 = .ok (.ireturn, 1) := by decide +kernel
theorem dX1_begin_0 : decode cX1_begin 0 = .ok (.aload_n 0, 1) := by decide +kernel
theorem dX1_begin_1 : decode cX1_begin 1 = .ok (.getfield 27, 3) := by decide +kernel
theorem dX1_begin_4 : decode cX1_begin 4 = .ok (.aload_n 0, 1) := by decide +kernel
theorem dX1_begin_5 : decode cX1_begin 5 = .ok (.getfield 9, 3) := by decide +kernel
theorem dX1_begin_8 : decode cX1_begin 8 = .ok (.iload_n 1, 1) := by decide +kernel
theorem dX1_begin_9 : decode cX1_begin 9 = .ok (.iaload, 1) := by decide +kernel
theorem dX1_begin_10 : decode cX1_begin 10 = .ok (.aload_n 0, 1) := by decide +kernel
theorem dX1_begin_11 : decode cX1_begin 11 = .ok (.getfield 15, 3) := by decide +kernel
theorem dX1_begin_14 : decode cX1_begin 14 = .ok (.iload_n 1, 1) := by decide +kernel
theorem dX1_begin_15 : decode cX1_begin 15 = .ok (.iaload, 1) := by decide +kernel
theorem dX1_begin_16 : decode cX1_begin 16 = .ok (.invokevirtual 35, 3) := by decide +kernel
theorem dX1_begin_19 : decode cX1_begin 19 = .ok (.ireturn, 1) := by decide +kernel
theorem dX1_settle_0 : decode cX1_settle 0 = .ok (.iconst 0, 1) := by decide +kernel
theorem dX1_settle_1 : decode cX1_settle 1 = .ok (.istore_n 1, 1) := by decide +kernel
theorem dX1_settle_2 : decode cX1_settle 2 = .ok (.iload_n 1, 1) := by decide +kernel
theorem dX1_settle_3 : decode cX1_settle 3 = .ok (.aload_n 0, 1) := by decide +kernel
theorem dX1_settle_4 : decode cX1_settle 4 = .ok (.getfield 31, 3) := by decide +kernel
theorem dX1_settle_7 : decode cX1_settle 7 = .ok (.if_icmp .ge 62, 3) := by decide +kernel
theorem dX1_settle_10 : decode cX1_settle 10 = .ok (.iload_n 1, 1) := by decide +kernel
theorem dX1_settle_11 : decode cX1_settle 11 = .ok (.istore_n 2, 1) := by decide +kernel
theorem dX1_settle_12 : decode cX1_settle 12 = .ok (.iload_n 2, 1) := by decide +kernel
theorem dX1_settle_13 : decode cX1_settle 13 = .ok (.ifCond .le 43, 3) := by decide +kernel
theorem dX1_settle_16 : decode cX1_settle 16 = .ok (.aload_n 0, 1) := by decide +kernel
theorem dX1_settle_17 : decode cX1_settle 17 = .ok (.aload_n 0, 1) := by decide +kernel
theorem dX1_settle_18 : decode cX1_settle 18 = .ok (.getfield 21, 3) := by decide +kernel
theorem dX1_settle_21 : decode cX1_settle 21 = .ok (.iload_n 2, 1) := by decide +kernel
theorem dX1_settle_22 : decode cX1_settle 22 = .ok (.iconst 1, 1) := by decide +kernel
theorem dX1_settle_23 : decode cX1_settle 23 = .ok (.isub, 1) := by decide +kernel
theorem dX1_settle_24 : decode cX1_settle 24 = .ok (.iaload, 1) := by decide +kernel
theorem dX1_settle_25 : decode cX1_settle 25 = .ok (.invokevirtual 41, 3) := by decide +kernel
theorem dX1_settle_28 : decode cX1_settle 28 = .ok (.aload_n 0, 1) := by decide +kernel
theorem dX1_settle_29 : decode cX1_settle 29 = .ok (.iload_n 1, 1) := by decide +kernel
theorem dX1_settle_30 : decode cX1_settle 30 = .ok (.invokevirtual 41, 3) := by decide +kernel
theorem dX1_settle_33 : decode cX1_settle 33 = .ok (.if_icmp .le 23, 3) := by decide +kernel
theorem dX1_settle_36 : decode cX1_settle 36 = .ok (.aload_n 0, 1) := by decide +kernel
theorem dX1_settle_37 : decode cX1_settle 37 = .ok (.getfield 21, 3) := by decide +kernel
theorem dX1_settle_40 : decode cX1_settle 40 = .ok (.iload_n 2, 1) := by decide +kernel
theorem dX1_settle_41 : decode cX1_settle 41 = .ok (.aload_n 0, 1) := by decide +kernel
theorem dX1_settle_42 : decode cX1_settle 42 = .ok (.getfield 21, 3) := by decide +kernel
theorem dX1_settle_45 : decode cX1_settle 45 = .ok (.iload_n 2, 1) := by decide +kernel
theorem dX1_settle_46 : decode cX1_settle 46 = .ok (.iconst 1, 1) := by decide +kernel
theorem dX1_settle_47 : decode cX1_settle 47 = .ok (.isub, 1) := by decide +kernel
theorem dX1_settle_48 : decode cX1_settle 48 = .ok (.iaload, 1) := by decide +kernel
theorem dX1_settle_49 : decode cX1_settle 49 = .ok (.iastore, 1) := by decide +kernel
theorem dX1_settle_50 : decode cX1_settle 50 = .ok (.iinc 2 (-1), 3) := by decide +kernel
theorem dX1_settle_53 : decode cX1_settle 53 = .ok (.goto (-41), 3) := by decide +kernel
theorem dX1_settle_56 : decode cX1_settle 56 = .ok (.aload_n 0, 1) := by decide +kernel
theorem dX1_settle_57 : decode cX1_settle 57 = .ok (.getfield 21, 3) := by decide +kernel
theorem dX1_settle_60 : decode cX1_settle 60 = .ok (.iload_n 2, 1) := by decide +kernel
theorem dX1_settle_61 : decode cX1_settle 61 = .ok (.iload_n 1, 1) := by decide +kernel
theorem dX1_settle_62 : decode cX1_settle 62 = .ok (.iastore, 1) := by decide +kernel
theorem dX1_settle_63 : decode cX1_settle 63 = .ok (.iinc 1 1, 3) := by decide +kernel
theorem dX1_settle_66 : decode cX1_settle 66 = .ok (.goto (-64), 3) := by decide +kernel
theorem dX1_settle_69 : decode cX1_settle 69 = .ok (.return_, 1) := by decide +kernel
theorem dX1_isAhead_0 : decode cX1_isAhead 0 = .ok (.aload_n 0, 1) := by decide +kernel
theorem dX1_isAhead_1 : decode cX1_isAhead 1 = .ok (.iload_n 1, 1) := by decide +kernel
theorem dX1_isAhead_2 : decode cX1_isAhead 2 = .ok (.invokevirtual 41, 3) := by decide +kernel
theorem dX1_isAhead_5 : decode cX1_isAhead 5 = .ok (.aload_n 0, 1) := by decide +kernel
theorem dX1_isAhead_6 : decode cX1_isAhead 6 = .ok (.iload_n 2, 1) := by decide +kernel
theorem dX1_isAhead_7 : decode cX1_isAhead 7 = .ok (.invokevirtual 41, 3) := by decide +kernel
theorem dX1_isAhead_10 : decode cX1_isAhead 10 = .ok (.if_icmp .lt 21, 3) := by decide +kernel
theorem dX1_isAhead_13 : decode cX1_isAhead 13 = .ok (.aload_n 0, 1) := by decide +kernel
theorem dX1_isAhead_14 : decode cX1_isAhead 14 = .ok (.iload_n 1, 1) := by decide +kernel
theorem dX1_isAhead_15 : decode cX1_isAhead 15 = .ok (.invokevirtual 41, 3) := by decide +kernel
theorem dX1_isAhead_18 : decode cX1_isAhead 18 = .ok (.aload_n 0, 1) := by decide +kernel
theorem dX1_isAhead_19 : decode cX1_isAhead 19 = .ok (.iload_n 2, 1) := by decide +kernel
theorem dX1_isAhead_20 : decode cX1_isAhead 20 = .ok (.invokevirtual 41, 3) := by decide +kernel
theorem dX1_isAhead_23 : decode cX1_isAhead 23 = .ok (.if_icmp .ne 12, 3) := by decide +kernel
theorem dX1_isAhead_26 : decode cX1_isAhead 26 = .ok (.iload_n 1, 1) := by decide +kernel
theorem dX1_isAhead_27 : decode cX1_isAhead 27 = .ok (.iload_n 2, 1) := by decide +kernel
theorem dX1_isAhead_28 : decode cX1_isAhead 28 = .ok (.if_icmp .ge 7, 3) := by decide +kernel
theorem dX1_isAhead_31 : decode cX1_isAhead 31 = .ok (.iconst 1, 1) := by decide +kernel
theorem dX1_isAhead_32 : decode cX1_isAhead 32 = .ok (.goto 4, 3) := by decide +kernel
theorem dX1_isAhead_35 : decode cX1_isAhead 35 = .ok (.iconst 0, 1) := by decide +kernel
theorem dX1_isAhead_36 : decode cX1_isAhead 36 = .ok (.ireturn, 1) := by decide +kernel
theorem dX1_minutesLeft_0 : decode cX1_minutesLeft 0 = .ok (.aload_n 0, 1) := by decide +kernel
theorem dX1_minutesLeft_1 : decode cX1_minutesLeft 1 = .ok (.iload_n 2, 1) := by decide +kernel
theorem dX1_minutesLeft_2 : decode cX1_minutesLeft 2 = .ok (.invokevirtual 41, 3) := by decide +kernel
theorem dX1_minutesLeft_5 : decode cX1_minutesLeft 5 = .ok (.aload_n 0, 1) := by decide +kernel
theorem dX1_minutesLeft_6 : decode cX1_minutesLeft 6 = .ok (.iload_n 1, 1) := by decide +kernel
theorem dX1_minutesLeft_7 : decode cX1_minutesLeft 7 = .ok (.invokevirtual 41, 3) := by decide +kernel
theorem dX1_minutesLeft_10 : decode cX1_minutesLeft 10 = .ok (.aload_n 0, 1) := by decide +kernel
theorem dX1_minutesLeft_11 : decode cX1_minutesLeft 11 = .ok (.getfield 18, 3) := by decide +kernel
theorem dX1_minutesLeft_14 : decode cX1_minutesLeft 14 = .ok (.iload_n 1, 1) := by decide +kernel
theorem dX1_minutesLeft_15 : decode cX1_minutesLeft 15 = .ok (.iaload, 1) := by decide +kernel
theorem dX1_minutesLeft_16 : decode cX1_minutesLeft 16 = .ok (.iadd, 1) := by decide +kernel
theorem dX1_minutesLeft_17 : decode cX1_minutesLeft 17 = .ok (.aload_n 0, 1) := by decide +kernel
theorem dX1_minutesLeft_18 : decode cX1_minutesLeft 18 = .ok (.getfield 27, 3) := by decide +kernel
theorem dX1_minutesLeft_21 : decode cX1_minutesLeft 21 = .ok (.aload_n 0, 1) := by decide +kernel
theorem dX1_minutesLeft_22 : decode cX1_minutesLeft 22 = .ok (.getfield 9, 3) := by decide +kernel
theorem dX1_minutesLeft_25 : decode cX1_minutesLeft 25 = .ok (.iload_n 1, 1) := by decide +kernel
theorem dX1_minutesLeft_26 : decode cX1_minutesLeft 26 = .ok (.iaload, 1) := by decide +kernel
theorem dX1_minutesLeft_27 : decode cX1_minutesLeft 27 = .ok (.aload_n 0, 1) := by decide +kernel
theorem dX1_minutesLeft_28 : decode cX1_minutesLeft 28 = .ok (.getfield 9, 3) := by decide +kernel
theorem dX1_minutesLeft_31 : decode cX1_minutesLeft 31 = .ok (.iload_n 2, 1) := by decide +kernel
theorem dX1_minutesLeft_32 : decode cX1_minutesLeft 32 = .ok (.iaload, 1) := by decide +kernel
theorem dX1_minutesLeft_33 : decode cX1_minutesLeft 33 = .ok (.invokevirtual 45, 3) := by decide +kernel
theorem dX1_minutesLeft_36 : decode cX1_minutesLeft 36 = .ok (.iadd, 1) := by decide +kernel
theorem dX1_minutesLeft_37 : decode cX1_minutesLeft 37 = .ok (.isub, 1) := by decide +kernel
theorem dX1_minutesLeft_38 : decode cX1_minutesLeft 38 = .ok (.ireturn, 1) := by decide +kernel
theorem dX1_canFollow_0 : decode cX1_canFollow 0 = .ok (.aload_n 0, 1) := by decide +kernel
theorem dX1_canFollow_1 : decode cX1_canFollow 1 = .ok (.iload_n 1, 1) := by decide +kernel
theorem dX1_canFollow_2 : decode cX1_canFollow 2 = .ok (.iload_n 2, 1) := by decide +kernel
theorem dX1_canFollow_3 : decode cX1_canFollow 3 = .ok (.invokevirtual 48, 3) := by decide +kernel
theorem dX1_canFollow_6 : decode cX1_canFollow 6 = .ok (.ifCond .eq 16, 3) := by decide +kernel
theorem dX1_canFollow_9 : decode cX1_canFollow 9 = .ok (.aload_n 0, 1) := by decide +kernel
theorem dX1_canFollow_10 : decode cX1_canFollow 10 = .ok (.iload_n 1, 1) := by decide +kernel
theorem dX1_canFollow_11 : decode cX1_canFollow 11 = .ok (.iload_n 2, 1) := by decide +kernel
theorem dX1_canFollow_12 : decode cX1_canFollow 12 = .ok (.invokevirtual 52, 3) := by decide +kernel
theorem dX1_canFollow_15 : decode cX1_canFollow 15 = .ok (.ifCond .lt 7, 3) := by decide +kernel
theorem dX1_canFollow_18 : decode cX1_canFollow 18 = .ok (.iconst 1, 1) := by decide +kernel
theorem dX1_canFollow_19 : decode cX1_canFollow 19 = .ok (.goto 4, 3) := by decide +kernel
theorem dX1_canFollow_22 : decode cX1_canFollow 22 = .ok (.iconst 0, 1) := by decide +kernel
theorem dX1_canFollow_23 : decode cX1_canFollow 23 = .ok (.ireturn, 1) := by decide +kernel
theorem dX1_measureRows_0 : decode cX1_measureRows 0 = .ok (.aload_n 0, 1) := by decide +kernel
theorem dX1_measureRows_1 : decode cX1_measureRows 1 = .ok (.getfield 31, 3) := by decide +kernel
theorem dX1_measureRows_4 : decode cX1_measureRows 4 = .ok (.iconst 1, 1) := by decide +kernel
theorem dX1_measureRows_5 : decode cX1_measureRows 5 = .ok (.isub, 1) := by decide +kernel
theorem dX1_measureRows_6 : decode cX1_measureRows 6 = .ok (.istore_n 2, 1) := by decide +kernel
theorem dX1_measureRows_7 : decode cX1_measureRows 7 = .ok (.iload_n 2, 1) := by decide +kernel
theorem dX1_measureRows_8 : decode cX1_measureRows 8 = .ok (.ifCond .lt 114, 3) := by decide +kernel
theorem dX1_measureRows_11 : decode cX1_measureRows 11 = .ok (.aload_n 0, 1) := by decide +kernel
theorem dX1_measureRows_12 : decode cX1_measureRows 12 = .ok (.getfield 21, 3) := by decide +kernel
theorem dX1_measureRows_15 : decode cX1_measureRows 15 = .ok (.iload_n 2, 1) := by decide +kernel
theorem dX1_measureRows_16 : decode cX1_measureRows 16 = .ok (.iaload, 1) := by decide +kernel
theorem dX1_measureRows_17 : decode cX1_measureRows 17 = .ok (.istore_n 3, 1) := by decide +kernel
theorem dX1_measureRows_18 : decode cX1_measureRows 18 = .ok (.iconst 0, 1) := by decide +kernel
theorem dX1_measureRows_19 : decode cX1_measureRows 19 = .ok (.istore 4, 2) := by decide +kernel
theorem dX1_measureRows_21 : decode cX1_measureRows 21 = .ok (.iload_n 2, 1) := by decide +kernel
theorem dX1_measureRows_22 : decode cX1_measureRows 22 = .ok (.iconst 1, 1) := by decide +kernel
theorem dX1_measureRows_23 : decode cX1_measureRows 23 = .ok (.iadd, 1) := by decide +kernel
theorem dX1_measureRows_24 : decode cX1_measureRows 24 = .ok (.istore 5, 2) := by decide +kernel
theorem dX1_measureRows_26 : decode cX1_measureRows 26 = .ok (.iload 5, 2) := by decide +kernel
theorem dX1_measureRows_28 : decode cX1_measureRows 28 = .ok (.aload_n 0, 1) := by decide +kernel
theorem dX1_measureRows_29 : decode cX1_measureRows 29 = .ok (.getfield 31, 3) := by decide +kernel
theorem dX1_measureRows_32 : decode cX1_measureRows 32 = .ok (.if_icmp .ge 43, 3) := by decide +kernel
theorem dX1_measureRows_35 : decode cX1_measureRows 35 = .ok (.aload_n 0, 1) := by decide +kernel
theorem dX1_measureRows_36 : decode cX1_measureRows 36 = .ok (.iload_n 3, 1) := by decide +kernel
theorem dX1_measureRows_37 : decode cX1_measureRows 37 = .ok (.aload_n 0, 1) := by decide +kernel
theorem dX1_measureRows_38 : decode cX1_measureRows 38 = .ok (.getfield 21, 3) := by decide +kernel
theorem dX1_measureRows_41 : decode cX1_measureRows 41 = .ok (.iload 5, 2) := by decide +kernel
theorem dX1_measureRows_43 : decode cX1_measureRows 43 = .ok (.iaload, 1) := by decide +kernel
theorem dX1_measureRows_44 : decode cX1_measureRows 44 = .ok (.invokevirtual 55, 3) := by decide +kernel
theorem dX1_measureRows_47 : decode cX1_measureRows 47 = .ok (.ifCond .eq 22, 3) := by decide +kernel
theorem dX1_measureRows_50 : decode cX1_measureRows 50 = .ok (.iload 4, 2) := by decide +kernel
theorem dX1_measureRows_52 : decode cX1_measureRows 52 = .ok (.aload_n 0, 1) := by decide +kernel
theorem dX1_measureRows_53 : decode cX1_measureRows 53 = .ok (.getfield 24, 3) := by decide +kernel
theorem dX1_measureRows_56 : decode cX1_measureRows 56 = .ok (.aload_n 0, 1) := by decide +kernel
theorem dX1_measureRows_57 : decode cX1_measureRows 57 = .ok (.getfield 21, 3) := by decide +kernel
theorem dX1_measureRows_60 : decode cX1_measureRows 60 = .ok (.iload 5, 2) := by decide +kernel
theorem dX1_measureRows_62 : decode cX1_measureRows 62 = .ok (.iaload, 1) := by decide +kernel
theorem dX1_measureRows_63 : decode cX1_measureRows 63 = .ok (.iaload, 1) := by decide +kernel
theorem dX1_measureRows_64 : decode cX1_measureRows 64 = .ok (.invokestatic 58, 3) := by decide +kernel
theorem dX1_measureRows_67 : decode cX1_measureRows 67 = .ok (.istore 4, 2) := by decide +kernel
theorem dX1_measureRows_69 : decode cX1_measureRows 69 = .ok (.iinc 5 1, 3) := by decide +kernel
theorem dX1_measureRows_72 : decode cX1_measureRows 72 = .ok (.goto (-46), 3) := by decide +kernel
theorem dX1_measureRows_75 : decode cX1_measureRows 75 = .ok (.iload_n 1, 1) := by decide +kernel
theorem dX1_measureRows_76 : decode cX1_measureRows 76 = .ok (.iconst (-1), 1) := by decide +kernel
theorem dX1_measureRows_77 : decode cX1_measureRows 77 = .ok (.if_icmp .eq 8, 3) := by decide +kernel
theorem dX1_measureRows_80 : decode cX1_measureRows 80 = .ok (.iload_n 1, 1) := by decide +kernel
theorem dX1_measureRows_81 : decode cX1_measureRows 81 = .ok (.iload_n 3, 1) := by decide +kernel
theorem dX1_measureRows_82 : decode cX1_measureRows 82 = .ok (.if_icmp .ne 7, 3) := by decide +kernel
theorem dX1_measureRows_85 : decode cX1_measureRows 85 = .ok (.iconst 1, 1) := by decide +kernel
theorem dX1_measureRows_86 : decode cX1_measureRows 86 = .ok (.goto 4, 3) := by decide +kernel
theorem dX1_measureRows_89 : decode cX1_measureRows 89 = .ok (.iconst 0, 1) := by decide +kernel
theorem dX1_measureRows_90 : decode cX1_measureRows 90 = .ok (.istore 5, 2) := by decide +kernel
theorem dX1_measureRows_92 : decode cX1_measureRows 92 = .ok (.aload_n 0, 1) := by decide +kernel
theorem dX1_measureRows_93 : decode cX1_measureRows 93 = .ok (.getfield 24, 3) := by decide +kernel
theorem dX1_measureRows_96 : decode cX1_measureRows 96 = .ok (.iload_n 3, 1) := by decide +kernel
theorem dX1_measureRows_97 : decode cX1_measureRows 97 = .ok (.iload 4, 2) := by decide +kernel
theorem dX1_measureRows_99 : decode cX1_measureRows 99 = .ok (.ifCond .gt 8, 3) := by decide +kernel
theorem dX1_measureRows_102 : decode cX1_measureRows 102 = .ok (.iload 5, 2) := by decide +kernel
theorem dX1_measureRows_104 : decode cX1_measureRows 104 = .ok (.ifCond .eq 10, 3) := by decide +kernel
theorem dX1_measureRows_107 : decode cX1_measureRows 107 = .ok (.iload 4, 2) := by decide +kernel
theorem dX1_measureRows_109 : decode cX1_measureRows 109 = .ok (.iconst 1, 1) := by decide +kernel
theorem dX1_measureRows_110 : decode cX1_measureRows 110 = .ok (.iadd, 1) := by decide +kernel
theorem dX1_measureRows_111 : decode cX1_measureRows 111 = .ok (.goto 4, 3) := by decide +kernel
theorem dX1_measureRows_114 : decode cX1_measureRows 114 = .ok (.iconst 0, 1) := by decide +kernel
theorem dX1_measureRows_115 : decode cX1_measureRows 115 = .ok (.iastore, 1) := by decide +kernel
theorem dX1_measureRows_116 : decode cX1_measureRows 116 = .ok (.iinc 2 (-1), 3) := by decide +kernel
theorem dX1_measureRows_119 : decode cX1_measureRows 119 = .ok (.goto (-112), 3) := by decide +kernel
theorem dX1_measureRows_122 : decode cX1_measureRows 122 = .ok (.return_, 1) := by decide +kernel
theorem dX1_longestRow_0 : decode cX1_longestRow 0 = .ok (.iconst 0, 1) := by decide +kernel
theorem dX1_longestRow_1 : decode cX1_longestRow 1 = .ok (.istore_n 1, 1) := by decide +kernel
theorem dX1_longestRow_2 : decode cX1_longestRow 2 = .ok (.iconst 0, 1) := by decide +kernel
theorem dX1_longestRow_3 : decode cX1_longestRow 3 = .ok (.istore_n 2, 1) := by decide +kernel
theorem dX1_longestRow_4 : decode cX1_longestRow 4 = .ok (.iload_n 2, 1) := by decide +kernel
theorem dX1_longestRow_5 : decode cX1_longestRow 5 = .ok (.aload_n 0, 1) := by decide +kernel
theorem dX1_longestRow_6 : decode cX1_longestRow 6 = .ok (.getfield 31, 3) := by decide +kernel
theorem dX1_longestRow_9 : decode cX1_longestRow 9 = .ok (.if_icmp .ge 20, 3) := by decide +kernel
theorem dX1_longestRow_12 : decode cX1_longestRow 12 = .ok (.iload_n 1, 1) := by decide +kernel
theorem dX1_longestRow_13 : decode cX1_longestRow 13 = .ok (.aload_n 0, 1) := by decide +kernel
theorem dX1_longestRow_14 : decode cX1_longestRow 14 = .ok (.getfield 24, 3) := by decide +kernel
theorem dX1_longestRow_17 : decode cX1_longestRow 17 = .ok (.iload_n 2, 1) := by decide +kernel
theorem dX1_longestRow_18 : decode cX1_longestRow 18 = .ok (.iaload, 1) := by decide +kernel
theorem dX1_longestRow_19 : decode cX1_longestRow 19 = .ok (.invokestatic 58, 3) := by decide +kernel
theorem dX1_longestRow_22 : decode cX1_longestRow 22 = .ok (.istore_n 1, 1) := by decide +kernel
theorem dX1_longestRow_23 : decode cX1_longestRow 23 = .ok (.iinc 2 1, 3) := by decide +kernel
theorem dX1_longestRow_26 : decode cX1_longestRow 26 = .ok (.goto (-22), 3) := by decide +kernel
theorem dX1_longestRow_29 : decode cX1_longestRow 29 = .ok (.iload_n 1, 1) := by decide +kernel
theorem dX1_longestRow_30 : decode cX1_longestRow 30 = .ok (.ireturn, 1) := by decide +kernel
theorem dX1_inLongestRow_0 : decode cX1_inLongestRow 0 = .ok (.aload_n 0, 1) := by decide +kernel
theorem dX1_inLongestRow_1 : decode cX1_inLongestRow 1 = .ok (.invokevirtual 63, 3) := by decide +kernel
theorem dX1_inLongestRow_4 : decode cX1_inLongestRow 4 = .ok (.istore_n 2, 1) := by decide +kernel
theorem dX1_inLongestRow_5 : decode cX1_inLongestRow 5 = .ok (.iload_n 1, 1) := by decide +kernel
theorem dX1_inLongestRow_6 : decode cX1_inLongestRow 6 = .ok (.iload_n 2, 1) := by decide +kernel
theorem dX1_inLongestRow_7 : decode cX1_inLongestRow 7 = .ok (.if_icmp .lt 5, 3) := by decide +kernel
theorem dX1_inLongestRow_10 : decode cX1_inLongestRow 10 = .ok (.iconst (-1), 1) := by decide +kernel
theorem dX1_inLongestRow_11 : decode cX1_inLongestRow 11 = .ok (.ireturn, 1) := by decide +kernel
theorem dX1_inLongestRow_12 : decode cX1_inLongestRow 12 = .ok (.iconst (-1), 1) := by decide +kernel
theorem dX1_inLongestRow_13 : decode cX1_inLongestRow 13 = .ok (.istore_n 3, 1) := by decide +kernel
theorem dX1_inLongestRow_14 : decode cX1_inLongestRow 14 = .ok (.iconst 0, 1) := by decide +kernel
theorem dX1_inLongestRow_15 : decode cX1_inLongestRow 15 = .ok (.istore 4, 2) := by decide +kernel
theorem dX1_inLongestRow_17 : decode cX1_inLongestRow 17 = .ok (.iload 4, 2) := by decide +kernel
theorem dX1_inLongestRow_19 : decode cX1_inLongestRow 19 = .ok (.iload_n 1, 1) := by decide +kernel
theorem dX1_inLongestRow_20 : decode cX1_inLongestRow 20 = .ok (.if_icmp .gt 19, 3) := by decide +kernel
theorem dX1_inLongestRow_23 : decode cX1_inLongestRow 23 = .ok (.aload_n 0, 1) := by decide +kernel
theorem dX1_inLongestRow_24 : decode cX1_inLongestRow 24 = .ok (.iload_n 3, 1) := by decide +kernel
theorem dX1_inLongestRow_25 : decode cX1_inLongestRow 25 = .ok (.iload_n 2, 1) := by decide +kernel
theorem dX1_inLongestRow_26 : decode cX1_inLongestRow 26 = .ok (.iload 4, 2) := by decide +kernel
theorem dX1_inLongestRow_28 : decode cX1_inLongestRow 28 = .ok (.isub, 1) := by decide +kernel
theorem dX1_inLongestRow_29 : decode cX1_inLongestRow 29 = .ok (.invokevirtual 67, 3) := by decide +kernel
theorem dX1_inLongestRow_32 : decode cX1_inLongestRow 32 = .ok (.istore_n 3, 1) := by decide +kernel
theorem dX1_inLongestRow_33 : decode cX1_inLongestRow 33 = .ok (.iinc 4 1, 3) := by decide +kernel
theorem dX1_inLongestRow_36 : decode cX1_inLongestRow 36 = .ok (.goto (-19), 3) := by decide +kernel
theorem dX1_inLongestRow_39 : decode cX1_inLongestRow 39 = .ok (.iload_n 3, 1) := by decide +kernel
theorem dX1_inLongestRow_40 : decode cX1_inLongestRow 40 = .ok (.ireturn, 1) := by decide +kernel
theorem dX1_leastFrom_0 : decode cX1_leastFrom 0 = .ok (.iconst 0, 1) := by decide +kernel
theorem dX1_leastFrom_1 : decode cX1_leastFrom 1 = .ok (.istore_n 3, 1) := by decide +kernel
theorem dX1_leastFrom_2 : decode cX1_leastFrom 2 = .ok (.iload_n 3, 1) := by decide +kernel
theorem dX1_leastFrom_3 : decode cX1_leastFrom 3 = .ok (.aload_n 0, 1) := by decide +kernel
theorem dX1_leastFrom_4 : decode cX1_leastFrom 4 = .ok (.getfield 31, 3) := by decide +kernel
theorem dX1_leastFrom_7 : decode cX1_leastFrom 7 = .ok (.if_icmp .ge 38, 3) := by decide +kernel
theorem dX1_leastFrom_10 : decode cX1_leastFrom 10 = .ok (.aload_n 0, 1) := by decide +kernel
theorem dX1_leastFrom_11 : decode cX1_leastFrom 11 = .ok (.getfield 24, 3) := by decide +kernel
theorem dX1_leastFrom_14 : decode cX1_leastFrom 14 = .ok (.iload_n 3, 1) := by decide +kernel
theorem dX1_leastFrom_15 : decode cX1_leastFrom 15 = .ok (.iaload, 1) := by decide +kernel
theorem dX1_leastFrom_16 : decode cX1_leastFrom 16 = .ok (.iload_n 2, 1) := by decide +kernel
theorem dX1_leastFrom_17 : decode cX1_leastFrom 17 = .ok (.if_icmp .ne 22, 3) := by decide +kernel
theorem dX1_leastFrom_20 : decode cX1_leastFrom 20 = .ok (.aload_n 0, 1) := by decide +kernel
theorem dX1_leastFrom_21 : decode cX1_leastFrom 21 = .ok (.iload_n 1, 1) := by decide +kernel
theorem dX1_leastFrom_22 : decode cX1_leastFrom 22 = .ok (.invokevirtual 70, 3) := by decide +kernel
theorem dX1_leastFrom_25 : decode cX1_leastFrom 25 = .ok (.ifCond .eq 12, 3) := by decide +kernel
theorem dX1_leastFrom_28 : decode cX1_leastFrom 28 = .ok (.aload_n 0, 1) := by decide +kernel
theorem dX1_leastFrom_29 : decode cX1_leastFrom 29 = .ok (.iload_n 1, 1) := by decide +kernel
theorem dX1_leastFrom_30 : decode cX1_leastFrom 30 = .ok (.iload_n 3, 1) := by decide +kernel
theorem dX1_leastFrom_31 : decode cX1_leastFrom 31 = .ok (.invokevirtual 55, 3) := by decide +kernel
theorem dX1_leastFrom_34 : decode cX1_leastFrom 34 = .ok (.ifCond .eq 5, 3) := by decide +kernel
theorem dX1_leastFrom_37 : decode cX1_leastFrom 37 = .ok (.iload_n 3, 1) := by decide +kernel
theorem dX1_leastFrom_38 : decode cX1_leastFrom 38 = .ok (.ireturn, 1) := by decide +kernel
theorem dX1_leastFrom_39 : decode cX1_leastFrom 39 = .ok (.iinc 3 1, 3) := by decide +kernel
theorem dX1_leastFrom_42 : decode cX1_leastFrom 42 = .ok (.goto (-40), 3) := by decide +kernel
theorem dX1_leastFrom_45 : decode cX1_leastFrom 45 = .ok (.iconst (-1), 1) := by decide +kernel
theorem dX1_leastFrom_46 : decode cX1_leastFrom 46 = .ok (.ireturn, 1) := by decide +kernel
theorem dX1_changeBy_0 : decode cX1_changeBy 0 = .ok (.iconst 0, 1) := by decide +kernel
theorem dX1_changeBy_1 : decode cX1_changeBy 1 = .ok (.istore_n 2, 1) := by decide +kernel
theorem dX1_changeBy_2 : decode cX1_changeBy 2 = .ok (.iconst 0, 1) := by decide +kernel
theorem dX1_changeBy_3 : decode cX1_changeBy 3 = .ok (.istore_n 3, 1) := by decide +kernel
theorem dX1_changeBy_4 : decode cX1_changeBy 4 = .ok (.iload_n 3, 1) := by decide +kernel
theorem dX1_changeBy_5 : decode cX1_changeBy 5 = .ok (.aload_n 0, 1) := by decide +kernel
theorem dX1_changeBy_6 : decode cX1_changeBy 6 = .ok (.getfield 31, 3) := by decide +kernel
theorem dX1_changeBy_9 : decode cX1_changeBy 9 = .ok (.if_icmp .ge 39, 3) := by decide +kernel
theorem dX1_changeBy_12 : decode cX1_changeBy 12 = .ok (.iload_n 2, 1) := by decide +kernel
theorem dX1_changeBy_13 : decode cX1_changeBy 13 = .ok (.aload_n 0, 1) := by decide +kernel
theorem dX1_changeBy_14 : decode cX1_changeBy 14 = .ok (.getfield 27, 3) := by decide +kernel
theorem dX1_changeBy_17 : decode cX1_changeBy 17 = .ok (.getfield 74, 3) := by decide +kernel
theorem dX1_changeBy_20 : decode cX1_changeBy 20 = .ok (.iload_n 1, 1) := by decide +kernel
theorem dX1_changeBy_21 : decode cX1_changeBy 21 = .ok (.iaload, 1) := by decide +kernel
theorem dX1_changeBy_22 : decode cX1_changeBy 22 = .ok (.aload_n 0, 1) := by decide +kernel
theorem dX1_changeBy_23 : decode cX1_changeBy 23 = .ok (.getfield 27, 3) := by decide +kernel
theorem dX1_changeBy_26 : decode cX1_changeBy 26 = .ok (.getfield 74, 3) := by decide +kernel
theorem dX1_changeBy_29 : decode cX1_changeBy 29 = .ok (.aload_n 0, 1) := by decide +kernel
theorem dX1_changeBy_30 : decode cX1_changeBy 30 = .ok (.getfield 9, 3) := by decide +kernel
theorem dX1_changeBy_33 : decode cX1_changeBy 33 = .ok (.iload_n 3, 1) := by decide +kernel
theorem dX1_changeBy_34 : decode cX1_changeBy 34 = .ok (.iaload, 1) := by decide +kernel
theorem dX1_changeBy_35 : decode cX1_changeBy 35 = .ok (.iaload, 1) := by decide +kernel
theorem dX1_changeBy_36 : decode cX1_changeBy 36 = .ok (.isub, 1) := by decide +kernel
theorem dX1_changeBy_37 : decode cX1_changeBy 37 = .ok (.invokestatic 77, 3) := by decide +kernel
theorem dX1_changeBy_40 : decode cX1_changeBy 40 = .ok (.iadd, 1) := by decide +kernel
theorem dX1_changeBy_41 : decode cX1_changeBy 41 = .ok (.istore_n 2, 1) := by decide +kernel
theorem dX1_changeBy_42 : decode cX1_changeBy 42 = .ok (.iinc 3 1, 3) := by decide +kernel
theorem dX1_changeBy_45 : decode cX1_changeBy 45 = .ok (.goto (-41), 3) := by decide +kernel
theorem dX1_changeBy_48 : decode cX1_changeBy 48 = .ok (.iload_n 2, 1) := by decide +kernel
theorem dX1_changeBy_49 : decode cX1_changeBy 49 = .ok (.ireturn, 1) := by decide +kernel
theorem dX1_houseOfLeastChange_0 : decode cX1_houseOfLeastChange 0 = .ok (.iconst 0, 1) := by decide +kernel
theorem dX1_houseOfLeastChange_1 : decode cX1_houseOfLeastChange 1 = .ok (.istore_n 1, 1) := by decide +kernel
theorem dX1_houseOfLeastChange_2 : decode cX1_houseOfLeastChange 2 = .ok (.iconst 1, 1) := by decide +kernel
theorem dX1_houseOfLeastChange_3 : decode cX1_houseOfLeastChange 3 = .ok (.istore_n 2, 1) := by decide +kernel
theorem dX1_houseOfLeastChange_4 : decode cX1_houseOfLeastChange 4 = .ok (.iload_n 2, 1) := by decide +kernel
theorem dX1_houseOfLeastChange_5 : decode cX1_houseOfLeastChange 5 = .ok (.aload_n 0, 1) := by decide +kernel
theorem dX1_houseOfLeastChange_6 : decode cX1_houseOfLeastChange 6 = .ok (.getfield 27, 3) := by decide +kernel
theorem dX1_houseOfLeastChange_9 : decode cX1_houseOfLeastChange 9 = .ok (.getfield 80, 3) := by decide +kernel
theorem dX1_houseOfLeastChange_12 : decode cX1_houseOfLeastChange 12 = .ok (.if_icmp .ge 24, 3) := by decide +kernel
theorem dX1_houseOfLeastChange_15 : decode cX1_houseOfLeastChange 15 = .ok (.aload_n 0, 1) := by decide +kernel
theorem dX1_houseOfLeastChange_16 : decode cX1_houseOfLeastChange 16 = .ok (.iload_n 2, 1) := by decide +kernel
theorem dX1_houseOfLeastChange_17 : decode cX1_houseOfLeastChange 17 = .ok (.invokevirtual 81, 3) := by decide +kernel
theorem dX1_houseOfLeastChange_20 : decode cX1_houseOfLeastChange 20 = .ok (.aload_n 0, 1) := by decide +kernel
theorem dX1_houseOfLeastChange_21 : decode cX1_houseOfLeastChange 21 = .ok (.iload_n 1, 1) := by decide +kernel
theorem dX1_houseOfLeastChange_22 : decode cX1_houseOfLeastChange 22 = .ok (.invokevirtual 81, 3) := by decide +kernel
theorem dX1_houseOfLeastChange_25 : decode cX1_houseOfLeastChange 25 = .ok (.if_icmp .ge 5, 3) := by decide +kernel
theorem dX1_houseOfLeastChange_28 : decode cX1_houseOfLeastChange 28 = .ok (.iload_n 2, 1) := by decide +kernel
theorem dX1_houseOfLeastChange_29 : decode cX1_houseOfLeastChange 29 = .ok (.istore_n 1, 1) := by decide +kernel
theorem dX1_houseOfLeastChange_30 : decode cX1_houseOfLeastChange 30 = .ok (.iinc 2 1, 3) := by decide +kernel
theorem dX1_houseOfLeastChange_33 : decode cX1_houseOfLeastChange 33 = .ok (.goto (-29), 3) := by decide +kernel
theorem dX1_houseOfLeastChange_36 : decode cX1_houseOfLeastChange 36 = .ok (.iload_n 1, 1) := by decide +kernel
theorem dX1_houseOfLeastChange_37 : decode cX1_houseOfLeastChange 37 = .ok (.ireturn, 1) := by decide +kernel
theorem dX2_init_0 : decode cX2_init 0 = .ok (.aload_n 0, 1) := by decide +kernel
theorem dX2_init_1 : decode cX2_init 1 = .ok (.invokespecial 3, 3) := by decide +kernel
theorem dX2_init_4 : decode cX2_init 4 = .ok (.aload_n 0, 1) := by decide +kernel
theorem dX2_init_5 : decode cX2_init 5 = .ok (.bipush 10, 2) := by decide +kernel
theorem dX2_init_7 : decode cX2_init 7 = .ok (.newarray .int, 2) := by decide +kernel
theorem dX2_init_9 : decode cX2_init 9 = .ok (.putfield 9, 3) := by decide +kernel
theorem dX2_init_12 : decode cX2_init 12 = .ok (.aload_n 0, 1) := by decide +kernel
theorem dX2_init_13 : decode cX2_init 13 = .ok (.bipush 10, 2) := by decide +kernel
theorem dX2_init_15 : decode cX2_init 15 = .ok (.newarray .int, 2) := by decide +kernel
theorem dX2_init_17 : decode cX2_init 17 = .ok (.putfield 15, 3) := by decide +kernel
theorem dX2_init_20 : decode cX2_init 20 = .ok (.aload_n 0, 1) := by decide +kernel
theorem dX2_init_21 : decode cX2_init 21 = .ok (.bipush 10, 2) := by decide +kernel
theorem dX2_init_23 : decode cX2_init 23 = .ok (.newarray .int, 2) := by decide +kernel
theorem dX2_init_25 : decode cX2_init 25 = .ok (.putfield 18, 3) := by decide +kernel
theorem dX2_init_28 : decode cX2_init 28 = .ok (.aload_n 0, 1) := by decide +kernel
theorem dX2_init_29 : decode cX2_init 29 = .ok (.bipush 8, 2) := by decide +kernel
theorem dX2_init_31 : decode cX2_init 31 = .ok (.newarray .int, 2) := by decide +kernel
theorem dX2_init_33 : decode cX2_init 33 = .ok (.putfield 21, 3) := by decide +kernel
theorem dX2_init_36 : decode cX2_init 36 = .ok (.aload_n 0, 1) := by decide +kernel
theorem dX2_init_37 : decode cX2_init 37 = .ok (.bipush 8, 2) := by decide +kernel
theorem dX2_init_39 : decode cX2_init 39 = .ok (.newarray .int, 2) := by decide +kernel
theorem dX2_init_41 : decode cX2_init 41 = .ok (.putfield 24, 3) := by decide +kernel
theorem dX2_init_44 : decode cX2_init 44 = .ok (.aload_n 0, 1) := by decide +kernel
theorem dX2_init_45 : decode cX2_init 45 = .ok (.bipush 8, 2) := by decide +kernel
theorem dX2_init_47 : decode cX2_init 47 = .ok (.newarray .int, 2) := by decide +kernel
theorem dX2_init_49 : decode cX2_init 49 = .ok (.putfield 27, 3) := by decide +kernel
theorem dX2_init_52 : decode cX2_init 52 = .ok (.aload_n 0, 1) := by decide +kernel
theorem dX2_init_53 : decode cX2_init 53 = .ok (.bipush 10, 2) := by decide +kernel
theorem dX2_init_55 : decode cX2_init 55 = .ok (.bipush 10, 2) := by decide +kernel
theorem dX2_init_57 : decode cX2_init 57 = .ok (.multianewarray 30 2, 4) := by decide +kernel
theorem dX2_init_61 : decode cX2_init 61 = .ok (.putfield 32, 3) := by decide +kernel
theorem dX2_init_64 : decode cX2_init 64 = .ok (.aload_n 0, 1) := by decide +kernel
theorem dX2_init_65 : decode cX2_init 65 = .ok (.iconst 4, 1) := by decide +kernel
theorem dX2_init_66 : decode cX2_init 66 = .ok (.invokevirtual 35, 3) := by decide +kernel
theorem dX2_init_69 : decode cX2_init 69 = .ok (.aload_n 0, 1) := by decide +kernel
theorem dX2_init_70 : decode cX2_init 70 = .ok (.invokevirtual 39, 3) := by decide +kernel
theorem dX2_init_73 : decode cX2_init 73 = .ok (.return_, 1) := by decide +kernel
theorem dX2_restart_0 : decode cX2_restart 0 = .ok (.aload_n 0, 1) := by decide +kernel
theorem dX2_restart_1 : decode cX2_restart 1 = .ok (.iload_n 1, 1) := by decide +kernel
theorem dX2_restart_2 : decode cX2_restart 2 = .ok (.putfield 42, 3) := by decide +kernel
theorem dX2_restart_5 : decode cX2_restart 5 = .ok (.aload_n 0, 1) := by decide +kernel
theorem dX2_restart_6 : decode cX2_restart 6 = .ok (.iconst 0, 1) := by decide +kernel
theorem dX2_restart_7 : decode cX2_restart 7 = .ok (.putfield 46, 3) := by decide +kernel
theorem dX2_restart_10 : decode cX2_restart 10 = .ok (.iconst 0, 1) := by decide +kernel
theorem dX2_restart_11 : decode cX2_restart 11 = .ok (.istore_n 2, 1) := by decide +kernel
theorem dX2_restart_12 : decode cX2_restart 12 = .ok (.iload_n 2, 1) := by decide +kernel
theorem dX2_restart_13 : decode cX2_restart 13 = .ok (.bipush 10, 2) := by decide +kernel
theorem dX2_restart_15 : decode cX2_restart 15 = .ok (.if_icmp .ge 31, 3) := by decide +kernel
theorem dX2_restart_18 : decode cX2_restart 18 = .ok (.aload_n 0, 1) := by decide +kernel
theorem dX2_restart_19 : decode cX2_restart 19 = .ok (.getfield 15, 3) := by decide +kernel
theorem dX2_restart_22 : decode cX2_restart 22 = .ok (.iload_n 2, 1) := by decide +kernel
theorem dX2_restart_23 : decode cX2_restart 23 = .ok (.iload_n 2, 1) := by decide +kernel
theorem dX2_restart_24 : decode cX2_restart 24 = .ok (.ifCond .ne 7, 3) := by decide +kernel
theorem dX2_restart_27 : decode cX2_restart 27 = .ok (.iconst 0, 1) := by decide +kernel
theorem dX2_restart_28 : decode cX2_restart 28 = .ok (.goto 4, 3) := by decide +kernel
theorem dX2_restart_31 : decode cX2_restart 31 = .ok (.iconst 1, 1) := by decide +kernel
theorem dX2_restart_32 : decode cX2_restart 32 = .ok (.iastore, 1) := by decide +kernel
theorem dX2_restart_33 : decode cX2_restart 33 = .ok (.aload_n 0, 1) := by decide +kernel
theorem dX2_restart_34 : decode cX2_restart 34 = .ok (.getfield 18, 3) := by decide +kernel
theorem dX2_restart_37 : decode cX2_restart 37 = .ok (.iload_n 2, 1) := by decide +kernel
theorem dX2_restart_38 : decode cX2_restart 38 = .ok (.iconst 1, 1) := by decide +kernel
theorem dX2_restart_39 : decode cX2_restart 39 = .ok (.iastore, 1) := by decide +kernel
theorem dX2_restart_40 : decode cX2_restart 40 = .ok (.iinc 2 1, 3) := by decide +kernel
theorem dX2_restart_43 : decode cX2_restart 43 = .ok (.goto (-31), 3) := by decide +kernel
theorem dX2_restart_46 : decode cX2_restart 46 = .ok (.return_, 1) := by decide +kernel
theorem dX2_setBehind_0 : decode cX2_setBehind 0 = .ok (.aload_n 0, 1) := by decide +kernel
theorem dX2_setBehind_1 : decode cX2_setBehind 1 = .ok (.iload_n 1, 1) := by decide +kernel
theorem dX2_setBehind_2 : decode cX2_setBehind 2 = .ok (.invokevirtual 49, 3) := by decide +kernel
theorem dX2_setBehind_5 : decode cX2_setBehind 5 = .ok (.ifCond .eq 10, 3) := by decide +kernel
theorem dX2_setBehind_8 : decode cX2_setBehind 8 = .ok (.aload_n 0, 1) := by decide +kernel
theorem dX2_setBehind_9 : decode cX2_setBehind 9 = .ok (.getfield 15, 3) := by decide +kernel
theorem dX2_setBehind_12 : decode cX2_setBehind 12 = .ok (.iload_n 1, 1) := by decide +kernel
theorem dX2_setBehind_13 : decode cX2_setBehind 13 = .ok (.iload_n 2, 1) := by decide +kernel
theorem dX2_setBehind_14 : decode cX2_setBehind 14 = .ok (.iastore, 1) := by decide +kernel
theorem dX2_setBehind_15 : decode cX2_setBehind 15 = .ok (.return_, 1) := by decide +kernel
theorem dX2_setWay_0 : decode cX2_setWay 0 = .ok (.aload_n 0, 1) := by decide +kernel
theorem dX2_setWay_1 : decode cX2_setWay 1 = .ok (.iload_n 1, 1) := by decide +kernel
theorem dX2_setWay_2 : decode cX2_setWay 2 = .ok (.invokevirtual 49, 3) := by decide +kernel
theorem dX2_setWay_5 : decode cX2_setWay 5 = .ok (.ifCond .eq 10, 3) := by decide +kernel
theorem dX2_setWay_8 : decode cX2_setWay 8 = .ok (.aload_n 0, 1) := by decide +kernel
theorem dX2_setWay_9 : decode cX2_setWay 9 = .ok (.getfield 18, 3) := by decide +kernel
theorem dX2_setWay_12 : decode cX2_setWay 12 = .ok (.iload_n 1, 1) := by decide +kernel
theorem dX2_setWay_13 : decode cX2_setWay 13 = .ok (.iload_n 2, 1) := by decide +kernel
theorem dX2_setWay_14 : decode cX2_setWay 14 = .ok (.iastore, 1) := by decide +kernel
theorem dX2_setWay_15 : decode cX2_setWay 15 = .ok (.return_, 1) := by decide +kernel
theorem dX2_addShortcut_0 : decode cX2_addShortcut 0 = .ok (.aload_n 0, 1) := by decide +kernel
theorem dX2_addShortcut_1 : decode cX2_addShortcut 1 = .ok (.getfield 46, 3) := by decide +kernel
theorem dX2_addShortcut_4 : decode cX2_addShortcut 4 = .ok (.bipush 8, 2) := by decide +kernel
theorem dX2_addShortcut_6 : decode cX2_addShortcut 6 = .ok (.if_icmp .ge 43, 3) := by decide +kernel
theorem dX2_addShortcut_9 : decode cX2_addShortcut 9 = .ok (.aload_n 0, 1) := by decide +kernel
theorem dX2_addShortcut_10 : decode cX2_addShortcut 10 = .ok (.getfield 21, 3) := by decide +kernel
theorem dX2_addShortcut_13 : decode cX2_addShortcut 13 = .ok (.aload_n 0, 1) := by decide +kernel
theorem dX2_addShortcut_14 : decode cX2_addShortcut 14 = .ok (.getfield 46, 3) := by decide +kernel
theorem dX2_addShortcut_17 : decode cX2_addShortcut 17 = .ok (.iload_n 1, 1) := by decide +kernel
theorem dX2_addShortcut_18 : decode cX2_addShortcut 18 = .ok (.iastore, 1) := by decide +kernel
theorem dX2_addShortcut_19 : decode cX2_addShortcut 19 = .ok (.aload_n 0, 1) := by decide +kernel
theorem dX2_addShortcut_20 : decode cX2_addShortcut 20 = .ok (.getfield 24, 3) := by decide +kernel
theorem dX2_addShortcut_23 : decode cX2_addShortcut 23 = .ok (.aload_n 0, 1) := by decide +kernel
theorem dX2_addShortcut_24 : decode cX2_addShortcut 24 = .ok (.getfield 46, 3) := by decide +kernel
theorem dX2_addShortcut_27 : decode cX2_addShortcut 27 = .ok (.iload_n 2, 1) := by decide +kernel
theorem dX2_addShortcut_28 : decode cX2_addShortcut 28 = .ok (.iastore, 1) := by decide +kernel
theorem dX2_addShortcut_29 : decode cX2_addShortcut 29 = .ok (.aload_n 0, 1) := by decide +kernel
theorem dX2_addShortcut_30 : decode cX2_addShortcut 30 = .ok (.getfield 27, 3) := by decide +kernel
theorem dX2_addShortcut_33 : decode cX2_addShortcut 33 = .ok (.aload_n 0, 1) := by decide +kernel
theorem dX2_addShortcut_34 : decode cX2_addShortcut 34 = .ok (.getfield 46, 3) := by decide +kernel
theorem dX2_addShortcut_37 : decode cX2_addShortcut 37 = .ok (.iload_n 3, 1) := by decide +kernel
theorem dX2_addShortcut_38 : decode cX2_addShortcut 38 = .ok (.iastore, 1) := by decide +kernel
theorem dX2_addShortcut_39 : decode cX2_addShortcut 39 = .ok (.aload_n 0, 1) := by decide +kernel
theorem dX2_addShortcut_40 : decode cX2_addShortcut 40 = .ok (.dup, 1) := by decide +kernel
theorem dX2_addShortcut_41 : decode cX2_addShortcut 41 = .ok (.getfield 46, 3) := by decide +kernel
theorem dX2_addShortcut_44 : decode cX2_addShortcut 44 = .ok (.iconst 1, 1) := by decide +kernel
theorem dX2_addShortcut_45 : decode cX2_addShortcut 45 = .ok (.iadd, 1) := by decide +kernel
theorem dX2_addShortcut_46 : decode cX2_addShortcut 46 = .ok (.putfield 46, 3) := by decide +kernel
theorem dX2_addShortcut_49 : decode cX2_addShortcut 49 = .ok (.return_, 1) := by decide +kernel
theorem dX2_settle_0 : decode cX2_settle 0 = .ok (.iconst 0, 1) := by decide +kernel
theorem dX2_settle_1 : decode cX2_settle 1 = .ok (.istore_n 1, 1) := by decide +kernel
theorem dX2_settle_2 : decode cX2_settle 2 = .ok (.iconst 0, 1) := by decide +kernel
theorem dX2_settle_3 : decode cX2_settle 3 = .ok (.istore_n 2, 1) := by decide +kernel
theorem dX2_settle_4 : decode cX2_settle 4 = .ok (.iload_n 2, 1) := by decide +kernel
theorem dX2_settle_5 : decode cX2_settle 5 = .ok (.aload_n 0, 1) := by decide +kernel
theorem dX2_settle_6 : decode cX2_settle 6 = .ok (.getfield 42, 3) := by decide +kernel
theorem dX2_settle_9 : decode cX2_settle 9 = .ok (.if_icmp .ge 25, 3) := by decide +kernel
theorem dX2_settle_12 : decode cX2_settle 12 = .ok (.iload_n 1, 1) := by decide +kernel
theorem dX2_settle_13 : decode cX2_settle 13 = .ok (.aload_n 0, 1) := by decide +kernel
theorem dX2_settle_14 : decode cX2_settle 14 = .ok (.getfield 15, 3) := by decide +kernel
theorem dX2_settle_17 : decode cX2_settle 17 = .ok (.iload_n 2, 1) := by decide +kernel
theorem dX2_settle_18 : decode cX2_settle 18 = .ok (.iaload, 1) := by decide +kernel
theorem dX2_settle_19 : decode cX2_settle 19 = .ok (.iadd, 1) := by decide +kernel
theorem dX2_settle_20 : decode cX2_settle 20 = .ok (.istore_n 1, 1) := by decide +kernel
theorem dX2_settle_21 : decode cX2_settle 21 = .ok (.aload_n 0, 1) := by decide +kernel
theorem dX2_settle_22 : decode cX2_settle 22 = .ok (.getfield 9, 3) := by decide +kernel
theorem dX2_settle_25 : decode cX2_settle 25 = .ok (.iload_n 2, 1) := by decide +kernel
theorem dX2_settle_26 : decode cX2_settle 26 = .ok (.iload_n 1, 1) := by decide +kernel
theorem dX2_settle_27 : decode cX2_settle 27 = .ok (.iastore, 1) := by decide +kernel
theorem dX2_settle_28 : decode cX2_settle 28 = .ok (.iinc 2 1, 3) := by decide +kernel
theorem dX2_settle_31 : decode cX2_settle 31 = .ok (.goto (-27), 3) := by decide +kernel
theorem dX2_settle_34 : decode cX2_settle 34 = .ok (.aload_n 0, 1) := by decide +kernel
theorem dX2_settle_35 : decode cX2_settle 35 = .ok (.invokevirtual 53, 3) := by decide +kernel
theorem dX2_settle_38 : decode cX2_settle 38 = .ok (.aload_n 0, 1) := by decide +kernel
theorem dX2_settle_39 : decode cX2_settle 39 = .ok (.invokevirtual 56, 3) := by decide +kernel
theorem dX2_settle_42 : decode cX2_settle 42 = .ok (.return_, 1) := by decide +kernel
theorem dX2_layRoads_0 : decode cX2_layRoads 0 = .ok (.iconst 0, 1) := by decide +kernel
theorem dX2_layRoads_1 : decode cX2_layRoads 1 = .ok (.istore_n 1, 1) := by decide +kernel
theorem dX2_layRoads_2 : decode cX2_layRoads 2 = .ok (.iload_n 1, 1) := by decide +kernel
theorem dX2_layRoads_3 : decode cX2_layRoads 3 = .ok (.aload_n 0, 1) := by decide +kernel
theorem dX2_layRoads_4 : decode cX2_layRoads 4 = .ok (.getfield 42, 3) := by decide +kernel
theorem dX2_layRoads_7 : decode cX2_layRoads 7 = .ok (.if_icmp .ge 44, 3) := by decide +kernel
theorem dX2_layRoads_10 : decode cX2_layRoads 10 = .ok (.iconst 0, 1) := by decide +kernel
theorem dX2_layRoads_11 : decode cX2_layRoads 11 = .ok (.istore_n 2, 1) := by decide +kernel
theorem dX2_layRoads_12 : decode cX2_layRoads 12 = .ok (.iload_n 2, 1) := by decide +kernel
theorem dX2_layRoads_13 : decode cX2_layRoads 13 = .ok (.aload_n 0, 1) := by decide +kernel
theorem dX2_layRoads_14 : decode cX2_layRoads 14 = .ok (.getfield 42, 3) := by decide +kernel
theorem dX2_layRoads_17 : decode cX2_layRoads 17 = .ok (.if_icmp .ge 28, 3) := by decide +kernel
theorem dX2_layRoads_20 : decode cX2_layRoads 20 = .ok (.aload_n 0, 1) := by decide +kernel
theorem dX2_layRoads_21 : decode cX2_layRoads 21 = .ok (.getfield 32, 3) := by decide +kernel
theorem dX2_layRoads_24 : decode cX2_layRoads 24 = .ok (.iload_n 1, 1) := by decide +kernel
theorem dX2_layRoads_25 : decode cX2_layRoads 25 = .ok (.aaload, 1) := by decide +kernel
theorem dX2_layRoads_26 : decode cX2_layRoads 26 = .ok (.iload_n 2, 1) := by decide +kernel
theorem dX2_layRoads_27 : decode cX2_layRoads 27 = .ok (.iload_n 1, 1) := by decide +kernel
theorem dX2_layRoads_28 : decode cX2_layRoads 28 = .ok (.iload_n 2, 1) := by decide +kernel
theorem dX2_layRoads_29 : decode cX2_layRoads 29 = .ok (.if_icmp .ne 7, 3) := by decide +kernel
theorem dX2_layRoads_32 : decode cX2_layRoads 32 = .ok (.iconst 0, 1) := by decide +kernel
theorem dX2_layRoads_33 : decode cX2_layRoads 33 = .ok (.goto 5, 3) := by decide +kernel
theorem dX2_layRoads_36 : decode cX2_layRoads 36 = .ok (.ldc 59, 2) := by decide +kernel
theorem dX2_layRoads_38 : decode cX2_layRoads 38 = .ok (.iastore, 1) := by decide +kernel
theorem dX2_layRoads_39 : decode cX2_layRoads 39 = .ok (.iinc 2 1, 3) := by decide +kernel
theorem dX2_layRoads_42 : decode cX2_layRoads 42 = .ok (.goto (-30), 3) := by decide +kernel
theorem dX2_layRoads_45 : decode cX2_layRoads 45 = .ok (.iinc 1 1, 3) := by decide +kernel
theorem dX2_layRoads_48 : decode cX2_layRoads 48 = .ok (.goto (-46), 3) := by decide +kernel
theorem dX2_layRoads_51 : decode cX2_layRoads 51 = .ok (.iconst 0, 1) := by decide +kernel
theorem dX2_layRoads_52 : decode cX2_layRoads 52 = .ok (.istore_n 1, 1) := by decide +kernel
theorem dX2_layRoads_53 : decode cX2_layRoads 53 = .ok (.iload_n 1, 1) := by decide +kernel
theorem dX2_layRoads_54 : decode cX2_layRoads 54 = .ok (.iconst 1, 1) := by decide +kernel
theorem dX2_layRoads_55 : decode cX2_layRoads 55 = .ok (.iadd, 1) := by decide +kernel
theorem dX2_layRoads_56 : decode cX2_layRoads 56 = .ok (.aload_n 0, 1) := by decide +kernel
theorem dX2_layRoads_57 : decode cX2_layRoads 57 = .ok (.getfield 42, 3) := by decide +kernel
theorem dX2_layRoads_60 : decode cX2_layRoads 60 = .ok (.if_icmp .ge 23, 3) := by decide +kernel
theorem dX2_layRoads_63 : decode cX2_layRoads 63 = .ok (.aload_n 0, 1) := by decide +kernel
theorem dX2_layRoads_64 : decode cX2_layRoads 64 = .ok (.iload_n 1, 1) := by decide +kernel
theorem dX2_layRoads_65 : decode cX2_layRoads 65 = .ok (.iload_n 1, 1) := by decide +kernel
theorem dX2_layRoads_66 : decode cX2_layRoads 66 = .ok (.iconst 1, 1) := by decide +kernel
theorem dX2_layRoads_67 : decode cX2_layRoads 67 = .ok (.iadd, 1) := by decide +kernel
theorem dX2_layRoads_68 : decode cX2_layRoads 68 = .ok (.aload_n 0, 1) := by decide +kernel
theorem dX2_layRoads_69 : decode cX2_layRoads 69 = .ok (.getfield 18, 3) := by decide +kernel
theorem dX2_layRoads_72 : decode cX2_layRoads 72 = .ok (.iload_n 1, 1) := by decide +kernel
theorem dX2_layRoads_73 : decode cX2_layRoads 73 = .ok (.iaload, 1) := by decide +kernel
theorem dX2_layRoads_74 : decode cX2_layRoads 74 = .ok (.invokevirtual 60, 3) := by decide +kernel
theorem dX2_layRoads_77 : decode cX2_layRoads 77 = .ok (.iinc 1 1, 3) := by decide +kernel
theorem dX2_layRoads_80 : decode cX2_layRoads 80 = .ok (.goto (-27), 3) := by decide +kernel
theorem dX2_layRoads_83 : decode cX2_layRoads 83 = .ok (.iconst 0, 1) := by decide +kernel
theorem dX2_layRoads_84 : decode cX2_layRoads 84 = .ok (.istore_n 1, 1) := by decide +kernel
theorem dX2_layRoads_85 : decode cX2_layRoads 85 = .ok (.iload_n 1, 1) := by decide +kernel
theorem dX2_layRoads_86 : decode cX2_layRoads 86 = .ok (.aload_n 0, 1) := by decide +kernel
theorem dX2_layRoads_87 : decode cX2_layRoads 87 = .ok (.getfield 46, 3) := by decide +kernel
theorem dX2_layRoads_90 : decode cX2_layRoads 90 = .ok (.if_icmp .ge 31, 3) := by decide +kernel
theorem dX2_layRoads_93 : decode cX2_layRoads 93 = .ok (.aload_n 0, 1) := by decide +kernel
theorem dX2_layRoads_94 : decode cX2_layRoads 94 = .ok (.aload_n 0, 1) := by decide +kernel
theorem dX2_layRoads_95 : decode cX2_layRoads 95 = .ok (.getfield 21, 3) := by decide +kernel
theorem dX2_layRoads_98 : decode cX2_layRoads 98 = .ok (.iload_n 1, 1) := by decide +kernel
theorem dX2_layRoads_99 : decode cX2_layRoads 99 = .ok (.iaload, 1) := by decide +kernel
theorem dX2_layRoads_100 : decode cX2_layRoads 100 = .ok (.aload_n 0, 1) := by decide +kernel
theorem dX2_layRoads_101 : decode cX2_layRoads 101 = .ok (.getfield 24, 3) := by decide +kernel
theorem dX2_layRoads_104 : decode cX2_layRoads 104 = .ok (.iload_n 1, 1) := by decide +kernel
theorem dX2_layRoads_105 : decode cX2_layRoads 105 = .ok (.iaload, 1) := by decide +kernel
theorem dX2_layRoads_106 : decode cX2_layRoads 106 = .ok (.aload_n 0, 1) := by decide +kernel
theorem dX2_layRoads_107 : decode cX2_layRoads 107 = .ok (.getfield 27, 3) := by decide +kernel
theorem dX2_layRoads_110 : decode cX2_layRoads 110 = .ok (.iload_n 1, 1) := by decide +kernel
theorem dX2_layRoads_111 : decode cX2_layRoads 111 = .ok (.iaload, 1) := by decide +kernel
theorem dX2_layRoads_112 : decode cX2_layRoads 112 = .ok (.invokevirtual 60, 3) := by decide +kernel
theorem dX2_layRoads_115 : decode cX2_layRoads 115 = .ok (.iinc 1 1, 3) := by decide +kernel
theorem dX2_layRoads_118 : decode cX2_layRoads 118 = .ok (.goto (-33), 3) := by decide +kernel
theorem dX2_layRoads_121 : decode cX2_layRoads 121 = .ok (.return_, 1) := by decide +kernel
theorem dX2_layRoad_0 : decode cX2_layRoad 0 = .ok (.aload_n 0, 1) := by decide +kernel
theorem dX2_layRoad_1 : decode cX2_layRoad 1 = .ok (.iload_n 1, 1) := by decide +kernel
theorem dX2_layRoad_2 : decode cX2_layRoad 2 = .ok (.invokevirtual 49, 3) := by decide +kernel
theorem dX2_layRoad_5 : decode cX2_layRoad 5 = .ok (.ifCond .eq 41, 3) := by decide +kernel
theorem dX2_layRoad_8 : decode cX2_layRoad 8 = .ok (.aload_n 0, 1) := by decide +kernel
theorem dX2_layRoad_9 : decode cX2_layRoad 9 = .ok (.iload_n 2, 1) := by decide +kernel
theorem dX2_layRoad_10 : decode cX2_layRoad 10 = .ok (.invokevirtual 49, 3) := by decide +kernel
theorem dX2_layRoad_13 : decode cX2_layRoad 13 = .ok (.ifCond .eq 33, 3) := by decide +kernel
theorem dX2_layRoad_16 : decode cX2_layRoad 16 = .ok (.iload_n 3, 1) := by decide +kernel
theorem dX2_layRoad_17 : decode cX2_layRoad 17 = .ok (.aload_n 0, 1) := by decide +kernel
theorem dX2_layRoad_18 : decode cX2_layRoad 18 = .ok (.getfield 32, 3) := by decide +kernel
theorem dX2_layRoad_21 : decode cX2_layRoad 21 = .ok (.iload_n 1, 1) := by decide +kernel
theorem dX2_layRoad_22 : decode cX2_layRoad 22 = .ok (.aaload, 1) := by decide +kernel
theorem dX2_layRoad_23 : decode cX2_layRoad 23 = .ok (.iload_n 2, 1) := by decide +kernel
theorem dX2_layRoad_24 : decode cX2_layRoad 24 = .ok (.iaload, 1) := by decide +kernel
theorem dX2_layRoad_25 : decode cX2_layRoad 25 = .ok (.if_icmp .ge 21, 3) := by decide +kernel
theorem dX2_layRoad_28 : decode cX2_layRoad 28 = .ok (.aload_n 0, 1) := by decide +kernel
theorem dX2_layRoad_29 : decode cX2_layRoad 29 = .ok (.getfield 32, 3) := by decide +kernel
theorem dX2_layRoad_32 : decode cX2_layRoad 32 = .ok (.iload_n 1, 1) := by decide +kernel
theorem dX2_layRoad_33 : decode cX2_layRoad 33 = .ok (.aaload, 1) := by decide +kernel
theorem dX2_layRoad_34 : decode cX2_layRoad 34 = .ok (.iload_n 2, 1) := by decide +kernel
theorem dX2_layRoad_35 : decode cX2_layRoad 35 = .ok (.iload_n 3, 1) := by decide +kernel
theorem dX2_layRoad_36 : decode cX2_layRoad 36 = .ok (.iastore, 1) := by decide +kernel
theorem dX2_layRoad_37 : decode cX2_layRoad 37 = .ok (.aload_n 0, 1) := by decide +kernel
theorem dX2_layRoad_38 : decode cX2_layRoad 38 = .ok (.getfield 32, 3) := by decide +kernel
theorem dX2_layRoad_41 : decode cX2_layRoad 41 = .ok (.iload_n 2, 1) := by decide +kernel
theorem dX2_layRoad_42 : decode cX2_layRoad 42 = .ok (.aaload, 1) := by decide +kernel
theorem dX2_layRoad_43 : decode cX2_layRoad 43 = .ok (.iload_n 1, 1) := by decide +kernel
theorem dX2_layRoad_44 : decode cX2_layRoad 44 = .ok (.iload_n 3, 1) := by decide +kernel
theorem dX2_layRoad_45 : decode cX2_layRoad 45 = .ok (.iastore, 1) := by decide +kernel
theorem dX2_layRoad_46 : decode cX2_layRoad 46 = .ok (.return_, 1) := by decide +kernel
theorem dX2_joinRoads_0 : decode cX2_joinRoads 0 = .ok (.iconst 0, 1) := by decide +kernel
theorem dX2_joinRoads_1 : decode cX2_joinRoads 1 = .ok (.istore_n 1, 1) := by decide +kernel
theorem dX2_joinRoads_2 : decode cX2_joinRoads 2 = .ok (.iload_n 1, 1) := by decide +kernel
theorem dX2_joinRoads_3 : decode cX2_joinRoads 3 = .ok (.aload_n 0, 1) := by decide +kernel
theorem dX2_joinRoads_4 : decode cX2_joinRoads 4 = .ok (.getfield 42, 3) := by decide +kernel
theorem dX2_joinRoads_7 : decode cX2_joinRoads 7 = .ok (.if_icmp .ge 77, 3) := by decide +kernel
theorem dX2_joinRoads_10 : decode cX2_joinRoads 10 = .ok (.iconst 0, 1) := by decide +kernel
theorem dX2_joinRoads_11 : decode cX2_joinRoads 11 = .ok (.istore_n 2, 1) := by decide +kernel
theorem dX2_joinRoads_12 : decode cX2_joinRoads 12 = .ok (.iload_n 2, 1) := by decide +kernel
theorem dX2_joinRoads_13 : decode cX2_joinRoads 13 = .ok (.aload_n 0, 1) := by decide +kernel
theorem dX2_joinRoads_14 : decode cX2_joinRoads 14 = .ok (.getfield 42, 3) := by decide +kernel
theorem dX2_joinRoads_17 : decode cX2_joinRoads 17 = .ok (.if_icmp .ge 61, 3) := by decide +kernel
theorem dX2_joinRoads_20 : decode cX2_joinRoads 20 = .ok (.iconst 0, 1) := by decide +kernel
theorem dX2_joinRoads_21 : decode cX2_joinRoads 21 = .ok (.istore_n 3, 1) := by decide +kernel
theorem dX2_joinRoads_22 : decode cX2_joinRoads 22 = .ok (.iload_n 3, 1) := by decide +kernel
theorem dX2_joinRoads_23 : decode cX2_joinRoads 23 = .ok (.aload_n 0, 1) := by decide +kernel
theorem dX2_joinRoads_24 : decode cX2_joinRoads 24 = .ok (.getfield 42, 3) := by decide +kernel
theorem dX2_joinRoads_27 : decode cX2_joinRoads 27 = .ok (.if_icmp .ge 45, 3) := by decide +kernel
theorem dX2_joinRoads_30 : decode cX2_joinRoads 30 = .ok (.aload_n 0, 1) := by decide +kernel
theorem dX2_joinRoads_31 : decode cX2_joinRoads 31 = .ok (.getfield 32, 3) := by decide +kernel
theorem dX2_joinRoads_34 : decode cX2_joinRoads 34 = .ok (.iload_n 2, 1) := by decide +kernel
theorem dX2_joinRoads_35 : decode cX2_joinRoads 35 = .ok (.aaload, 1) := by decide +kernel
theorem dX2_joinRoads_36 : decode cX2_joinRoads 36 = .ok (.iload_n 3, 1) := by decide +kernel
theorem dX2_joinRoads_37 : decode cX2_joinRoads 37 = .ok (.aload_n 0, 1) := by decide +kernel
theorem dX2_joinRoads_38 : decode cX2_joinRoads 38 = .ok (.getfield 32, 3) := by decide +kernel
theorem dX2_joinRoads_41 : decode cX2_joinRoads 41 = .ok (.iload_n 2, 1) := by decide +kernel
theorem dX2_joinRoads_42 : decode cX2_joinRoads 42 = .ok (.aaload, 1) := by decide +kernel
theorem dX2_joinRoads_43 : decode cX2_joinRoads 43 = .ok (.iload_n 3, 1) := by decide +kernel
theorem dX2_joinRoads_44 : decode cX2_joinRoads 44 = .ok (.iaload, 1) := by decide +kernel
theorem dX2_joinRoads_45 : decode cX2_joinRoads 45 = .ok (.aload_n 0, 1) := by decide +kernel
theorem dX2_joinRoads_46 : decode cX2_joinRoads 46 = .ok (.getfield 32, 3) := by decide +kernel
theorem dX2_joinRoads_49 : decode cX2_joinRoads 49 = .ok (.iload_n 2, 1) := by decide +kernel
theorem dX2_joinRoads_50 : decode cX2_joinRoads 50 = .ok (.aaload, 1) := by decide +kernel
theorem dX2_joinRoads_51 : decode cX2_joinRoads 51 = .ok (.iload_n 1, 1) := by decide +kernel
theorem dX2_joinRoads_52 : decode cX2_joinRoads 52 = .ok (.iaload, 1) := by decide +kernel
theorem dX2_joinRoads_53 : decode cX2_joinRoads 53 = .ok (.aload_n 0, 1) := by decide +kernel
theorem dX2_joinRoads_54 : decode cX2_joinRoads 54 = .ok (.getfield 32, 3) := by decide +kernel
theorem dX2_joinRoads_57 : decode cX2_joinRoads 57 = .ok (.iload_n 1, 1) := by decide +kernel
theorem dX2_joinRoads_58 : decode cX2_joinRoads 58 = .ok (.aaload, 1) := by decide +kernel
theorem dX2_joinRoads_59 : decode cX2_joinRoads 59 = .ok (.iload_n 3, 1) := by decide +kernel
theorem dX2_joinRoads_60 : decode cX2_joinRoads 60 = .ok (.iaload, 1) := by decide +kernel
theorem dX2_joinRoads_61 : decode cX2_joinRoads 61 = .ok (.iadd, 1) := by decide +kernel
theorem dX2_joinRoads_62 : decode cX2_joinRoads 62 = .ok (.invokestatic 64, 3) := by decide +kernel
theorem dX2_joinRoads_65 : decode cX2_joinRoads 65 = .ok (.iastore, 1) := by decide +kernel
theorem dX2_joinRoads_66 : decode cX2_joinRoads 66 = .ok (.iinc 3 1, 3) := by decide +kernel
theorem dX2_joinRoads_69 : decode cX2_joinRoads 69 = .ok (.goto (-47), 3) := by decide +kernel
theorem dX2_joinRoads_72 : decode cX2_joinRoads 72 = .ok (.iinc 2 1, 3) := by decide +kernel
theorem dX2_joinRoads_75 : decode cX2_joinRoads 75 = .ok (.goto (-63), 3) := by decide +kernel
theorem dX2_joinRoads_78 : decode cX2_joinRoads 78 = .ok (.iinc 1 1, 3) := by decide +kernel
theorem dX2_joinRoads_81 : decode cX2_joinRoads 81 = .ok (.goto (-79), 3) := by decide +kernel
theorem dX2_joinRoads_84 : decode cX2_joinRoads 84 = .ok (.return_, 1) := by decide +kernel
theorem dX2_has_0 : decode cX2_has 0 = .ok (.iload_n 1, 1) := by decide +kernel
theorem dX2_has_1 : decode cX2_has 1 = .ok (.ifCond .lt 15, 3) := by decide +kernel
theorem dX2_has_4 : decode cX2_has 4 = .ok (.iload_n 1, 1) := by decide +kernel
theorem dX2_has_5 : decode cX2_has 5 = .ok (.aload_n 0, 1) := by decide +kernel
theorem dX2_has_6 : decode cX2_has 6 = .ok (.getfield 42, 3) := by decide +kernel
theorem dX2_has_9 : decode cX2_has 9 = .ok (.if_icmp .ge 7, 3) := by decide +kernel
theorem dX2_has_12 : decode cX2_has 12 = .ok (.iconst 1, 1) := by decide +kernel
theorem dX2_has_13 : decode cX2_has 13 = .ok (.goto 4, 3) := by decide +kernel
theorem dX2_has_16 : decode cX2_has 16 = .ok (.iconst 0, 1) := by decide +kernel
theorem dX2_has_17 : decode cX2_has 17 = .ok (.ireturn, 1) := by decide +kernel
theorem dX2_distance_0 : decode cX2_distance 0 = .ok (.aload_n 0, 1) := by decide +kernel
theorem dX2_distance_1 : decode cX2_distance 1 = .ok (.getfield 32, 3) := by decide +kernel
theorem dX2_distance_4 : decode cX2_distance 4 = .ok (.iload_n 1, 1) := by decide +kernel
theorem dX2_distance_5 : decode cX2_distance 5 = .ok (.aaload, 1) := by decide +kernel
theorem dX2_distance_6 : decode cX2_distance 6 = .ok (.iload_n 2, 1) := by decide +kernel
theorem dX2_distance_7 : decode cX2_distance 7 = .ok (.iaload, 1) := by decide +kernel
theorem dX2_distance_8 : decode cX2_distance 8 = .ok (.ireturn, 1) := by decide +kernel
theorem dX2_clockAt_0 : decode cX2_clockAt 0 = .ok (.iload_n 2, 1) := by decide +kernel
theorem dX2_clockAt_1 : decode cX2_clockAt 1 = .ok (.aload_n 0, 1) := by decide +kernel
theorem dX2_clockAt_2 : decode cX2_clockAt 2 = .ok (.getfield 9, 3) := by decide +kernel
theorem dX2_clockAt_5 : decode cX2_clockAt 5 = .ok (.iload_n 1, 1) := by decide +kernel
theorem dX2_clockAt_6 : decode cX2_clockAt 6 = .ok (.iaload, 1) := by decide +kernel
theorem dX2_clockAt_7 : decode cX2_clockAt 7 = .ok (.isub, 1) := by decide +kernel
theorem dX2_clockAt_8 : decode cX2_clockAt 8 = .ok (.sipush 1440, 3) := by decide +kernel
theorem dX2_clockAt_11 : decode cX2_clockAt 11 = .ok (.invokestatic 70, 3) := by decide +kernel
theorem dX2_clockAt_14 : decode cX2_clockAt 14 = .ok (.ireturn, 1) := by decide +kernel
theorem dX2_dateAt_0 : decode cX2_dateAt 0 = .ok (.iload_n 2, 1) := by decide +kernel
theorem dX2_dateAt_1 : decode cX2_dateAt 1 = .ok (.aload_n 0, 1) := by decide +kernel
theorem dX2_dateAt_2 : decode cX2_dateAt 2 = .ok (.getfield 9, 3) := by decide +kernel
theorem dX2_dateAt_5 : decode cX2_dateAt 5 = .ok (.iload_n 1, 1) := by decide +kernel
theorem dX2_dateAt_6 : decode cX2_dateAt 6 = .ok (.iaload, 1) := by decide +kernel
theorem dX2_dateAt_7 : decode cX2_dateAt 7 = .ok (.isub, 1) := by decide +kernel
theorem dX2_dateAt_8 : decode cX2_dateAt 8 = .ok (.sipush 1440, 3) := by decide +kernel
theorem dX2_dateAt_11 : decode cX2_dateAt 11 = .ok (.invokestatic 73, 3) := by decide +kernel
theorem dX2_dateAt_14 : decode cX2_dateAt 14 = .ok (.ireturn, 1) := by decide +kernel
theorem dX2_trueTime_0 : decode cX2_trueTime 0 = .ok (.aload_n 0, 1) := by decide +kernel
theorem dX2_trueTime_1 : decode cX2_trueTime 1 = .ok (.getfield 9, 3) := by decide +kernel
theorem dX2_trueTime_4 : decode cX2_trueTime 4 = .ok (.iload_n 1, 1) := by decide +kernel
theorem dX2_trueTime_5 : decode cX2_trueTime 5 = .ok (.iaload, 1) := by decide +kernel
theorem dX2_trueTime_6 : decode cX2_trueTime 6 = .ok (.iload_n 2, 1) := by decide +kernel
theorem dX2_trueTime_7 : decode cX2_trueTime 7 = .ok (.iadd, 1) := by decide +kernel
theorem dX2_trueTime_8 : decode cX2_trueTime 8 = .ok (.ireturn, 1) := by decide +kernel
theorem dX2_spanByClocks_0 : decode cX2_spanByClocks 0 = .ok (.aload_n 0, 1) := by decide +kernel
theorem dX2_spanByClocks_1 : decode cX2_spanByClocks 1 = .ok (.getfield 32, 3) := by decide +kernel
theorem dX2_spanByClocks_4 : decode cX2_spanByClocks 4 = .ok (.iload_n 1, 1) := by decide +kernel
theorem dX2_spanByClocks_5 : decode cX2_spanByClocks 5 = .ok (.aaload, 1) := by decide +kernel
theorem dX2_spanByClocks_6 : decode cX2_spanByClocks 6 = .ok (.iload_n 2, 1) := by decide +kernel
theorem dX2_spanByClocks_7 : decode cX2_spanByClocks 7 = .ok (.iaload, 1) := by decide +kernel
theorem dX2_spanByClocks_8 : decode cX2_spanByClocks 8 = .ok (.aload_n 0, 1) := by decide +kernel
theorem dX2_spanByClocks_9 : decode cX2_spanByClocks 9 = .ok (.getfield 9, 3) := by decide +kernel
theorem dX2_spanByClocks_12 : decode cX2_spanByClocks 12 = .ok (.iload_n 2, 1) := by decide +kernel
theorem dX2_spanByClocks_13 : decode cX2_spanByClocks 13 = .ok (.iaload, 1) := by decide +kernel
theorem dX2_spanByClocks_14 : decode cX2_spanByClocks 14 = .ok (.aload_n 0, 1) := by decide +kernel
theorem dX2_spanByClocks_15 : decode cX2_spanByClocks 15 = .ok (.getfield 9, 3) := by decide +kernel
theorem dX2_spanByClocks_18 : decode cX2_spanByClocks 18 = .ok (.iload_n 1, 1) := by decide +kernel
theorem dX2_spanByClocks_19 : decode cX2_spanByClocks 19 = .ok (.iaload, 1) := by decide +kernel
theorem dX2_spanByClocks_20 : decode cX2_spanByClocks 20 = .ok (.isub, 1) := by decide +kernel
theorem dX2_spanByClocks_21 : decode cX2_spanByClocks 21 = .ok (.isub, 1) := by decide +kernel
theorem dX2_spanByClocks_22 : decode cX2_spanByClocks 22 = .ok (.ireturn, 1) := by decide +kernel
theorem dX2_gainingPairs_0 : decode cX2_gainingPairs 0 = .ok (.iconst 0, 1) := by decide +kernel
theorem dX2_gainingPairs_1 : decode cX2_gainingPairs 1 = .ok (.istore_n 1, 1) := by decide +kernel
theorem dX2_gainingPairs_2 : decode cX2_gainingPairs 2 = .ok (.iconst 0, 1) := by decide +kernel
theorem dX2_gainingPairs_3 : decode cX2_gainingPairs 3 = .ok (.istore_n 2, 1) := by decide +kernel
theorem dX2_gainingPairs_4 : decode cX2_gainingPairs 4 = .ok (.iload_n 2, 1) := by decide +kernel
theorem dX2_gainingPairs_5 : decode cX2_gainingPairs 5 = .ok (.aload_n 0, 1) := by decide +kernel
theorem dX2_gainingPairs_6 : decode cX2_gainingPairs 6 = .ok (.getfield 42, 3) := by decide +kernel
theorem dX2_gainingPairs_9 : decode cX2_gainingPairs 9 = .ok (.if_icmp .ge 37, 3) := by decide +kernel
theorem dX2_gainingPairs_12 : decode cX2_gainingPairs 12 = .ok (.iconst 0, 1) := by decide +kernel
theorem dX2_gainingPairs_13 : decode cX2_gainingPairs 13 = .ok (.istore_n 3, 1) := by decide +kernel
theorem dX2_gainingPairs_14 : decode cX2_gainingPairs 14 = .ok (.iload_n 3, 1) := by decide +kernel
theorem dX2_gainingPairs_15 : decode cX2_gainingPairs 15 = .ok (.aload_n 0, 1) := by decide +kernel
theorem dX2_gainingPairs_16 : decode cX2_gainingPairs 16 = .ok (.getfield 42, 3) := by decide +kernel
theorem dX2_gainingPairs_19 : decode cX2_gainingPairs 19 = .ok (.if_icmp .ge 21, 3) := by decide +kernel
theorem dX2_gainingPairs_22 : decode cX2_gainingPairs 22 = .ok (.aload_n 0, 1) := by decide +kernel
theorem dX2_gainingPairs_23 : decode cX2_gainingPairs 23 = .ok (.iload_n 2, 1) := by decide +kernel
theorem dX2_gainingPairs_24 : decode cX2_gainingPairs 24 = .ok (.iload_n 3, 1) := by decide +kernel
theorem dX2_gainingPairs_25 : decode cX2_gainingPairs 25 = .ok (.invokevirtual 76, 3) := by decide +kernel
theorem dX2_gainingPairs_28 : decode cX2_gainingPairs 28 = .ok (.ifCond .ge 6, 3) := by decide +kernel
theorem dX2_gainingPairs_31 : decode cX2_gainingPairs 31 = .ok (.iinc 1 1, 3) := by decide +kernel
theorem dX2_gainingPairs_34 : decode cX2_gainingPairs 34 = .ok (.iinc 3 1, 3) := by decide +kernel
theorem dX2_gainingPairs_37 : decode cX2_gainingPairs 37 = .ok (.goto (-23), 3) := by decide +kernel
theorem dX2_gainingPairs_40 : decode cX2_gainingPairs 40 = .ok (.iinc 2 1, 3) := by decide +kernel
theorem dX2_gainingPairs_43 : decode cX2_gainingPairs 43 = .ok (.goto (-39), 3) := by decide +kernel
theorem dX2_gainingPairs_46 : decode cX2_gainingPairs 46 = .ok (.iload_n 1, 1) := by decide +kernel
theorem dX2_gainingPairs_47 : decode cX2_gainingPairs 47 = .ok (.ireturn, 1) := by decide +kernel
theorem dX2_mostGainingPair_0 : decode cX2_mostGainingPair 0 = .ok (.iconst 0, 1) := by decide +kernel
theorem dX2_mostGainingPair_1 : decode cX2_mostGainingPair 1 = .ok (.istore_n 1, 1) := by decide +kernel
theorem dX2_mostGainingPair_2 : decode cX2_mostGainingPair 2 = .ok (.iconst (-1), 1) := by decide +kernel
theorem dX2_mostGainingPair_3 : decode cX2_mostGainingPair 3 = .ok (.istore_n 2, 1) := by decide +kernel
theorem dX2_mostGainingPair_4 : decode cX2_mostGainingPair 4 = .ok (.iconst 0, 1) := by decide +kernel
theorem dX2_mostGainingPair_5 : decode cX2_mostGainingPair 5 = .ok (.istore_n 3, 1) := by decide +kernel
theorem dX2_mostGainingPair_6 : decode cX2_mostGainingPair 6 = .ok (.iload_n 3, 1) := by decide +kernel
theorem dX2_mostGainingPair_7 : decode cX2_mostGainingPair 7 = .ok (.aload_n 0, 1) := by decide +kernel
theorem dX2_mostGainingPair_8 : decode cX2_mostGainingPair 8 = .ok (.getfield 42, 3) := by decide +kernel
theorem dX2_mostGainingPair_11 : decode cX2_mostGainingPair 11 = .ok (.if_icmp .ge 54, 3) := by decide +kernel
theorem dX2_mostGainingPair_14 : decode cX2_mostGainingPair 14 = .ok (.iconst 0, 1) := by decide +kernel
theorem dX2_mostGainingPair_15 : decode cX2_mostGainingPair 15 = .ok (.istore 4, 2) := by decide +kernel
theorem dX2_mostGainingPair_17 : decode cX2_mostGainingPair 17 = .ok (.iload 4, 2) := by decide +kernel
theorem dX2_mostGainingPair_19 : decode cX2_mostGainingPair 19 = .ok (.aload_n 0, 1) := by decide +kernel
theorem dX2_mostGainingPair_20 : decode cX2_mostGainingPair 20 = .ok (.getfield 42, 3) := by decide +kernel
theorem dX2_mostGainingPair_23 : decode cX2_mostGainingPair 23 = .ok (.if_icmp .ge 36, 3) := by decide +kernel
theorem dX2_mostGainingPair_26 : decode cX2_mostGainingPair 26 = .ok (.aload_n 0, 1) := by decide +kernel
theorem dX2_mostGainingPair_27 : decode cX2_mostGainingPair 27 = .ok (.iload_n 3, 1) := by decide +kernel
theorem dX2_mostGainingPair_28 : decode cX2_mostGainingPair 28 = .ok (.iload 4, 2) := by decide +kernel
theorem dX2_mostGainingPair_30 : decode cX2_mostGainingPair 30 = .ok (.invokevirtual 76, 3) := by decide +kernel
theorem dX2_mostGainingPair_33 : decode cX2_mostGainingPair 33 = .ok (.iload_n 1, 1) := by decide +kernel
theorem dX2_mostGainingPair_34 : decode cX2_mostGainingPair 34 = .ok (.if_icmp .ge 19, 3) := by decide +kernel
theorem dX2_mostGainingPair_37 : decode cX2_mostGainingPair 37 = .ok (.aload_n 0, 1) := by decide +kernel
theorem dX2_mostGainingPair_38 : decode cX2_mostGainingPair 38 = .ok (.iload_n 3, 1) := by decide +kernel
theorem dX2_mostGainingPair_39 : decode cX2_mostGainingPair 39 = .ok (.iload 4, 2) := by decide +kernel
theorem dX2_mostGainingPair_41 : decode cX2_mostGainingPair 41 = .ok (.invokevirtual 76, 3) := by decide +kernel
theorem dX2_mostGainingPair_44 : decode cX2_mostGainingPair 44 = .ok (.istore_n 1, 1) := by decide +kernel
theorem dX2_mostGainingPair_45 : decode cX2_mostGainingPair 45 = .ok (.bipush 20, 2) := by decide +kernel
theorem dX2_mostGainingPair_47 : decode cX2_mostGainingPair 47 = .ok (.iload_n 3, 1) := by decide +kernel
theorem dX2_mostGainingPair_48 : decode cX2_mostGainingPair 48 = .ok (.imul, 1) := by decide +kernel
theorem dX2_mostGainingPair_49 : decode cX2_mostGainingPair 49 = .ok (.iload 4, 2) := by decide +kernel
theorem dX2_mostGainingPair_51 : decode cX2_mostGainingPair 51 = .ok (.iadd, 1) := by decide +kernel
theorem dX2_mostGainingPair_52 : decode cX2_mostGainingPair 52 = .ok (.istore_n 2, 1) := by decide +kernel
theorem dX2_mostGainingPair_53 : decode cX2_mostGainingPair 53 = .ok (.iinc 4 1, 3) := by decide +kernel
theorem dX2_mostGainingPair_56 : decode cX2_mostGainingPair 56 = .ok (.goto (-39), 3) := by decide +kernel
theorem dX2_mostGainingPair_59 : decode cX2_mostGainingPair 59 = .ok (.iinc 3 1, 3) := by decide +kernel
theorem dX2_mostGainingPair_62 : decode cX2_mostGainingPair 62 = .ok (.goto (-56), 3) := by decide +kernel
theorem dX2_mostGainingPair_65 : decode cX2_mostGainingPair 65 = .ok (.iload_n 2, 1) := by decide +kernel
theorem dX2_mostGainingPair_66 : decode cX2_mostGainingPair 66 = .ok (.ireturn, 1) := by decide +kernel
theorem dX3_init_0 : decode cX3_init 0 = .ok (.aload_n 0, 1) := by decide +kernel
theorem dX3_init_1 : decode cX3_init 1 = .ok (.invokespecial 3, 3) := by decide +kernel
theorem dX3_init_4 : decode cX3_init 4 = .ok (.aload_n 0, 1) := by decide +kernel
theorem dX3_init_5 : decode cX3_init 5 = .ok (.bipush 10, 2) := by decide +kernel
theorem dX3_init_7 : decode cX3_init 7 = .ok (.newarray .int, 2) := by decide +kernel
theorem dX3_init_9 : decode cX3_init 9 = .ok (.putfield 9, 3) := by decide +kernel
theorem dX3_init_12 : decode cX3_init 12 = .ok (.aload_n 0, 1) := by decide +kernel
theorem dX3_init_13 : decode cX3_init 13 = .ok (.bipush 50, 2) := by decide +kernel
theorem dX3_init_15 : decode cX3_init 15 = .ok (.newarray .int, 2) := by decide +kernel
theorem dX3_init_17 : decode cX3_init 17 = .ok (.putfield 15, 3) := by decide +kernel
theorem dX3_init_20 : decode cX3_init 20 = .ok (.aload_n 0, 1) := by decide +kernel
theorem dX3_init_21 : decode cX3_init 21 = .ok (.aload_n 1, 1) := by decide +kernel
theorem dX3_init_22 : decode cX3_init 22 = .ok (.putfield 18, 3) := by decide +kernel
theorem dX3_init_25 : decode cX3_init 25 = .ok (.return_, 1) := by decide +kernel
theorem dX3_kindAt_0 : decode cX3_kindAt 0 = .ok (.iload_n 1, 1) := by decide +kernel
theorem dX3_kindAt_1 : decode cX3_kindAt 1 = .ok (.ifCond .lt 20, 3) := by decide +kernel
theorem dX3_kindAt_4 : decode cX3_kindAt 4 = .ok (.iload_n 1, 1) := by decide +kernel
theorem dX3_kindAt_5 : decode cX3_kindAt 5 = .ok (.aload_n 0, 1) := by decide +kernel
theorem dX3_kindAt_6 : decode cX3_kindAt 6 = .ok (.getfield 22, 3) := by decide +kernel
theorem dX3_kindAt_9 : decode cX3_kindAt 9 = .ok (.if_icmp .ge 12, 3) := by decide +kernel
theorem dX3_kindAt_12 : decode cX3_kindAt 12 = .ok (.aload_n 0, 1) := by decide +kernel
theorem dX3_kindAt_13 : decode cX3_kindAt 13 = .ok (.getfield 9, 3) := by decide +kernel
theorem dX3_kindAt_16 : decode cX3_kindAt 16 = .ok (.iload_n 1, 1) := by decide +kernel
theorem dX3_kindAt_17 : decode cX3_kindAt 17 = .ok (.iaload, 1) := by decide +kernel
theorem dX3_kindAt_18 : decode cX3_kindAt 18 = .ok (.goto 4, 3) := by decide +kernel
theorem dX3_kindAt_21 : decode cX3_kindAt 21 = .ok (.iconst 0, 1) := by decide +kernel
theorem dX3_kindAt_22 : decode cX3_kindAt 22 = .ok (.ireturn, 1) := by decide +kernel
theorem dX3_numberAt_0 : decode cX3_numberAt 0 = .ok (.iload_n 1, 1) := by decide +kernel
theorem dX3_numberAt_1 : decode cX3_numberAt 1 = .ok (.ifCond .lt 24, 3) := by decide +kernel
theorem dX3_numberAt_4 : decode cX3_numberAt 4 = .ok (.iload_n 1, 1) := by decide +kernel
theorem dX3_numberAt_5 : decode cX3_numberAt 5 = .ok (.aload_n 0, 1) := by decide +kernel
theorem dX3_numberAt_6 : decode cX3_numberAt 6 = .ok (.getfield 22, 3) := by decide +kernel
theorem dX3_numberAt_9 : decode cX3_numberAt 9 = .ok (.if_icmp .ge 16, 3) := by decide +kernel
theorem dX3_numberAt_12 : decode cX3_numberAt 12 = .ok (.iload_n 2, 1) := by decide +kernel
theorem dX3_numberAt_13 : decode cX3_numberAt 13 = .ok (.ifCond .lt 12, 3) := by decide +kernel
theorem dX3_numberAt_16 : decode cX3_numberAt 16 = .ok (.iload_n 2, 1) := by decide +kernel
theorem dX3_numberAt_17 : decode cX3_numberAt 17 = .ok (.iconst 5, 1) := by decide +kernel
theorem dX3_numberAt_18 : decode cX3_numberAt 18 = .ok (.if_icmp .ge 7, 3) := by decide +kernel
theorem dX3_numberAt_21 : decode cX3_numberAt 21 = .ok (.iconst 1, 1) := by decide +kernel
theorem dX3_numberAt_22 : decode cX3_numberAt 22 = .ok (.goto 4, 3) := by decide +kernel
theorem dX3_numberAt_25 : decode cX3_numberAt 25 = .ok (.iconst 0, 1) := by decide +kernel
theorem dX3_numberAt_26 : decode cX3_numberAt 26 = .ok (.istore_n 3, 1) := by decide +kernel
theorem dX3_numberAt_27 : decode cX3_numberAt 27 = .ok (.iload_n 3, 1) := by decide +kernel
theorem dX3_numberAt_28 : decode cX3_numberAt 28 = .ok (.ifCond .eq 16, 3) := by decide +kernel
theorem dX3_numberAt_31 : decode cX3_numberAt 31 = .ok (.aload_n 0, 1) := by decide +kernel
theorem dX3_numberAt_32 : decode cX3_numberAt 32 = .ok (.getfield 15, 3) := by decide +kernel
theorem dX3_numberAt_35 : decode cX3_numberAt 35 = .ok (.iload_n 1, 1) := by decide +kernel
theorem dX3_numberAt_36 : decode cX3_numberAt 36 = .ok (.iconst 5, 1) := by decide +kernel
theorem dX3_numberAt_37 : decode cX3_numberAt 37 = .ok (.imul, 1) := by decide +kernel
theorem dX3_numberAt_38 : decode cX3_numberAt 38 = .ok (.iload_n 2, 1) := by decide +kernel
theorem dX3_numberAt_39 : decode cX3_numberAt 39 = .ok (.iadd, 1) := by decide +kernel
theorem dX3_numberAt_40 : decode cX3_numberAt 40 = .ok (.iaload, 1) := by decide +kernel
theorem dX3_numberAt_41 : decode cX3_numberAt 41 = .ok (.goto 4, 3) := by decide +kernel
theorem dX3_numberAt_44 : decode cX3_numberAt 44 = .ok (.iconst 0, 1) := by decide +kernel
theorem dX3_numberAt_45 : decode cX3_numberAt 45 = .ok (.ireturn, 1) := by decide +kernel
theorem dX3_readAll_0 : decode cX3_readAll 0 = .ok (.aload_n 0, 1) := by decide +kernel
theorem dX3_readAll_1 : decode cX3_readAll 1 = .ok (.iload_n 1, 1) := by decide +kernel
theorem dX3_readAll_2 : decode cX3_readAll 2 = .ok (.putfield 26, 3) := by decide +kernel
theorem dX3_readAll_5 : decode cX3_readAll 5 = .ok (.aload_n 0, 1) := by decide +kernel
theorem dX3_readAll_6 : decode cX3_readAll 6 = .ok (.iload_n 2, 1) := by decide +kernel
theorem dX3_readAll_7 : decode cX3_readAll 7 = .ok (.putfield 29, 3) := by decide +kernel
theorem dX3_readAll_10 : decode cX3_readAll 10 = .ok (.aload_n 0, 1) := by decide +kernel
theorem dX3_readAll_11 : decode cX3_readAll 11 = .ok (.iload_n 3, 1) := by decide +kernel
theorem dX3_readAll_12 : decode cX3_readAll 12 = .ok (.putfield 32, 3) := by decide +kernel
theorem dX3_readAll_15 : decode cX3_readAll 15 = .ok (.aload_n 0, 1) := by decide +kernel
theorem dX3_readAll_16 : decode cX3_readAll 16 = .ok (.iload 4, 2) := by decide +kernel
theorem dX3_readAll_18 : decode cX3_readAll 18 = .ok (.putfield 35, 3) := by decide +kernel
theorem dX3_readAll_21 : decode cX3_readAll 21 = .ok (.aload_n 0, 1) := by decide +kernel
theorem dX3_readAll_22 : decode cX3_readAll 22 = .ok (.iconst 0, 1) := by decide +kernel
theorem dX3_readAll_23 : decode cX3_readAll 23 = .ok (.putfield 38, 3) := by decide +kernel
theorem dX3_readAll_26 : decode cX3_readAll 26 = .ok (.aload_n 0, 1) := by decide +kernel
theorem dX3_readAll_27 : decode cX3_readAll 27 = .ok (.iconst 0, 1) := by decide +kernel
theorem dX3_readAll_28 : decode cX3_readAll 28 = .ok (.putfield 22, 3) := by decide +kernel
theorem dX3_readAll_31 : decode cX3_readAll 31 = .ok (.aload_n 0, 1) := by decide +kernel
theorem dX3_readAll_32 : decode cX3_readAll 32 = .ok (.getfield 22, 3) := by decide +kernel
theorem dX3_readAll_35 : decode cX3_readAll 35 = .ok (.bipush 10, 2) := by decide +kernel
theorem dX3_readAll_37 : decode cX3_readAll 37 = .ok (.if_icmp .ge 57, 3) := by decide +kernel
theorem dX3_readAll_40 : decode cX3_readAll 40 = .ok (.aload_n 0, 1) := by decide +kernel
theorem dX3_readAll_41 : decode cX3_readAll 41 = .ok (.aload_n 0, 1) := by decide +kernel
theorem dX3_readAll_42 : decode cX3_readAll 42 = .ok (.getfield 22, 3) := by decide +kernel
theorem dX3_readAll_45 : decode cX3_readAll 45 = .ok (.iconst 5, 1) := by decide +kernel
theorem dX3_readAll_46 : decode cX3_readAll 46 = .ok (.imul, 1) := by decide +kernel
theorem dX3_readAll_47 : decode cX3_readAll 47 = .ok (.invokevirtual 41, 3) := by decide +kernel
theorem dX3_readAll_50 : decode cX3_readAll 50 = .ok (.ifCond .ne 8, 3) := by decide +kernel
theorem dX3_readAll_53 : decode cX3_readAll 53 = .ok (.aload_n 0, 1) := by decide +kernel
theorem dX3_readAll_54 : decode cX3_readAll 54 = .ok (.getfield 45, 3) := by decide +kernel
theorem dX3_readAll_57 : decode cX3_readAll 57 = .ok (.ireturn, 1) := by decide +kernel
theorem dX3_readAll_58 : decode cX3_readAll 58 = .ok (.aload_n 0, 1) := by decide +kernel
theorem dX3_readAll_59 : decode cX3_readAll 59 = .ok (.dup, 1) := by decide +kernel
theorem dX3_readAll_60 : decode cX3_readAll 60 = .ok (.getfield 22, 3) := by decide +kernel
theorem dX3_readAll_63 : decode cX3_readAll 63 = .ok (.iconst 1, 1) := by decide +kernel
theorem dX3_readAll_64 : decode cX3_readAll 64 = .ok (.iadd, 1) := by decide +kernel
theorem dX3_readAll_65 : decode cX3_readAll 65 = .ok (.putfield 22, 3) := by decide +kernel
theorem dX3_readAll_68 : decode cX3_readAll 68 = .ok (.aload_n 0, 1) := by decide +kernel
theorem dX3_readAll_69 : decode cX3_readAll 69 = .ok (.invokevirtual 48, 3) := by decide +kernel
theorem dX3_readAll_72 : decode cX3_readAll 72 = .ok (.aload_n 0, 1) := by decide +kernel
theorem dX3_readAll_73 : decode cX3_readAll 73 = .ok (.getfield 51, 3) := by decide +kernel
theorem dX3_readAll_76 : decode cX3_readAll 76 = .ok (.ifCond .ne 5, 3) := by decide +kernel
theorem dX3_readAll_79 : decode cX3_readAll 79 = .ok (.iconst (-1), 1) := by decide +kernel
theorem dX3_readAll_80 : decode cX3_readAll 80 = .ok (.ireturn, 1) := by decide +kernel
theorem dX3_readAll_81 : decode cX3_readAll 81 = .ok (.aload_n 0, 1) := by decide +kernel
theorem dX3_readAll_82 : decode cX3_readAll 82 = .ok (.getfield 51, 3) := by decide +kernel
theorem dX3_readAll_85 : decode cX3_readAll 85 = .ok (.iconst 3, 1) := by decide +kernel
theorem dX3_readAll_86 : decode cX3_readAll 86 = .ok (.if_icmp .eq (-55), 3) := by decide +kernel
theorem dX3_readAll_89 : decode cX3_readAll 89 = .ok (.aload_n 0, 1) := by decide +kernel
theorem dX3_readAll_90 : decode cX3_readAll 90 = .ok (.getfield 45, 3) := by decide +kernel
theorem dX3_readAll_93 : decode cX3_readAll 93 = .ok (.ireturn, 1) := by decide +kernel
theorem dX3_readAll_94 : decode cX3_readAll 94 = .ok (.aload_n 0, 1) := by decide +kernel
theorem dX3_readAll_95 : decode cX3_readAll 95 = .ok (.getfield 45, 3) := by decide +kernel
theorem dX3_readAll_98 : decode cX3_readAll 98 = .ok (.ireturn, 1) := by decide +kernel
theorem dX3_readLine_0 : decode cX3_readLine 0 = .ok (.aload_n 0, 1) := by decide +kernel
theorem dX3_readLine_1 : decode cX3_readLine 1 = .ok (.invokevirtual 48, 3) := by decide +kernel
theorem dX3_readLine_4 : decode cX3_readLine 4 = .ok (.aload_n 0, 1) := by decide +kernel
theorem dX3_readLine_5 : decode cX3_readLine 5 = .ok (.invokevirtual 54, 3) := by decide +kernel
theorem dX3_readLine_8 : decode cX3_readLine 8 = .ok (.istore_n 2, 1) := by decide +kernel
theorem dX3_readLine_9 : decode cX3_readLine 9 = .ok (.iload_n 2, 1) := by decide +kernel
theorem dX3_readLine_10 : decode cX3_readLine 10 = .ok (.ifCond .eq 11, 3) := by decide +kernel
theorem dX3_readLine_13 : decode cX3_readLine 13 = .ok (.aload_n 0, 1) := by decide +kernel
theorem dX3_readLine_14 : decode cX3_readLine 14 = .ok (.iload_n 2, 1) := by decide +kernel
theorem dX3_readLine_15 : decode cX3_readLine 15 = .ok (.invokevirtual 58, 3) := by decide +kernel
theorem dX3_readLine_18 : decode cX3_readLine 18 = .ok (.ifCond .eq 5, 3) := by decide +kernel
theorem dX3_readLine_21 : decode cX3_readLine 21 = .ok (.iconst 0, 1) := by decide +kernel
theorem dX3_readLine_22 : decode cX3_readLine 22 = .ok (.ireturn, 1) := by decide +kernel
theorem dX3_readLine_23 : decode cX3_readLine 23 = .ok (.iconst 0, 1) := by decide +kernel
theorem dX3_readLine_24 : decode cX3_readLine 24 = .ok (.istore_n 3, 1) := by decide +kernel
theorem dX3_readLine_25 : decode cX3_readLine 25 = .ok (.iload_n 3, 1) := by decide +kernel
theorem dX3_readLine_26 : decode cX3_readLine 26 = .ok (.iload_n 2, 1) := by decide +kernel
theorem dX3_readLine_27 : decode cX3_readLine 27 = .ok (.invokestatic 61, 3) := by decide +kernel
theorem dX3_readLine_30 : decode cX3_readLine 30 = .ok (.if_icmp .ge 45, 3) := by decide +kernel
theorem dX3_readLine_33 : decode cX3_readLine 33 = .ok (.aload_n 0, 1) := by decide +kernel
theorem dX3_readLine_34 : decode cX3_readLine 34 = .ok (.invokevirtual 48, 3) := by decide +kernel
theorem dX3_readLine_37 : decode cX3_readLine 37 = .ok (.aload_n 0, 1) := by decide +kernel
theorem dX3_readLine_38 : decode cX3_readLine 38 = .ok (.getfield 51, 3) := by decide +kernel
theorem dX3_readLine_41 : decode cX3_readLine 41 = .ok (.iconst 2, 1) := by decide +kernel
theorem dX3_readLine_42 : decode cX3_readLine 42 = .ok (.if_icmp .ne 13, 3) := by decide +kernel
theorem dX3_readLine_45 : decode cX3_readLine 45 = .ok (.aload_n 0, 1) := by decide +kernel
theorem dX3_readLine_46 : decode cX3_readLine 46 = .ok (.iload_n 2, 1) := by decide +kernel
theorem dX3_readLine_47 : decode cX3_readLine 47 = .ok (.iload_n 3, 1) := by decide +kernel
theorem dX3_readLine_48 : decode cX3_readLine 48 = .ok (.iload_n 1, 1) := by decide +kernel
theorem dX3_readLine_49 : decode cX3_readLine 49 = .ok (.invokevirtual 65, 3) := by decide +kernel
theorem dX3_readLine_52 : decode cX3_readLine 52 = .ok (.ifCond .ne 5, 3) := by decide +kernel
theorem dX3_readLine_55 : decode cX3_readLine 55 = .ok (.iconst 0, 1) := by decide +kernel
theorem dX3_readLine_56 : decode cX3_readLine 56 = .ok (.ireturn, 1) := by decide +kernel
theorem dX3_readLine_57 : decode cX3_readLine 57 = .ok (.aload_n 0, 1) := by decide +kernel
theorem dX3_readLine_58 : decode cX3_readLine 58 = .ok (.getfield 15, 3) := by decide +kernel
theorem dX3_readLine_61 : decode cX3_readLine 61 = .ok (.iload_n 1, 1) := by decide +kernel
theorem dX3_readLine_62 : decode cX3_readLine 62 = .ok (.iload_n 3, 1) := by decide +kernel
theorem dX3_readLine_63 : decode cX3_readLine 63 = .ok (.iadd, 1) := by decide +kernel
theorem dX3_readLine_64 : decode cX3_readLine 64 = .ok (.aload_n 0, 1) := by decide +kernel
theorem dX3_readLine_65 : decode cX3_readLine 65 = .ok (.getfield 69, 3) := by decide +kernel
theorem dX3_readLine_68 : decode cX3_readLine 68 = .ok (.iastore, 1) := by decide +kernel
theorem dX3_readLine_69 : decode cX3_readLine 69 = .ok (.iinc 3 1, 3) := by decide +kernel
theorem dX3_readLine_72 : decode cX3_readLine 72 = .ok (.goto (-47), 3) := by decide +kernel
theorem dX3_readLine_75 : decode cX3_readLine 75 = .ok (.aload_n 0, 1) := by decide +kernel
theorem dX3_readLine_76 : decode cX3_readLine 76 = .ok (.getfield 9, 3) := by decide +kernel
theorem dX3_readLine_79 : decode cX3_readLine 79 = .ok (.aload_n 0, 1) := by decide +kernel
theorem dX3_readLine_80 : decode cX3_readLine 80 = .ok (.getfield 22, 3) := by decide +kernel
theorem dX3_readLine_83 : decode cX3_readLine 83 = .ok (.iload_n 2, 1) := by decide +kernel
theorem dX3_readLine_84 : decode cX3_readLine 84 = .ok (.iastore, 1) := by decide +kernel
theorem dX3_readLine_85 : decode cX3_readLine 85 = .ok (.aload_n 0, 1) := by decide +kernel
theorem dX3_readLine_86 : decode cX3_readLine 86 = .ok (.iload_n 2, 1) := by decide +kernel
theorem dX3_readLine_87 : decode cX3_readLine 87 = .ok (.aload_n 0, 1) := by decide +kernel
theorem dX3_readLine_88 : decode cX3_readLine 88 = .ok (.getfield 15, 3) := by decide +kernel
theorem dX3_readLine_91 : decode cX3_readLine 91 = .ok (.iload_n 1, 1) := by decide +kernel
theorem dX3_readLine_92 : decode cX3_readLine 92 = .ok (.iaload, 1) := by decide +kernel
theorem dX3_readLine_93 : decode cX3_readLine 93 = .ok (.invokevirtual 72, 3) := by decide +kernel
theorem dX3_readLine_96 : decode cX3_readLine 96 = .ok (.iconst 1, 1) := by decide +kernel
theorem dX3_readLine_97 : decode cX3_readLine 97 = .ok (.ireturn, 1) := by decide +kernel
theorem dX3_canStand_0 : decode cX3_canStand 0 = .ok (.iload_n 1, 1) := by decide +kernel
theorem dX3_canStand_1 : decode cX3_canStand 1 = .ok (.iconst 4, 1) := by decide +kernel
theorem dX3_canStand_2 : decode cX3_canStand 2 = .ok (.if_icmp .ne 23, 3) := by decide +kernel
theorem dX3_canStand_5 : decode cX3_canStand 5 = .ok (.iload_n 2, 1) := by decide +kernel
theorem dX3_canStand_6 : decode cX3_canStand 6 = .ok (.iconst 1, 1) := by decide +kernel
theorem dX3_canStand_7 : decode cX3_canStand 7 = .ok (.if_icmp .ne 18, 3) := by decide +kernel
theorem dX3_canStand_10 : decode cX3_canStand 10 = .ok (.aload_n 0, 1) := by decide +kernel
theorem dX3_canStand_11 : decode cX3_canStand 11 = .ok (.getfield 69, 3) := by decide +kernel
theorem dX3_canStand_14 : decode cX3_canStand 14 = .ok (.aload_n 0, 1) := by decide +kernel
theorem dX3_canStand_15 : decode cX3_canStand 15 = .ok (.getfield 15, 3) := by decide +kernel
theorem dX3_canStand_18 : decode cX3_canStand 18 = .ok (.iload_n 3, 1) := by decide +kernel
theorem dX3_canStand_19 : decode cX3_canStand 19 = .ok (.iaload, 1) := by decide +kernel
theorem dX3_canStand_20 : decode cX3_canStand 20 = .ok (.if_icmp .ne 5, 3) := by decide +kernel
theorem dX3_canStand_23 : decode cX3_canStand 23 = .ok (.iconst 0, 1) := by decide +kernel
theorem dX3_canStand_24 : decode cX3_canStand 24 = .ok (.ireturn, 1) := by decide +kernel
theorem dX3_canStand_25 : decode cX3_canStand 25 = .ok (.iload_n 1, 1) := by decide +kernel
theorem dX3_canStand_26 : decode cX3_canStand 26 = .ok (.bipush 6, 2) := by decide +kernel
theorem dX3_canStand_28 : decode cX3_canStand 28 = .ok (.if_icmp .ne 21, 3) := by decide +kernel
theorem dX3_canStand_31 : decode cX3_canStand 31 = .ok (.iload_n 2, 1) := by decide +kernel
theorem dX3_canStand_32 : decode cX3_canStand 32 = .ok (.iconst 2, 1) := by decide +kernel
theorem dX3_canStand_33 : decode cX3_canStand 33 = .ok (.if_icmp .ne 16, 3) := by decide +kernel
theorem dX3_canStand_36 : decode cX3_canStand 36 = .ok (.aload_n 0, 1) := by decide +kernel
theorem dX3_canStand_37 : decode cX3_canStand 37 = .ok (.getfield 15, 3) := by decide +kernel
theorem dX3_canStand_40 : decode cX3_canStand 40 = .ok (.iload_n 3, 1) := by decide +kernel
theorem dX3_canStand_41 : decode cX3_canStand 41 = .ok (.iconst 1, 1) := by decide +kernel
theorem dX3_canStand_42 : decode cX3_canStand 42 = .ok (.iadd, 1) := by decide +kernel
theorem dX3_canStand_43 : decode cX3_canStand 43 = .ok (.iaload, 1) := by decide +kernel
theorem dX3_canStand_44 : decode cX3_canStand 44 = .ok (.iconst 1, 1) := by decide +kernel
theorem dX3_canStand_45 : decode cX3_canStand 45 = .ok (.iadd, 1) := by decide +kernel
theorem dX3_canStand_46 : decode cX3_canStand 46 = .ok (.goto 8, 3) := by decide +kernel
theorem dX3_canStand_49 : decode cX3_canStand 49 = .ok (.iload_n 1, 1) := by decide +kernel
theorem dX3_canStand_50 : decode cX3_canStand 50 = .ok (.iload_n 2, 1) := by decide +kernel
theorem dX3_canStand_51 : decode cX3_canStand 51 = .ok (.invokestatic 76, 3) := by decide +kernel
theorem dX3_canStand_54 : decode cX3_canStand 54 = .ok (.istore 4, 2) := by decide +kernel
theorem dX3_canStand_56 : decode cX3_canStand 56 = .ok (.aload_n 0, 1) := by decide +kernel
theorem dX3_canStand_57 : decode cX3_canStand 57 = .ok (.getfield 69, 3) := by decide +kernel
theorem dX3_canStand_60 : decode cX3_canStand 60 = .ok (.iload 4, 2) := by decide +kernel
theorem dX3_canStand_62 : decode cX3_canStand 62 = .ok (.if_icmp .lt 20, 3) := by decide +kernel
theorem dX3_canStand_65 : decode cX3_canStand 65 = .ok (.aload_n 0, 1) := by decide +kernel
theorem dX3_canStand_66 : decode cX3_canStand 66 = .ok (.getfield 69, 3) := by decide +kernel
theorem dX3_canStand_69 : decode cX3_canStand 69 = .ok (.aload_n 0, 1) := by decide +kernel
theorem dX3_canStand_70 : decode cX3_canStand 70 = .ok (.iload_n 1, 1) := by decide +kernel
theorem dX3_canStand_71 : decode cX3_canStand 71 = .ok (.iload_n 2, 1) := by decide +kernel
theorem dX3_canStand_72 : decode cX3_canStand 72 = .ok (.invokevirtual 80, 3) := by decide +kernel
theorem dX3_canStand_75 : decode cX3_canStand 75 = .ok (.if_icmp .gt 7, 3) := by decide +kernel
theorem dX3_canStand_78 : decode cX3_canStand 78 = .ok (.iconst 1, 1) := by decide +kernel
theorem dX3_canStand_79 : decode cX3_canStand 79 = .ok (.goto 4, 3) := by decide +kernel
theorem dX3_canStand_82 : decode cX3_canStand 82 = .ok (.iconst 0, 1) := by decide +kernel
theorem dX3_canStand_83 : decode cX3_canStand 83 = .ok (.ireturn, 1) := by decide +kernel
theorem dX3_isFull_0 : decode cX3_isFull 0 = .ok (.iload_n 1, 1) := by decide +kernel
theorem dX3_isFull_1 : decode cX3_isFull 1 = .ok (.tableswitch 72 4 6 #[27, 42, 57], 27) := by decide +kernel
theorem dX3_isFull_28 : decode cX3_isFull 28 = .ok (.aload_n 0, 1) := by decide +kernel
theorem dX3_isFull_29 : decode cX3_isFull 29 = .ok (.getfield 29, 3) := by decide +kernel
theorem dX3_isFull_32 : decode cX3_isFull 32 = .ok (.bipush 8, 2) := by decide +kernel
theorem dX3_isFull_34 : decode cX3_isFull 34 = .ok (.if_icmp .lt 7, 3) := by decide +kernel
theorem dX3_isFull_37 : decode cX3_isFull 37 = .ok (.iconst 1, 1) := by decide +kernel
theorem dX3_isFull_38 : decode cX3_isFull 38 = .ok (.goto 4, 3) := by decide +kernel
theorem dX3_isFull_41 : decode cX3_isFull 41 = .ok (.iconst 0, 1) := by decide +kernel
theorem dX3_isFull_42 : decode cX3_isFull 42 = .ok (.ireturn, 1) := by decide +kernel
theorem dX3_isFull_43 : decode cX3_isFull 43 = .ok (.aload_n 0, 1) := by decide +kernel
theorem dX3_isFull_44 : decode cX3_isFull 44 = .ok (.getfield 32, 3) := by decide +kernel
theorem dX3_isFull_47 : decode cX3_isFull 47 = .ok (.bipush 10, 2) := by decide +kernel
theorem dX3_isFull_49 : decode cX3_isFull 49 = .ok (.if_icmp .lt 7, 3) := by decide +kernel
theorem dX3_isFull_52 : decode cX3_isFull 52 = .ok (.iconst 1, 1) := by decide +kernel
theorem dX3_isFull_53 : decode cX3_isFull 53 = .ok (.goto 4, 3) := by decide +kernel
theorem dX3_isFull_56 : decode cX3_isFull 56 = .ok (.iconst 0, 1) := by decide +kernel
theorem dX3_isFull_57 : decode cX3_isFull 57 = .ok (.ireturn, 1) := by decide +kernel
theorem dX3_isFull_58 : decode cX3_isFull 58 = .ok (.aload_n 0, 1) := by decide +kernel
theorem dX3_isFull_59 : decode cX3_isFull 59 = .ok (.getfield 35, 3) := by decide +kernel
theorem dX3_isFull_62 : decode cX3_isFull 62 = .ok (.bipush 6, 2) := by decide +kernel
theorem dX3_isFull_64 : decode cX3_isFull 64 = .ok (.if_icmp .lt 7, 3) := by decide +kernel
theorem dX3_isFull_67 : decode cX3_isFull 67 = .ok (.iconst 1, 1) := by decide +kernel
theorem dX3_isFull_68 : decode cX3_isFull 68 = .ok (.goto 4, 3) := by decide +kernel
theorem dX3_isFull_71 : decode cX3_isFull 71 = .ok (.iconst 0, 1) := by decide +kernel
theorem dX3_isFull_72 : decode cX3_isFull 72 = .ok (.ireturn, 1) := by decide +kernel
theorem dX3_isFull_73 : decode cX3_isFull 73 = .ok (.iconst 0, 1) := by decide +kernel
theorem dX3_isFull_74 : decode cX3_isFull 74 = .ok (.ireturn, 1) := by decide +kernel
theorem dX3_foresee_0 : decode cX3_foresee 0 = .ok (.iload_n 1, 1) := by decide +kernel
theorem dX3_foresee_1 : decode cX3_foresee 1 = .ok (.tableswitch 118 1 7 #[43, 118, 118, 66, 79, 92, 105], 43) := by decide +kernel
theorem dX3_foresee_44 : decode cX3_foresee 44 = .ok (.aload_n 0, 1) := by decide +kernel
theorem dX3_foresee_45 : decode cX3_foresee 45 = .ok (.iload_n 2, 1) := by decide +kernel
theorem dX3_foresee_46 : decode cX3_foresee 46 = .ok (.putfield 26, 3) := by decide +kernel
theorem dX3_foresee_49 : decode cX3_foresee 49 = .ok (.aload_n 0, 1) := by decide +kernel
theorem dX3_foresee_50 : decode cX3_foresee 50 = .ok (.iconst 0, 1) := by decide +kernel
theorem dX3_foresee_51 : decode cX3_foresee 51 = .ok (.putfield 29, 3) := by decide +kernel
theorem dX3_foresee_54 : decode cX3_foresee 54 = .ok (.aload_n 0, 1) := by decide +kernel
theorem dX3_foresee_55 : decode cX3_foresee 55 = .ok (.iconst 0, 1) := by decide +kernel
theorem dX3_foresee_56 : decode cX3_foresee 56 = .ok (.putfield 32, 3) := by decide +kernel
theorem dX3_foresee_59 : decode cX3_foresee 59 = .ok (.aload_n 0, 1) := by decide +kernel
theorem dX3_foresee_60 : decode cX3_foresee 60 = .ok (.iconst 0, 1) := by decide +kernel
theorem dX3_foresee_61 : decode cX3_foresee 61 = .ok (.putfield 35, 3) := by decide +kernel
theorem dX3_foresee_64 : decode cX3_foresee 64 = .ok (.goto 55, 3) := by decide +kernel
theorem dX3_foresee_67 : decode cX3_foresee 67 = .ok (.aload_n 0, 1) := by decide +kernel
theorem dX3_foresee_68 : decode cX3_foresee 68 = .ok (.dup, 1) := by decide +kernel
theorem dX3_foresee_69 : decode cX3_foresee 69 = .ok (.getfield 29, 3) := by decide +kernel
theorem dX3_foresee_72 : decode cX3_foresee 72 = .ok (.iconst 1, 1) := by decide +kernel
theorem dX3_foresee_73 : decode cX3_foresee 73 = .ok (.iadd, 1) := by decide +kernel
theorem dX3_foresee_74 : decode cX3_foresee 74 = .ok (.putfield 29, 3) := by decide +kernel
theorem dX3_foresee_77 : decode cX3_foresee 77 = .ok (.goto 42, 3) := by decide +kernel
theorem dX3_foresee_80 : decode cX3_foresee 80 = .ok (.aload_n 0, 1) := by decide +kernel
theorem dX3_foresee_81 : decode cX3_foresee 81 = .ok (.dup, 1) := by decide +kernel
theorem dX3_foresee_82 : decode cX3_foresee 82 = .ok (.getfield 32, 3) := by decide +kernel
theorem dX3_foresee_85 : decode cX3_foresee 85 = .ok (.iconst 1, 1) := by decide +kernel
theorem dX3_foresee_86 : decode cX3_foresee 86 = .ok (.iadd, 1) := by decide +kernel
theorem dX3_foresee_87 : decode cX3_foresee 87 = .ok (.putfield 32, 3) := by decide +kernel
theorem dX3_foresee_90 : decode cX3_foresee 90 = .ok (.goto 29, 3) := by decide +kernel
theorem dX3_foresee_93 : decode cX3_foresee 93 = .ok (.aload_n 0, 1) := by decide +kernel
theorem dX3_foresee_94 : decode cX3_foresee 94 = .ok (.dup, 1) := by decide +kernel
theorem dX3_foresee_95 : decode cX3_foresee 95 = .ok (.getfield 35, 3) := by decide +kernel
theorem dX3_foresee_98 : decode cX3_foresee 98 = .ok (.iconst 1, 1) := by decide +kernel
theorem dX3_foresee_99 : decode cX3_foresee 99 = .ok (.iadd, 1) := by decide +kernel
theorem dX3_foresee_100 : decode cX3_foresee 100 = .ok (.putfield 35, 3) := by decide +kernel
theorem dX3_foresee_103 : decode cX3_foresee 103 = .ok (.goto 16, 3) := by decide +kernel
theorem dX3_foresee_106 : decode cX3_foresee 106 = .ok (.aload_n 0, 1) := by decide +kernel
theorem dX3_foresee_107 : decode cX3_foresee 107 = .ok (.iconst 0, 1) := by decide +kernel
theorem dX3_foresee_108 : decode cX3_foresee 108 = .ok (.putfield 32, 3) := by decide +kernel
theorem dX3_foresee_111 : decode cX3_foresee 111 = .ok (.aload_n 0, 1) := by decide +kernel
theorem dX3_foresee_112 : decode cX3_foresee 112 = .ok (.iconst 0, 1) := by decide +kernel
theorem dX3_foresee_113 : decode cX3_foresee 113 = .ok (.putfield 35, 3) := by decide +kernel
theorem dX3_foresee_116 : decode cX3_foresee 116 = .ok (.goto 3, 3) := by decide +kernel
theorem dX3_foresee_119 : decode cX3_foresee 119 = .ok (.return_, 1) := by decide +kernel
theorem dX3_numbersOf_0 : decode cX3_numbersOf 0 = .ok (.iload_n 0, 1) := by decide +kernel
theorem dX3_numbersOf_1 : decode cX3_numbersOf 1 = .ok (.tableswitch 51 1 6 #[39, 41, 43, 45, 47, 49], 39) := by decide +kernel
theorem dX3_numbersOf_40 : decode cX3_numbersOf 40 = .ok (.iconst 1, 1) := by decide +kernel
theorem dX3_numbersOf_41 : decode cX3_numbersOf 41 = .ok (.ireturn, 1) := by decide +kernel
theorem dX3_numbersOf_42 : decode cX3_numbersOf 42 = .ok (.iconst 2, 1) := by decide +kernel
theorem dX3_numbersOf_43 : decode cX3_numbersOf 43 = .ok (.ireturn, 1) := by decide +kernel
theorem dX3_numbersOf_44 : decode cX3_numbersOf 44 = .ok (.iconst 2, 1) := by decide +kernel
theorem dX3_numbersOf_45 : decode cX3_numbersOf 45 = .ok (.ireturn, 1) := by decide +kernel
theorem dX3_numbersOf_46 : decode cX3_numbersOf 46 = .ok (.iconst 3, 1) := by decide +kernel
theorem dX3_numbersOf_47 : decode cX3_numbersOf 47 = .ok (.ireturn, 1) := by decide +kernel
theorem dX3_numbersOf_48 : decode cX3_numbersOf 48 = .ok (.iconst 3, 1) := by decide +kernel
theorem dX3_numbersOf_49 : decode cX3_numbersOf 49 = .ok (.ireturn, 1) := by decide +kernel
theorem dX3_numbersOf_50 : decode cX3_numbersOf 50 = .ok (.iconst 5, 1) := by decide +kernel
theorem dX3_numbersOf_51 : decode cX3_numbersOf 51 = .ok (.ireturn, 1) := by decide +kernel
theorem dX3_numbersOf_52 : decode cX3_numbersOf 52 = .ok (.iconst 0, 1) := by decide +kernel
theorem dX3_numbersOf_53 : decode cX3_numbersOf 53 = .ok (.ireturn, 1) := by decide +kernel
theorem dX3_leastOf_0 : decode cX3_leastOf 0 = .ok (.iload_n 0, 1) := by decide +kernel
theorem dX3_leastOf_1 : decode cX3_leastOf 1 = .ok (.tableswitch 64 1 4 #[31, 33, 43, 53], 31) := by decide +kernel
theorem dX3_leastOf_32 : decode cX3_leastOf 32 = .ok (.iconst 2, 1) := by decide +kernel
theorem dX3_leastOf_33 : decode cX3_leastOf 33 = .ok (.ireturn, 1) := by decide +kernel
theorem dX3_leastOf_34 : decode cX3_leastOf 34 = .ok (.iload_n 1, 1) := by decide +kernel
theorem dX3_leastOf_35 : decode cX3_leastOf 35 = .ok (.ifCond .ne 7, 3) := by decide +kernel
theorem dX3_leastOf_38 : decode cX3_leastOf 38 = .ok (.iconst 1, 1) := by decide +kernel
theorem dX3_leastOf_39 : decode cX3_leastOf 39 = .ok (.goto 4, 3) := by decide +kernel
theorem dX3_leastOf_42 : decode cX3_leastOf 42 = .ok (.iconst 0, 1) := by decide +kernel
theorem dX3_leastOf_43 : decode cX3_leastOf 43 = .ok (.ireturn, 1) := by decide +kernel
theorem dX3_leastOf_44 : decode cX3_leastOf 44 = .ok (.iload_n 1, 1) := by decide +kernel
theorem dX3_leastOf_45 : decode cX3_leastOf 45 = .ok (.ifCond .ne 7, 3) := by decide +kernel
theorem dX3_leastOf_48 : decode cX3_leastOf 48 = .ok (.iconst 0, 1) := by decide +kernel
theorem dX3_leastOf_49 : decode cX3_leastOf 49 = .ok (.goto 4, 3) := by decide +kernel
theorem dX3_leastOf_52 : decode cX3_leastOf 52 = .ok (.iconst 1, 1) := by decide +kernel
theorem dX3_leastOf_53 : decode cX3_leastOf 53 = .ok (.ireturn, 1) := by decide +kernel
theorem dX3_leastOf_54 : decode cX3_leastOf 54 = .ok (.iload_n 1, 1) := by decide +kernel
theorem dX3_leastOf_55 : decode cX3_leastOf 55 = .ok (.iconst 2, 1) := by decide +kernel
theorem dX3_leastOf_56 : decode cX3_leastOf 56 = .ok (.if_icmp .ne 7, 3) := by decide +kernel
theorem dX3_leastOf_59 : decode cX3_leastOf 59 = .ok (.iconst 1, 1) := by decide +kernel
theorem dX3_leastOf_60 : decode cX3_leastOf 60 = .ok (.goto 4, 3) := by decide +kernel
theorem dX3_leastOf_63 : decode cX3_leastOf 63 = .ok (.iconst 0, 1) := by decide +kernel
theorem dX3_leastOf_64 : decode cX3_leastOf 64 = .ok (.ireturn, 1) := by decide +kernel
theorem dX3_leastOf_65 : decode cX3_leastOf 65 = .ok (.iconst 0, 1) := by decide +kernel
theorem dX3_leastOf_66 : decode cX3_leastOf 66 = .ok (.ireturn, 1) := by decide +kernel
theorem dX3_greatestOf_0 : decode cX3_greatestOf 0 = .ok (.iload_n 1, 1) := by decide +kernel
theorem dX3_greatestOf_1 : decode cX3_greatestOf 1 = .ok (.tableswitch 146 1 6 #[39, 42, 59, 75, 92, 119], 39) := by decide +kernel
theorem dX3_greatestOf_40 : decode cX3_greatestOf 40 = .ok (.bipush 10, 2) := by decide +kernel
theorem dX3_greatestOf_42 : decode cX3_greatestOf 42 = .ok (.ireturn, 1) := by decide +kernel
theorem dX3_greatestOf_43 : decode cX3_greatestOf 43 = .ok (.iload_n 2, 1) := by decide +kernel
theorem dX3_greatestOf_44 : decode cX3_greatestOf 44 = .ok (.ifCond .ne 12, 3) := by decide +kernel
theorem dX3_greatestOf_47 : decode cX3_greatestOf 47 = .ok (.aload_n 0, 1) := by decide +kernel
theorem dX3_greatestOf_48 : decode cX3_greatestOf 48 = .ok (.getfield 26, 3) := by decide +kernel
theorem dX3_greatestOf_51 : decode cX3_greatestOf 51 = .ok (.iconst 1, 1) := by decide +kernel
theorem dX3_greatestOf_52 : decode cX3_greatestOf 52 = .ok (.isub, 1) := by decide +kernel
theorem dX3_greatestOf_53 : decode cX3_greatestOf 53 = .ok (.goto 6, 3) := by decide +kernel
theorem dX3_greatestOf_56 : decode cX3_greatestOf 56 = .ok (.sipush 999, 3) := by decide +kernel
theorem dX3_greatestOf_59 : decode cX3_greatestOf 59 = .ok (.ireturn, 1) := by decide +kernel
theorem dX3_greatestOf_60 : decode cX3_greatestOf 60 = .ok (.iload_n 2, 1) := by decide +kernel
theorem dX3_greatestOf_61 : decode cX3_greatestOf 61 = .ok (.ifCond .ne 12, 3) := by decide +kernel
theorem dX3_greatestOf_64 : decode cX3_greatestOf 64 = .ok (.aload_n 0, 1) := by decide +kernel
theorem dX3_greatestOf_65 : decode cX3_greatestOf 65 = .ok (.getfield 26, 3) := by decide +kernel
theorem dX3_greatestOf_68 : decode cX3_greatestOf 68 = .ok (.iconst 2, 1) := by decide +kernel
theorem dX3_greatestOf_69 : decode cX3_greatestOf 69 = .ok (.isub, 1) := by decide +kernel
theorem dX3_greatestOf_70 : decode cX3_greatestOf 70 = .ok (.goto 5, 3) := by decide +kernel
theorem dX3_greatestOf_73 : decode cX3_greatestOf 73 = .ok (.bipush 99, 2) := by decide +kernel
theorem dX3_greatestOf_75 : decode cX3_greatestOf 75 = .ok (.ireturn, 1) := by decide +kernel
theorem dX3_greatestOf_76 : decode cX3_greatestOf 76 = .ok (.iload_n 2, 1) := by decide +kernel
theorem dX3_greatestOf_77 : decode cX3_greatestOf 77 = .ok (.iconst 1, 1) := by decide +kernel
theorem dX3_greatestOf_78 : decode cX3_greatestOf 78 = .ok (.if_icmp .gt 12, 3) := by decide +kernel
theorem dX3_greatestOf_81 : decode cX3_greatestOf 81 = .ok (.aload_n 0, 1) := by decide +kernel
theorem dX3_greatestOf_82 : decode cX3_greatestOf 82 = .ok (.getfield 26, 3) := by decide +kernel
theorem dX3_greatestOf_85 : decode cX3_greatestOf 85 = .ok (.iconst 1, 1) := by decide +kernel
theorem dX3_greatestOf_86 : decode cX3_greatestOf 86 = .ok (.isub, 1) := by decide +kernel
theorem dX3_greatestOf_87 : decode cX3_greatestOf 87 = .ok (.goto 5, 3) := by decide +kernel
theorem dX3_greatestOf_90 : decode cX3_greatestOf 90 = .ok (.bipush 99, 2) := by decide +kernel
theorem dX3_greatestOf_92 : decode cX3_greatestOf 92 = .ok (.ireturn, 1) := by decide +kernel
theorem dX3_greatestOf_93 : decode cX3_greatestOf 93 = .ok (.iload_n 2, 1) := by decide +kernel
theorem dX3_greatestOf_94 : decode cX3_greatestOf 94 = .ok (.ifCond .ne 12, 3) := by decide +kernel
theorem dX3_greatestOf_97 : decode cX3_greatestOf 97 = .ok (.aload_n 0, 1) := by decide +kernel
theorem dX3_greatestOf_98 : decode cX3_greatestOf 98 = .ok (.getfield 26, 3) := by decide +kernel
theorem dX3_greatestOf_101 : decode cX3_greatestOf 101 = .ok (.iconst 1, 1) := by decide +kernel
theorem dX3_greatestOf_102 : decode cX3_greatestOf 102 = .ok (.isub, 1) := by decide +kernel
theorem dX3_greatestOf_103 : decode cX3_greatestOf 103 = .ok (.goto 16, 3) := by decide +kernel
theorem dX3_greatestOf_106 : decode cX3_greatestOf 106 = .ok (.iload_n 2, 1) := by decide +kernel
theorem dX3_greatestOf_107 : decode cX3_greatestOf 107 = .ok (.iconst 1, 1) := by decide +kernel
theorem dX3_greatestOf_108 : decode cX3_greatestOf 108 = .ok (.if_icmp .ne 9, 3) := by decide +kernel
theorem dX3_greatestOf_111 : decode cX3_greatestOf 111 = .ok (.sipush 1439, 3) := by decide +kernel
theorem dX3_greatestOf_114 : decode cX3_greatestOf 114 = .ok (.goto 5, 3) := by decide +kernel
theorem dX3_greatestOf_117 : decode cX3_greatestOf 117 = .ok (.bipush 99, 2) := by decide +kernel
theorem dX3_greatestOf_119 : decode cX3_greatestOf 119 = .ok (.ireturn, 1) := by decide +kernel
theorem dX3_greatestOf_120 : decode cX3_greatestOf 120 = .ok (.iload_n 2, 1) := by decide +kernel
theorem dX3_greatestOf_121 : decode cX3_greatestOf 121 = .ok (.ifCond .ne 12, 3) := by decide +kernel
theorem dX3_greatestOf_124 : decode cX3_greatestOf 124 = .ok (.aload_n 0, 1) := by decide +kernel
theorem dX3_greatestOf_125 : decode cX3_greatestOf 125 = .ok (.getfield 26, 3) := by decide +kernel
theorem dX3_greatestOf_128 : decode cX3_greatestOf 128 = .ok (.iconst 1, 1) := by decide +kernel
theorem dX3_greatestOf_129 : decode cX3_greatestOf 129 = .ok (.isub, 1) := by decide +kernel
theorem dX3_greatestOf_130 : decode cX3_greatestOf 130 = .ok (.goto 16, 3) := by decide +kernel
theorem dX3_greatestOf_133 : decode cX3_greatestOf 133 = .ok (.iload_n 2, 1) := by decide +kernel
theorem dX3_greatestOf_134 : decode cX3_greatestOf 134 = .ok (.iconst 2, 1) := by decide +kernel
theorem dX3_greatestOf_135 : decode cX3_greatestOf 135 = .ok (.if_icmp .gt 9, 3) := by decide +kernel
theorem dX3_greatestOf_138 : decode cX3_greatestOf 138 = .ok (.sipush 1439, 3) := by decide +kernel
theorem dX3_greatestOf_141 : decode cX3_greatestOf 141 = .ok (.goto 5, 3) := by decide +kernel
theorem dX3_greatestOf_144 : decode cX3_greatestOf 144 = .ok (.bipush 99, 2) := by decide +kernel
theorem dX3_greatestOf_146 : decode cX3_greatestOf 146 = .ok (.ireturn, 1) := by decide +kernel
theorem dX3_greatestOf_147 : decode cX3_greatestOf 147 = .ok (.iconst (-1), 1) := by decide +kernel
theorem dX3_greatestOf_148 : decode cX3_greatestOf 148 = .ok (.ireturn, 1) := by decide +kernel
theorem dX3_readToken_0 : decode cX3_readToken 0 = .ok (.aload_n 0, 1) := by decide +kernel
theorem dX3_readToken_1 : decode cX3_readToken 1 = .ok (.getfield 38, 3) := by decide +kernel
theorem dX3_readToken_4 : decode cX3_readToken 4 = .ok (.aload_n 0, 1) := by decide +kernel
theorem dX3_readToken_5 : decode cX3_readToken 5 = .ok (.getfield 18, 3) := by decide +kernel
theorem dX3_readToken_8 : decode cX3_readToken 8 = .ok (.getfield 83, 3) := by decide +kernel
theorem dX3_readToken_11 : decode cX3_readToken 11 = .ok (.if_icmp .ge 33, 3) := by decide +kernel
theorem dX3_readToken_14 : decode cX3_readToken 14 = .ok (.aload_n 0, 1) := by decide +kernel
theorem dX3_readToken_15 : decode cX3_readToken 15 = .ok (.getfield 18, 3) := by decide +kernel
theorem dX3_readToken_18 : decode cX3_readToken 18 = .ok (.getfield 88, 3) := by decide +kernel
theorem dX3_readToken_21 : decode cX3_readToken 21 = .ok (.aload_n 0, 1) := by decide +kernel
theorem dX3_readToken_22 : decode cX3_readToken 22 = .ok (.getfield 38, 3) := by decide +kernel
theorem dX3_readToken_25 : decode cX3_readToken 25 = .ok (.iaload, 1) := by decide +kernel
theorem dX3_readToken_26 : decode cX3_readToken 26 = .ok (.bipush 32, 2) := by decide +kernel
theorem dX3_readToken_28 : decode cX3_readToken 28 = .ok (.if_icmp .ne 16, 3) := by decide +kernel
theorem dX3_readToken_31 : decode cX3_readToken 31 = .ok (.aload_n 0, 1) := by decide +kernel
theorem dX3_readToken_32 : decode cX3_readToken 32 = .ok (.dup, 1) := by decide +kernel
theorem dX3_readToken_33 : decode cX3_readToken 33 = .ok (.getfield 38, 3) := by decide +kernel
theorem dX3_readToken_36 : decode cX3_readToken 36 = .ok (.iconst 1, 1) := by decide +kernel
theorem dX3_readToken_37 : decode cX3_readToken 37 = .ok (.iadd, 1) := by decide +kernel
theorem dX3_readToken_38 : decode cX3_readToken 38 = .ok (.putfield 38, 3) := by decide +kernel
theorem dX3_readToken_41 : decode cX3_readToken 41 = .ok (.goto (-41), 3) := by decide +kernel
theorem dX3_readToken_44 : decode cX3_readToken 44 = .ok (.aload_n 0, 1) := by decide +kernel
theorem dX3_readToken_45 : decode cX3_readToken 45 = .ok (.aload_n 0, 1) := by decide +kernel
theorem dX3_readToken_46 : decode cX3_readToken 46 = .ok (.getfield 38, 3) := by decide +kernel
theorem dX3_readToken_49 : decode cX3_readToken 49 = .ok (.putfield 45, 3) := by decide +kernel
theorem dX3_readToken_52 : decode cX3_readToken 52 = .ok (.aload_n 0, 1) := by decide +kernel
theorem dX3_readToken_53 : decode cX3_readToken 53 = .ok (.getfield 38, 3) := by decide +kernel
theorem dX3_readToken_56 : decode cX3_readToken 56 = .ok (.aload_n 0, 1) := by decide +kernel
theorem dX3_readToken_57 : decode cX3_readToken 57 = .ok (.getfield 18, 3) := by decide +kernel
theorem dX3_readToken_60 : decode cX3_readToken 60 = .ok (.getfield 83, 3) := by decide +kernel
theorem dX3_readToken_63 : decode cX3_readToken 63 = .ok (.if_icmp .lt 11, 3) := by decide +kernel
theorem dX3_readToken_66 : decode cX3_readToken 66 = .ok (.aload_n 0, 1) := by decide +kernel
theorem dX3_readToken_67 : decode cX3_readToken 67 = .ok (.iconst 0, 1) := by decide +kernel
theorem dX3_readToken_68 : decode cX3_readToken 68 = .ok (.putfield 51, 3) := by decide +kernel
theorem dX3_readToken_71 : decode cX3_readToken 71 = .ok (.goto 99, 3) := by decide +kernel
theorem dX3_readToken_74 : decode cX3_readToken 74 = .ok (.aload_n 0, 1) := by decide +kernel
theorem dX3_readToken_75 : decode cX3_readToken 75 = .ok (.getfield 18, 3) := by decide +kernel
theorem dX3_readToken_78 : decode cX3_readToken 78 = .ok (.getfield 88, 3) := by decide +kernel
theorem dX3_readToken_81 : decode cX3_readToken 81 = .ok (.aload_n 0, 1) := by decide +kernel
theorem dX3_readToken_82 : decode cX3_readToken 82 = .ok (.getfield 38, 3) := by decide +kernel
theorem dX3_readToken_85 : decode cX3_readToken 85 = .ok (.iaload, 1) := by decide +kernel
theorem dX3_readToken_86 : decode cX3_readToken 86 = .ok (.invokestatic 91, 3) := by decide +kernel
theorem dX3_readToken_89 : decode cX3_readToken 89 = .ok (.ifCond .eq 15, 3) := by decide +kernel
theorem dX3_readToken_92 : decode cX3_readToken 92 = .ok (.aload_n 0, 1) := by decide +kernel
theorem dX3_readToken_93 : decode cX3_readToken 93 = .ok (.iconst 1, 1) := by decide +kernel
theorem dX3_readToken_94 : decode cX3_readToken 94 = .ok (.putfield 51, 3) := by decide +kernel
theorem dX3_readToken_97 : decode cX3_readToken 97 = .ok (.aload_n 0, 1) := by decide +kernel
theorem dX3_readToken_98 : decode cX3_readToken 98 = .ok (.invokevirtual 94, 3) := by decide +kernel
theorem dX3_readToken_101 : decode cX3_readToken 101 = .ok (.goto 69, 3) := by decide +kernel
theorem dX3_readToken_104 : decode cX3_readToken 104 = .ok (.aload_n 0, 1) := by decide +kernel
theorem dX3_readToken_105 : decode cX3_readToken 105 = .ok (.getfield 18, 3) := by decide +kernel
theorem dX3_readToken_108 : decode cX3_readToken 108 = .ok (.getfield 88, 3) := by decide +kernel
theorem dX3_readToken_111 : decode cX3_readToken 111 = .ok (.aload_n 0, 1) := by decide +kernel
theorem dX3_readToken_112 : decode cX3_readToken 112 = .ok (.getfield 38, 3) := by decide +kernel
theorem dX3_readToken_115 : decode cX3_readToken 115 = .ok (.iaload, 1) := by decide +kernel
theorem dX3_readToken_116 : decode cX3_readToken 116 = .ok (.invokestatic 97, 3) := by decide +kernel
theorem dX3_readToken_119 : decode cX3_readToken 119 = .ok (.ifCond .eq 15, 3) := by decide +kernel
theorem dX3_readToken_122 : decode cX3_readToken 122 = .ok (.aload_n 0, 1) := by decide +kernel
theorem dX3_readToken_123 : decode cX3_readToken 123 = .ok (.iconst 2, 1) := by decide +kernel
theorem dX3_readToken_124 : decode cX3_readToken 124 = .ok (.putfield 51, 3) := by decide +kernel
theorem dX3_readToken_127 : decode cX3_readToken 127 = .ok (.aload_n 0, 1) := by decide +kernel
theorem dX3_readToken_128 : decode cX3_readToken 128 = .ok (.invokevirtual 100, 3) := by decide +kernel
theorem dX3_readToken_131 : decode cX3_readToken 131 = .ok (.goto 39, 3) := by decide +kernel
theorem dX3_readToken_134 : decode cX3_readToken 134 = .ok (.aload_n 0, 1) := by decide +kernel
theorem dX3_readToken_135 : decode cX3_readToken 135 = .ok (.aload_n 0, 1) := by decide +kernel
theorem dX3_readToken_136 : decode cX3_readToken 136 = .ok (.getfield 18, 3) := by decide +kernel
theorem dX3_readToken_139 : decode cX3_readToken 139 = .ok (.getfield 88, 3) := by decide +kernel
theorem dX3_readToken_142 : decode cX3_readToken 142 = .ok (.aload_n 0, 1) := by decide +kernel
theorem dX3_readToken_143 : decode cX3_readToken 143 = .ok (.getfield 38, 3) := by decide +kernel
theorem dX3_readToken_146 : decode cX3_readToken 146 = .ok (.iaload, 1) := by decide +kernel
theorem dX3_readToken_147 : decode cX3_readToken 147 = .ok (.bipush 59, 2) := by decide +kernel
theorem dX3_readToken_149 : decode cX3_readToken 149 = .ok (.if_icmp .ne 7, 3) := by decide +kernel
theorem dX3_readToken_152 : decode cX3_readToken 152 = .ok (.iconst 3, 1) := by decide +kernel
theorem dX3_readToken_153 : decode cX3_readToken 153 = .ok (.goto 4, 3) := by decide +kernel
theorem dX3_readToken_156 : decode cX3_readToken 156 = .ok (.iconst 4, 1) := by decide +kernel
theorem dX3_readToken_157 : decode cX3_readToken 157 = .ok (.putfield 51, 3) := by decide +kernel
theorem dX3_readToken_160 : decode cX3_readToken 160 = .ok (.aload_n 0, 1) := by decide +kernel
theorem dX3_readToken_161 : decode cX3_readToken 161 = .ok (.dup, 1) := by decide +kernel
theorem dX3_readToken_162 : decode cX3_readToken 162 = .ok (.getfield 38, 3) := by decide +kernel
theorem dX3_readToken_165 : decode cX3_readToken 165 = .ok (.iconst 1, 1) := by decide +kernel
theorem dX3_readToken_166 : decode cX3_readToken 166 = .ok (.iadd, 1) := by decide +kernel
theorem dX3_readToken_167 : decode cX3_readToken 167 = .ok (.putfield 38, 3) := by decide +kernel
theorem dX3_readToken_170 : decode cX3_readToken 170 = .ok (.return_, 1) := by decide +kernel
theorem dX3_readLetters_0 : decode cX3_readLetters 0 = .ok (.aload_n 0, 1) := by decide +kernel
theorem dX3_readLetters_1 : decode cX3_readLetters 1 = .ok (.getfield 38, 3) := by decide +kernel
theorem dX3_readLetters_4 : decode cX3_readLetters 4 = .ok (.aload_n 0, 1) := by decide +kernel
theorem dX3_readLetters_5 : decode cX3_readLetters 5 = .ok (.getfield 18, 3) := by decide +kernel
theorem dX3_readLetters_8 : decode cX3_readLetters 8 = .ok (.getfield 83, 3) := by decide +kernel
theorem dX3_readLetters_11 : decode cX3_readLetters 11 = .ok (.if_icmp .ge 34, 3) := by decide +kernel
theorem dX3_readLetters_14 : decode cX3_readLetters 14 = .ok (.aload_n 0, 1) := by decide +kernel
theorem dX3_readLetters_15 : decode cX3_readLetters 15 = .ok (.getfield 18, 3) := by decide +kernel
theorem dX3_readLetters_18 : decode cX3_readLetters 18 = .ok (.getfield 88, 3) := by decide +kernel
theorem dX3_readLetters_21 : decode cX3_readLetters 21 = .ok (.aload_n 0, 1) := by decide +kernel
theorem dX3_readLetters_22 : decode cX3_readLetters 22 = .ok (.getfield 38, 3) := by decide +kernel
theorem dX3_readLetters_25 : decode cX3_readLetters 25 = .ok (.iaload, 1) := by decide +kernel
theorem dX3_readLetters_26 : decode cX3_readLetters 26 = .ok (.invokestatic 91, 3) := by decide +kernel
theorem dX3_readLetters_29 : decode cX3_readLetters 29 = .ok (.ifCond .eq 16, 3) := by decide +kernel
theorem dX3_readLetters_32 : decode cX3_readLetters 32 = .ok (.aload_n 0, 1) := by decide +kernel
theorem dX3_readLetters_33 : decode cX3_readLetters 33 = .ok (.dup, 1) := by decide +kernel
theorem dX3_readLetters_34 : decode cX3_readLetters 34 = .ok (.getfield 38, 3) := by decide +kernel
theorem dX3_readLetters_37 : decode cX3_readLetters 37 = .ok (.iconst 1, 1) := by decide +kernel
theorem dX3_readLetters_38 : decode cX3_readLetters 38 = .ok (.iadd, 1) := by decide +kernel
theorem dX3_readLetters_39 : decode cX3_readLetters 39 = .ok (.putfield 38, 3) := by decide +kernel
theorem dX3_readLetters_42 : decode cX3_readLetters 42 = .ok (.goto (-42), 3) := by decide +kernel
theorem dX3_readLetters_45 : decode cX3_readLetters 45 = .ok (.return_, 1) := by decide +kernel
theorem dX3_readDigits_0 : decode cX3_readDigits 0 = .ok (.aload_n 0, 1) := by decide +kernel
theorem dX3_readDigits_1 : decode cX3_readDigits 1 = .ok (.iconst 0, 1) := by decide +kernel
theorem dX3_readDigits_2 : decode cX3_readDigits 2 = .ok (.putfield 69, 3) := by decide +kernel
theorem dX3_readDigits_5 : decode cX3_readDigits 5 = .ok (.aload_n 0, 1) := by decide +kernel
theorem dX3_readDigits_6 : decode cX3_readDigits 6 = .ok (.getfield 38, 3) := by decide +kernel
theorem dX3_readDigits_9 : decode cX3_readDigits 9 = .ok (.aload_n 0, 1) := by decide +kernel
theorem dX3_readDigits_10 : decode cX3_readDigits 10 = .ok (.getfield 18, 3) := by decide +kernel
theorem dX3_readDigits_13 : decode cX3_readDigits 13 = .ok (.getfield 83, 3) := by decide +kernel
theorem dX3_readDigits_16 : decode cX3_readDigits 16 = .ok (.if_icmp .ge 88, 3) := by decide +kernel
theorem dX3_readDigits_19 : decode cX3_readDigits 19 = .ok (.aload_n 0, 1) := by decide +kernel
theorem dX3_readDigits_20 : decode cX3_readDigits 20 = .ok (.getfield 18, 3) := by decide +kernel
theorem dX3_readDigits_23 : decode cX3_readDigits 23 = .ok (.getfield 88, 3) := by decide +kernel
theorem dX3_readDigits_26 : decode cX3_readDigits 26 = .ok (.aload_n 0, 1) := by decide +kernel
theorem dX3_readDigits_27 : decode cX3_readDigits 27 = .ok (.getfield 38, 3) := by decide +kernel
theorem dX3_readDigits_30 : decode cX3_readDigits 30 = .ok (.iaload, 1) := by decide +kernel
theorem dX3_readDigits_31 : decode cX3_readDigits 31 = .ok (.invokestatic 97, 3) := by decide +kernel
theorem dX3_readDigits_34 : decode cX3_readDigits 34 = .ok (.ifCond .eq 70, 3) := by decide +kernel
theorem dX3_readDigits_37 : decode cX3_readDigits 37 = .ok (.aload_n 0, 1) := by decide +kernel
theorem dX3_readDigits_38 : decode cX3_readDigits 38 = .ok (.getfield 38, 3) := by decide +kernel
theorem dX3_readDigits_41 : decode cX3_readDigits 41 = .ok (.aload_n 0, 1) := by decide +kernel
theorem dX3_readDigits_42 : decode cX3_readDigits 42 = .ok (.getfield 45, 3) := by decide +kernel
theorem dX3_readDigits_45 : decode cX3_readDigits 45 = .ok (.isub, 1) := by decide +kernel
theorem dX3_readDigits_46 : decode cX3_readDigits 46 = .ok (.iconst 4, 1) := by decide +kernel
theorem dX3_readDigits_47 : decode cX3_readDigits 47 = .ok (.if_icmp .ge 7, 3) := by decide +kernel
theorem dX3_readDigits_50 : decode cX3_readDigits 50 = .ok (.iconst 1, 1) := by decide +kernel
theorem dX3_readDigits_51 : decode cX3_readDigits 51 = .ok (.goto 4, 3) := by decide +kernel
theorem dX3_readDigits_54 : decode cX3_readDigits 54 = .ok (.iconst 0, 1) := by decide +kernel
theorem dX3_readDigits_55 : decode cX3_readDigits 55 = .ok (.istore_n 1, 1) := by decide +kernel
theorem dX3_readDigits_56 : decode cX3_readDigits 56 = .ok (.aload_n 0, 1) := by decide +kernel
theorem dX3_readDigits_57 : decode cX3_readDigits 57 = .ok (.iload_n 1, 1) := by decide +kernel
theorem dX3_readDigits_58 : decode cX3_readDigits 58 = .ok (.ifCond .eq 29, 3) := by decide +kernel
theorem dX3_readDigits_61 : decode cX3_readDigits 61 = .ok (.aload_n 0, 1) := by decide +kernel
theorem dX3_readDigits_62 : decode cX3_readDigits 62 = .ok (.getfield 69, 3) := by decide +kernel
theorem dX3_readDigits_65 : decode cX3_readDigits 65 = .ok (.bipush 10, 2) := by decide +kernel
theorem dX3_readDigits_67 : decode cX3_readDigits 67 = .ok (.imul, 1) := by decide +kernel
theorem dX3_readDigits_68 : decode cX3_readDigits 68 = .ok (.aload_n 0, 1) := by decide +kernel
theorem dX3_readDigits_69 : decode cX3_readDigits 69 = .ok (.getfield 18, 3) := by decide +kernel
theorem dX3_readDigits_72 : decode cX3_readDigits 72 = .ok (.getfield 88, 3) := by decide +kernel
theorem dX3_readDigits_75 : decode cX3_readDigits 75 = .ok (.aload_n 0, 1) := by decide +kernel
theorem dX3_readDigits_76 : decode cX3_readDigits 76 = .ok (.getfield 38, 3) := by decide +kernel
theorem dX3_readDigits_79 : decode cX3_readDigits 79 = .ok (.iaload, 1) := by decide +kernel
theorem dX3_readDigits_80 : decode cX3_readDigits 80 = .ok (.iadd, 1) := by decide +kernel
theorem dX3_readDigits_81 : decode cX3_readDigits 81 = .ok (.bipush 48, 2) := by decide +kernel
theorem dX3_readDigits_83 : decode cX3_readDigits 83 = .ok (.isub, 1) := by decide +kernel
theorem dX3_readDigits_84 : decode cX3_readDigits 84 = .ok (.goto 4, 3) := by decide +kernel
theorem dX3_readDigits_87 : decode cX3_readDigits 87 = .ok (.iconst (-1), 1) := by decide +kernel
theorem dX3_readDigits_88 : decode cX3_readDigits 88 = .ok (.putfield 69, 3) := by decide +kernel
theorem dX3_readDigits_91 : decode cX3_readDigits 91 = .ok (.aload_n 0, 1) := by decide +kernel
theorem dX3_readDigits_92 : decode cX3_readDigits 92 = .ok (.dup, 1) := by decide +kernel
theorem dX3_readDigits_93 : decode cX3_readDigits 93 = .ok (.getfield 38, 3) := by decide +kernel
theorem dX3_readDigits_96 : decode cX3_readDigits 96 = .ok (.iconst 1, 1) := by decide +kernel
theorem dX3_readDigits_97 : decode cX3_readDigits 97 = .ok (.iadd, 1) := by decide +kernel
theorem dX3_readDigits_98 : decode cX3_readDigits 98 = .ok (.putfield 38, 3) := by decide +kernel
theorem dX3_readDigits_101 : decode cX3_readDigits 101 = .ok (.goto (-96), 3) := by decide +kernel
theorem dX3_readDigits_104 : decode cX3_readDigits 104 = .ok (.return_, 1) := by decide +kernel
theorem dX3_isLetter_0 : decode cX3_isLetter 0 = .ok (.iload_n 0, 1) := by decide +kernel
theorem dX3_isLetter_1 : decode cX3_isLetter 1 = .ok (.bipush 97, 2) := by decide +kernel
theorem dX3_isLetter_3 : decode cX3_isLetter 3 = .ok (.if_icmp .lt 13, 3) := by decide +kernel
theorem dX3_isLetter_6 : decode cX3_isLetter 6 = .ok (.iload_n 0, 1) := by decide +kernel
theorem dX3_isLetter_7 : decode cX3_isLetter 7 = .ok (.bipush 122, 2) := by decide +kernel
theorem dX3_isLetter_9 : decode cX3_isLetter 9 = .ok (.if_icmp .gt 7, 3) := by decide +kernel
theorem dX3_isLetter_12 : decode cX3_isLetter 12 = .ok (.iconst 1, 1) := by decide +kernel
theorem dX3_isLetter_13 : decode cX3_isLetter 13 = .ok (.goto 4, 3) := by decide +kernel
theorem dX3_isLetter_16 : decode cX3_isLetter 16 = .ok (.iconst 0, 1) := by decide +kernel
theorem dX3_isLetter_17 : decode cX3_isLetter 17 = .ok (.ireturn, 1) := by decide +kernel
theorem dX3_isDigit_0 : decode cX3_isDigit 0 = .ok (.iload_n 0, 1) := by decide +kernel
theorem dX3_isDigit_1 : decode cX3_isDigit 1 = .ok (.bipush 48, 2) := by decide +kernel
theorem dX3_isDigit_3 : decode cX3_isDigit 3 = .ok (.if_icmp .lt 13, 3) := by decide +kernel
theorem dX3_isDigit_6 : decode cX3_isDigit 6 = .ok (.iload_n 0, 1) := by decide +kernel
theorem dX3_isDigit_7 : decode cX3_isDigit 7 = .ok (.bipush 57, 2) := by decide +kernel
theorem dX3_isDigit_9 : decode cX3_isDigit 9 = .ok (.if_icmp .gt 7, 3) := by decide +kernel
theorem dX3_isDigit_12 : decode cX3_isDigit 12 = .ok (.iconst 1, 1) := by decide +kernel
theorem dX3_isDigit_13 : decode cX3_isDigit 13 = .ok (.goto 4, 3) := by decide +kernel
theorem dX3_isDigit_16 : decode cX3_isDigit 16 = .ok (.iconst 0, 1) := by decide +kernel
theorem dX3_isDigit_17 : decode cX3_isDigit 17 = .ok (.ireturn, 1) := by decide +kernel
theorem dX3_kindOfWord_0 : decode cX3_kindOfWord 0 = .ok (.aload_n 0, 1) := by decide +kernel
theorem dX3_kindOfWord_1 : decode cX3_kindOfWord 1 = .ok (.getfield 51, 3) := by decide +kernel
theorem dX3_kindOfWord_4 : decode cX3_kindOfWord 4 = .ok (.iconst 1, 1) := by decide +kernel
theorem dX3_kindOfWord_5 : decode cX3_kindOfWord 5 = .ok (.if_icmp .eq 5, 3) := by decide +kernel
theorem dX3_kindOfWord_8 : decode cX3_kindOfWord 8 = .ok (.iconst 0, 1) := by decide +kernel
theorem dX3_kindOfWord_9 : decode cX3_kindOfWord 9 = .ok (.ireturn, 1) := by decide +kernel
theorem dX3_kindOfWord_10 : decode cX3_kindOfWord 10 = .ok (.aload_n 0, 1) := by decide +kernel
theorem dX3_kindOfWord_11 : decode cX3_kindOfWord 11 = .ok (.ldc 103, 2) := by decide +kernel
theorem dX3_kindOfWord_13 : decode cX3_kindOfWord 13 = .ok (.invokevirtual 105, 3) := by decide +kernel
theorem dX3_kindOfWord_16 : decode cX3_kindOfWord 16 = .ok (.ifCond .eq 7, 3) := by decide +kernel
theorem dX3_kindOfWord_19 : decode cX3_kindOfWord 19 = .ok (.iconst 1, 1) := by decide +kernel
theorem dX3_kindOfWord_20 : decode cX3_kindOfWord 20 = .ok (.goto 84, 3) := by decide +kernel
theorem dX3_kindOfWord_23 : decode cX3_kindOfWord 23 = .ok (.aload_n 0, 1) := by decide +kernel
theorem dX3_kindOfWord_24 : decode cX3_kindOfWord 24 = .ok (.ldc 109, 2) := by decide +kernel
theorem dX3_kindOfWord_26 : decode cX3_kindOfWord 26 = .ok (.invokevirtual 105, 3) := by decide +kernel
theorem dX3_kindOfWord_29 : decode cX3_kindOfWord 29 = .ok (.ifCond .eq 7, 3) := by decide +kernel
theorem dX3_kindOfWord_32 : decode cX3_kindOfWord 32 = .ok (.iconst 2, 1) := by decide +kernel
theorem dX3_kindOfWord_33 : decode cX3_kindOfWord 33 = .ok (.goto 71, 3) := by decide +kernel
theorem dX3_kindOfWord_36 : decode cX3_kindOfWord 36 = .ok (.aload_n 0, 1) := by decide +kernel
theorem dX3_kindOfWord_37 : decode cX3_kindOfWord 37 = .ok (.ldc 111, 2) := by decide +kernel
theorem dX3_kindOfWord_39 : decode cX3_kindOfWord 39 = .ok (.invokevirtual 105, 3) := by decide +kernel
theorem dX3_kindOfWord_42 : decode cX3_kindOfWord 42 = .ok (.ifCond .eq 7, 3) := by decide +kernel
theorem dX3_kindOfWord_45 : decode cX3_kindOfWord 45 = .ok (.iconst 3, 1) := by decide +kernel
theorem dX3_kindOfWord_46 : decode cX3_kindOfWord 46 = .ok (.goto 58, 3) := by decide +kernel
theorem dX3_kindOfWord_49 : decode cX3_kindOfWord 49 = .ok (.aload_n 0, 1) := by decide +kernel
theorem dX3_kindOfWord_50 : decode cX3_kindOfWord 50 = .ok (.ldc 113, 2) := by decide +kernel
theorem dX3_kindOfWord_52 : decode cX3_kindOfWord 52 = .ok (.invokevirtual 105, 3) := by decide +kernel
theorem dX3_kindOfWord_55 : decode cX3_kindOfWord 55 = .ok (.ifCond .eq 7, 3) := by decide +kernel
theorem dX3_kindOfWord_58 : decode cX3_kindOfWord 58 = .ok (.iconst 4, 1) := by decide +kernel
theorem dX3_kindOfWord_59 : decode cX3_kindOfWord 59 = .ok (.goto 45, 3) := by decide +kernel
theorem dX3_kindOfWord_62 : decode cX3_kindOfWord 62 = .ok (.aload_n 0, 1) := by decide +kernel
theorem dX3_kindOfWord_63 : decode cX3_kindOfWord 63 = .ok (.ldc 115, 2) := by decide +kernel
theorem dX3_kindOfWord_65 : decode cX3_kindOfWord 65 = .ok (.invokevirtual 105, 3) := by decide +kernel
theorem dX3_kindOfWord_68 : decode cX3_kindOfWord 68 = .ok (.ifCond .eq 7, 3) := by decide +kernel
theorem dX3_kindOfWord_71 : decode cX3_kindOfWord 71 = .ok (.iconst 5, 1) := by decide +kernel
theorem dX3_kindOfWord_72 : decode cX3_kindOfWord 72 = .ok (.goto 32, 3) := by decide +kernel
theorem dX3_kindOfWord_75 : decode cX3_kindOfWord 75 = .ok (.aload_n 0, 1) := by decide +kernel
theorem dX3_kindOfWord_76 : decode cX3_kindOfWord 76 = .ok (.ldc 117, 2) := by decide +kernel
theorem dX3_kindOfWord_78 : decode cX3_kindOfWord 78 = .ok (.invokevirtual 105, 3) := by decide +kernel
theorem dX3_kindOfWord_81 : decode cX3_kindOfWord 81 = .ok (.ifCond .eq 8, 3) := by decide +kernel
theorem dX3_kindOfWord_84 : decode cX3_kindOfWord 84 = .ok (.bipush 6, 2) := by decide +kernel
theorem dX3_kindOfWord_86 : decode cX3_kindOfWord 86 = .ok (.goto 18, 3) := by decide +kernel
theorem dX3_kindOfWord_89 : decode cX3_kindOfWord 89 = .ok (.aload_n 0, 1) := by decide +kernel
theorem dX3_kindOfWord_90 : decode cX3_kindOfWord 90 = .ok (.ldc 119, 2) := by decide +kernel
theorem dX3_kindOfWord_92 : decode cX3_kindOfWord 92 = .ok (.invokevirtual 105, 3) := by decide +kernel
theorem dX3_kindOfWord_95 : decode cX3_kindOfWord 95 = .ok (.ifCond .eq 8, 3) := by decide +kernel
theorem dX3_kindOfWord_98 : decode cX3_kindOfWord 98 = .ok (.bipush 7, 2) := by decide +kernel
theorem dX3_kindOfWord_100 : decode cX3_kindOfWord 100 = .ok (.goto 4, 3) := by decide +kernel
theorem dX3_kindOfWord_103 : decode cX3_kindOfWord 103 = .ok (.iconst 0, 1) := by decide +kernel
theorem dX3_kindOfWord_104 : decode cX3_kindOfWord 104 = .ok (.ireturn, 1) := by decide +kernel
theorem dX3_isWord_0 : decode cX3_isWord 0 = .ok (.aload_n 0, 1) := by decide +kernel
theorem dX3_isWord_1 : decode cX3_isWord 1 = .ok (.getfield 38, 3) := by decide +kernel
theorem dX3_isWord_4 : decode cX3_isWord 4 = .ok (.aload_n 0, 1) := by decide +kernel
theorem dX3_isWord_5 : decode cX3_isWord 5 = .ok (.getfield 45, 3) := by decide +kernel
theorem dX3_isWord_8 : decode cX3_isWord 8 = .ok (.isub, 1) := by decide +kernel
theorem dX3_isWord_9 : decode cX3_isWord 9 = .ok (.aload_n 1, 1) := by decide +kernel
theorem dX3_isWord_10 : decode cX3_isWord 10 = .ok (.invokevirtual 121, 3) := by decide +kernel
theorem dX3_isWord_13 : decode cX3_isWord 13 = .ok (.if_icmp .eq 5, 3) := by decide +kernel
theorem dX3_isWord_16 : decode cX3_isWord 16 = .ok (.iconst 0, 1) := by decide +kernel
theorem dX3_isWord_17 : decode cX3_isWord 17 = .ok (.ireturn, 1) := by decide +kernel
theorem dX3_isWord_18 : decode cX3_isWord 18 = .ok (.iconst 0, 1) := by decide +kernel
theorem dX3_isWord_19 : decode cX3_isWord 19 = .ok (.istore_n 2, 1) := by decide +kernel
theorem dX3_isWord_20 : decode cX3_isWord 20 = .ok (.iload_n 2, 1) := by decide +kernel
theorem dX3_isWord_21 : decode cX3_isWord 21 = .ok (.aload_n 1, 1) := by decide +kernel
theorem dX3_isWord_22 : decode cX3_isWord 22 = .ok (.invokevirtual 121, 3) := by decide +kernel
theorem dX3_isWord_25 : decode cX3_isWord 25 = .ok (.if_icmp .ge 33, 3) := by decide +kernel
theorem dX3_isWord_28 : decode cX3_isWord 28 = .ok (.aload_n 0, 1) := by decide +kernel
theorem dX3_isWord_29 : decode cX3_isWord 29 = .ok (.getfield 18, 3) := by decide +kernel
theorem dX3_isWord_32 : decode cX3_isWord 32 = .ok (.getfield 88, 3) := by decide +kernel
theorem dX3_isWord_35 : decode cX3_isWord 35 = .ok (.aload_n 0, 1) := by decide +kernel
theorem dX3_isWord_36 : decode cX3_isWord 36 = .ok (.getfield 45, 3) := by decide +kernel
theorem dX3_isWord_39 : decode cX3_isWord 39 = .ok (.iload_n 2, 1) := by decide +kernel
theorem dX3_isWord_40 : decode cX3_isWord 40 = .ok (.iadd, 1) := by decide +kernel
theorem dX3_isWord_41 : decode cX3_isWord 41 = .ok (.iaload, 1) := by decide +kernel
theorem dX3_isWord_42 : decode cX3_isWord 42 = .ok (.aload_n 1, 1) := by decide +kernel
theorem dX3_isWord_43 : decode cX3_isWord 43 = .ok (.iload_n 2, 1) := by decide +kernel
theorem dX3_isWord_44 : decode cX3_isWord 44 = .ok (.invokevirtual 125, 3) := by decide +kernel
theorem dX3_isWord_47 : decode cX3_isWord 47 = .ok (.if_icmp .eq 5, 3) := by decide +kernel
theorem dX3_isWord_50 : decode cX3_isWord 50 = .ok (.iconst 0, 1) := by decide +kernel
theorem dX3_isWord_51 : decode cX3_isWord 51 = .ok (.ireturn, 1) := by decide +kernel
theorem dX3_isWord_52 : decode cX3_isWord 52 = .ok (.iinc 2 1, 3) := by decide +kernel
theorem dX3_isWord_55 : decode cX3_isWord 55 = .ok (.goto (-35), 3) := by decide +kernel
theorem dX3_isWord_58 : decode cX3_isWord 58 = .ok (.iconst 1, 1) := by decide +kernel
theorem dX3_isWord_59 : decode cX3_isWord 59 = .ok (.ireturn, 1) := by decide +kernel
theorem dX4_init_0 : decode cX4_init 0 = .ok (.aload_n 0, 1) := by decide +kernel
theorem dX4_init_1 : decode cX4_init 1 = .ok (.invokespecial 3, 3) := by decide +kernel
theorem dX4_init_4 : decode cX4_init 4 = .ok (.aload_n 0, 1) := by decide +kernel
theorem dX4_init_5 : decode cX4_init 5 = .ok (.bipush 6, 2) := by decide +kernel
theorem dX4_init_7 : decode cX4_init 7 = .ok (.newarray .int, 2) := by decide +kernel
theorem dX4_init_9 : decode cX4_init 9 = .ok (.putfield 9, 3) := by decide +kernel
theorem dX4_init_12 : decode cX4_init 12 = .ok (.aload_n 0, 1) := by decide +kernel
theorem dX4_init_13 : decode cX4_init 13 = .ok (.bipush 6, 2) := by decide +kernel
theorem dX4_init_15 : decode cX4_init 15 = .ok (.newarray .int, 2) := by decide +kernel
theorem dX4_init_17 : decode cX4_init 17 = .ok (.putfield 15, 3) := by decide +kernel
theorem dX4_init_20 : decode cX4_init 20 = .ok (.aload_n 0, 1) := by decide +kernel
theorem dX4_init_21 : decode cX4_init 21 = .ok (.bipush 6, 2) := by decide +kernel
theorem dX4_init_23 : decode cX4_init 23 = .ok (.newarray .int, 2) := by decide +kernel
theorem dX4_init_25 : decode cX4_init 25 = .ok (.putfield 18, 3) := by decide +kernel
theorem dX4_init_28 : decode cX4_init 28 = .ok (.aload_n 0, 1) := by decide +kernel
theorem dX4_init_29 : decode cX4_init 29 = .ok (.bipush 6, 2) := by decide +kernel
theorem dX4_init_31 : decode cX4_init 31 = .ok (.newarray .int, 2) := by decide +kernel
theorem dX4_init_33 : decode cX4_init 33 = .ok (.putfield 21, 3) := by decide +kernel
theorem dX4_init_36 : decode cX4_init 36 = .ok (.aload_n 0, 1) := by decide +kernel
theorem dX4_init_37 : decode cX4_init 37 = .ok (.bipush 6, 2) := by decide +kernel
theorem dX4_init_39 : decode cX4_init 39 = .ok (.newarray .int, 2) := by decide +kernel
theorem dX4_init_41 : decode cX4_init 41 = .ok (.putfield 24, 3) := by decide +kernel
theorem dX4_init_44 : decode cX4_init 44 = .ok (.aload_n 0, 1) := by decide +kernel
theorem dX4_init_45 : decode cX4_init 45 = .ok (.aload_n 1, 1) := by decide +kernel
theorem dX4_init_46 : decode cX4_init 46 = .ok (.putfield 27, 3) := by decide +kernel
theorem dX4_init_49 : decode cX4_init 49 = .ok (.return_, 1) := by decide +kernel
theorem dX4_add_0 : decode cX4_add 0 = .ok (.aload_n 0, 1) := by decide +kernel
theorem dX4_add_1 : decode cX4_add 1 = .ok (.getfield 31, 3) := by decide +kernel
theorem dX4_add_4 : decode cX4_add 4 = .ok (.bipush 6, 2) := by decide +kernel
theorem dX4_add_6 : decode cX4_add 6 = .ok (.if_icmp .ge 65, 3) := by decide +kernel
theorem dX4_add_9 : decode cX4_add 9 = .ok (.aload_n 0, 1) := by decide +kernel
theorem dX4_add_10 : decode cX4_add 10 = .ok (.getfield 9, 3) := by decide +kernel
theorem dX4_add_13 : decode cX4_add 13 = .ok (.aload_n 0, 1) := by decide +kernel
theorem dX4_add_14 : decode cX4_add 14 = .ok (.getfield 31, 3) := by decide +kernel
theorem dX4_add_17 : decode cX4_add 17 = .ok (.iload_n 1, 1) := by decide +kernel
theorem dX4_add_18 : decode cX4_add 18 = .ok (.iastore, 1) := by decide +kernel
theorem dX4_add_19 : decode cX4_add 19 = .ok (.aload_n 0, 1) := by decide +kernel
theorem dX4_add_20 : decode cX4_add 20 = .ok (.getfield 15, 3) := by decide +kernel
theorem dX4_add_23 : decode cX4_add 23 = .ok (.aload_n 0, 1) := by decide +kernel
theorem dX4_add_24 : decode cX4_add 24 = .ok (.getfield 31, 3) := by decide +kernel
theorem dX4_add_27 : decode cX4_add 27 = .ok (.iload_n 2, 1) := by decide +kernel
theorem dX4_add_28 : decode cX4_add 28 = .ok (.iastore, 1) := by decide +kernel
theorem dX4_add_29 : decode cX4_add 29 = .ok (.aload_n 0, 1) := by decide +kernel
theorem dX4_add_30 : decode cX4_add 30 = .ok (.getfield 18, 3) := by decide +kernel
theorem dX4_add_33 : decode cX4_add 33 = .ok (.aload_n 0, 1) := by decide +kernel
theorem dX4_add_34 : decode cX4_add 34 = .ok (.getfield 31, 3) := by decide +kernel
theorem dX4_add_37 : decode cX4_add 37 = .ok (.iload_n 3, 1) := by decide +kernel
theorem dX4_add_38 : decode cX4_add 38 = .ok (.iastore, 1) := by decide +kernel
theorem dX4_add_39 : decode cX4_add 39 = .ok (.aload_n 0, 1) := by decide +kernel
theorem dX4_add_40 : decode cX4_add 40 = .ok (.getfield 21, 3) := by decide +kernel
theorem dX4_add_43 : decode cX4_add 43 = .ok (.aload_n 0, 1) := by decide +kernel
theorem dX4_add_44 : decode cX4_add 44 = .ok (.getfield 31, 3) := by decide +kernel
theorem dX4_add_47 : decode cX4_add 47 = .ok (.iload 4, 2) := by decide +kernel
theorem dX4_add_49 : decode cX4_add 49 = .ok (.iastore, 1) := by decide +kernel
theorem dX4_add_50 : decode cX4_add 50 = .ok (.aload_n 0, 1) := by decide +kernel
theorem dX4_add_51 : decode cX4_add 51 = .ok (.getfield 24, 3) := by decide +kernel
theorem dX4_add_54 : decode cX4_add 54 = .ok (.aload_n 0, 1) := by decide +kernel
theorem dX4_add_55 : decode cX4_add 55 = .ok (.getfield 31, 3) := by decide +kernel
theorem dX4_add_58 : decode cX4_add 58 = .ok (.iload 5, 2) := by decide +kernel
theorem dX4_add_60 : decode cX4_add 60 = .ok (.iastore, 1) := by decide +kernel
theorem dX4_add_61 : decode cX4_add 61 = .ok (.aload_n 0, 1) := by decide +kernel
theorem dX4_add_62 : decode cX4_add 62 = .ok (.dup, 1) := by decide +kernel
theorem dX4_add_63 : decode cX4_add 63 = .ok (.getfield 31, 3) := by decide +kernel
theorem dX4_add_66 : decode cX4_add 66 = .ok (.iconst 1, 1) := by decide +kernel
theorem dX4_add_67 : decode cX4_add 67 = .ok (.iadd, 1) := by decide +kernel
theorem dX4_add_68 : decode cX4_add 68 = .ok (.putfield 31, 3) := by decide +kernel
theorem dX4_add_71 : decode cX4_add 71 = .ok (.return_, 1) := by decide +kernel
theorem dX4_served_0 : decode cX4_served 0 = .ok (.iload_n 3, 1) := by decide +kernel
theorem dX4_served_1 : decode cX4_served 1 = .ok (.aload_n 0, 1) := by decide +kernel
theorem dX4_served_2 : decode cX4_served 2 = .ok (.getfield 27, 3) := by decide +kernel
theorem dX4_served_5 : decode cX4_served 5 = .ok (.iload_n 2, 1) := by decide +kernel
theorem dX4_served_6 : decode cX4_served 6 = .ok (.aload_n 0, 1) := by decide +kernel
theorem dX4_served_7 : decode cX4_served 7 = .ok (.getfield 9, 3) := by decide +kernel
theorem dX4_served_10 : decode cX4_served 10 = .ok (.iload_n 1, 1) := by decide +kernel
theorem dX4_served_11 : decode cX4_served 11 = .ok (.iaload, 1) := by decide +kernel
theorem dX4_served_12 : decode cX4_served 12 = .ok (.invokevirtual 35, 3) := by decide +kernel
theorem dX4_served_15 : decode cX4_served 15 = .ok (.iadd, 1) := by decide +kernel
theorem dX4_served_16 : decode cX4_served 16 = .ok (.istore 4, 2) := by decide +kernel
theorem dX4_served_18 : decode cX4_served 18 = .ok (.aload_n 0, 1) := by decide +kernel
theorem dX4_served_19 : decode cX4_served 19 = .ok (.getfield 27, 3) := by decide +kernel
theorem dX4_served_22 : decode cX4_served 22 = .ok (.aload_n 0, 1) := by decide +kernel
theorem dX4_served_23 : decode cX4_served 23 = .ok (.getfield 9, 3) := by decide +kernel
theorem dX4_served_26 : decode cX4_served 26 = .ok (.iload_n 1, 1) := by decide +kernel
theorem dX4_served_27 : decode cX4_served 27 = .ok (.iaload, 1) := by decide +kernel
theorem dX4_served_28 : decode cX4_served 28 = .ok (.iload 4, 2) := by decide +kernel
theorem dX4_served_30 : decode cX4_served 30 = .ok (.invokevirtual 41, 3) := by decide +kernel
theorem dX4_served_33 : decode cX4_served 33 = .ok (.istore 5, 2) := by decide +kernel
theorem dX4_served_35 : decode cX4_served 35 = .ok (.iload 5, 2) := by decide +kernel
theorem dX4_served_37 : decode cX4_served 37 = .ok (.aload_n 0, 1) := by decide +kernel
theorem dX4_served_38 : decode cX4_served 38 = .ok (.getfield 15, 3) := by decide +kernel
theorem dX4_served_41 : decode cX4_served 41 = .ok (.iload_n 1, 1) := by decide +kernel
theorem dX4_served_42 : decode cX4_served 42 = .ok (.iaload, 1) := by decide +kernel
theorem dX4_served_43 : decode cX4_served 43 = .ok (.if_icmp .lt 17, 3) := by decide +kernel
theorem dX4_served_46 : decode cX4_served 46 = .ok (.iload 5, 2) := by decide +kernel
theorem dX4_served_48 : decode cX4_served 48 = .ok (.aload_n 0, 1) := by decide +kernel
theorem dX4_served_49 : decode cX4_served 49 = .ok (.getfield 18, 3) := by decide +kernel
theorem dX4_served_52 : decode cX4_served 52 = .ok (.iload_n 1, 1) := by decide +kernel
theorem dX4_served_53 : decode cX4_served 53 = .ok (.iaload, 1) := by decide +kernel
theorem dX4_served_54 : decode cX4_served 54 = .ok (.if_icmp .ge 6, 3) := by decide +kernel
theorem dX4_served_57 : decode cX4_served 57 = .ok (.iload 4, 2) := by decide +kernel
theorem dX4_served_59 : decode cX4_served 59 = .ok (.ireturn, 1) := by decide +kernel
theorem dX4_served_60 : decode cX4_served 60 = .ok (.iload 4, 2) := by decide +kernel
theorem dX4_served_62 : decode cX4_served 62 = .ok (.aload_n 0, 1) := by decide +kernel
theorem dX4_served_63 : decode cX4_served 63 = .ok (.getfield 15, 3) := by decide +kernel
theorem dX4_served_66 : decode cX4_served 66 = .ok (.iload_n 1, 1) := by decide +kernel
theorem dX4_served_67 : decode cX4_served 67 = .ok (.iaload, 1) := by decide +kernel
theorem dX4_served_68 : decode cX4_served 68 = .ok (.iload 5, 2) := by decide +kernel
theorem dX4_served_70 : decode cX4_served 70 = .ok (.isub, 1) := by decide +kernel
theorem dX4_served_71 : decode cX4_served 71 = .ok (.sipush 1440, 3) := by decide +kernel
theorem dX4_served_74 : decode cX4_served 74 = .ok (.invokestatic 44, 3) := by decide +kernel
theorem dX4_served_77 : decode cX4_served 77 = .ok (.iadd, 1) := by decide +kernel
theorem dX4_served_78 : decode cX4_served 78 = .ok (.ireturn, 1) := by decide +kernel
theorem dX4_seekTrade_0 : decode cX4_seekTrade 0 = .ok (.aload_n 0, 1) := by decide +kernel
theorem dX4_seekTrade_1 : decode cX4_seekTrade 1 = .ok (.iconst 0, 1) := by decide +kernel
theorem dX4_seekTrade_2 : decode cX4_seekTrade 2 = .ok (.putfield 49, 3) := by decide +kernel
theorem dX4_seekTrade_5 : decode cX4_seekTrade 5 = .ok (.iconst 0, 1) := by decide +kernel
theorem dX4_seekTrade_6 : decode cX4_seekTrade 6 = .ok (.istore_n 3, 1) := by decide +kernel
theorem dX4_seekTrade_7 : decode cX4_seekTrade 7 = .ok (.iload_n 3, 1) := by decide +kernel
theorem dX4_seekTrade_8 : decode cX4_seekTrade 8 = .ok (.aload_n 0, 1) := by decide +kernel
theorem dX4_seekTrade_9 : decode cX4_seekTrade 9 = .ok (.getfield 31, 3) := by decide +kernel
theorem dX4_seekTrade_12 : decode cX4_seekTrade 12 = .ok (.if_icmp .ge 110, 3) := by decide +kernel
theorem dX4_seekTrade_15 : decode cX4_seekTrade 15 = .ok (.aload_n 0, 1) := by decide +kernel
theorem dX4_seekTrade_16 : decode cX4_seekTrade 16 = .ok (.iload_n 3, 1) := by decide +kernel
theorem dX4_seekTrade_17 : decode cX4_seekTrade 17 = .ok (.iload_n 1, 1) := by decide +kernel
theorem dX4_seekTrade_18 : decode cX4_seekTrade 18 = .ok (.iload_n 2, 1) := by decide +kernel
theorem dX4_seekTrade_19 : decode cX4_seekTrade 19 = .ok (.invokevirtual 52, 3) := by decide +kernel
theorem dX4_seekTrade_22 : decode cX4_seekTrade 22 = .ok (.istore 4, 2) := by decide +kernel
theorem dX4_seekTrade_24 : decode cX4_seekTrade 24 = .ok (.iconst 0, 1) := by decide +kernel
theorem dX4_seekTrade_25 : decode cX4_seekTrade 25 = .ok (.istore 5, 2) := by decide +kernel
theorem dX4_seekTrade_27 : decode cX4_seekTrade 27 = .ok (.iload 5, 2) := by decide +kernel
theorem dX4_seekTrade_29 : decode cX4_seekTrade 29 = .ok (.aload_n 0, 1) := by decide +kernel
theorem dX4_seekTrade_30 : decode cX4_seekTrade 30 = .ok (.getfield 31, 3) := by decide +kernel
theorem dX4_seekTrade_33 : decode cX4_seekTrade 33 = .ok (.if_icmp .ge 83, 3) := by decide +kernel
theorem dX4_seekTrade_36 : decode cX4_seekTrade 36 = .ok (.aload_n 0, 1) := by decide +kernel
theorem dX4_seekTrade_37 : decode cX4_seekTrade 37 = .ok (.iload 5, 2) := by decide +kernel
theorem dX4_seekTrade_39 : decode cX4_seekTrade 39 = .ok (.aload_n 0, 1) := by decide +kernel
theorem dX4_seekTrade_40 : decode cX4_seekTrade 40 = .ok (.getfield 9, 3) := by decide +kernel
theorem dX4_seekTrade_43 : decode cX4_seekTrade 43 = .ok (.iload_n 3, 1) := by decide +kernel
theorem dX4_seekTrade_44 : decode cX4_seekTrade 44 = .ok (.iaload, 1) := by decide +kernel
theorem dX4_seekTrade_45 : decode cX4_seekTrade 45 = .ok (.iload 4, 2) := by decide +kernel
theorem dX4_seekTrade_47 : decode cX4_seekTrade 47 = .ok (.invokevirtual 52, 3) := by decide +kernel
theorem dX4_seekTrade_50 : decode cX4_seekTrade 50 = .ok (.istore 6, 2) := by decide +kernel
theorem dX4_seekTrade_52 : decode cX4_seekTrade 52 = .ok (.aload_n 0, 1) := by decide +kernel
theorem dX4_seekTrade_53 : decode cX4_seekTrade 53 = .ok (.getfield 24, 3) := by decide +kernel
theorem dX4_seekTrade_56 : decode cX4_seekTrade 56 = .ok (.iload 5, 2) := by decide +kernel
theorem dX4_seekTrade_58 : decode cX4_seekTrade 58 = .ok (.iaload, 1) := by decide +kernel
theorem dX4_seekTrade_59 : decode cX4_seekTrade 59 = .ok (.aload_n 0, 1) := by decide +kernel
theorem dX4_seekTrade_60 : decode cX4_seekTrade 60 = .ok (.getfield 21, 3) := by decide +kernel
theorem dX4_seekTrade_63 : decode cX4_seekTrade 63 = .ok (.iload_n 3, 1) := by decide +kernel
theorem dX4_seekTrade_64 : decode cX4_seekTrade 64 = .ok (.iaload, 1) := by decide +kernel
theorem dX4_seekTrade_65 : decode cX4_seekTrade 65 = .ok (.isub, 1) := by decide +kernel
theorem dX4_seekTrade_66 : decode cX4_seekTrade 66 = .ok (.istore 7, 2) := by decide +kernel
theorem dX4_seekTrade_68 : decode cX4_seekTrade 68 = .ok (.iload 7, 2) := by decide +kernel
theorem dX4_seekTrade_70 : decode cX4_seekTrade 70 = .ok (.aload_n 0, 1) := by decide +kernel
theorem dX4_seekTrade_71 : decode cX4_seekTrade 71 = .ok (.getfield 49, 3) := by decide +kernel
theorem dX4_seekTrade_74 : decode cX4_seekTrade 74 = .ok (.if_icmp .le 36, 3) := by decide +kernel
theorem dX4_seekTrade_77 : decode cX4_seekTrade 77 = .ok (.iload 6, 2) := by decide +kernel
theorem dX4_seekTrade_79 : decode cX4_seekTrade 79 = .ok (.iload_n 2, 1) := by decide +kernel
theorem dX4_seekTrade_80 : decode cX4_seekTrade 80 = .ok (.isub, 1) := by decide +kernel
theorem dX4_seekTrade_81 : decode cX4_seekTrade 81 = .ok (.sipush 2880, 3) := by decide +kernel
theorem dX4_seekTrade_84 : decode cX4_seekTrade 84 = .ok (.if_icmp .gt 26, 3) := by decide +kernel
theorem dX4_seekTrade_87 : decode cX4_seekTrade 87 = .ok (.aload_n 0, 1) := by decide +kernel
theorem dX4_seekTrade_88 : decode cX4_seekTrade 88 = .ok (.iload 7, 2) := by decide +kernel
theorem dX4_seekTrade_90 : decode cX4_seekTrade 90 = .ok (.putfield 49, 3) := by decide +kernel
theorem dX4_seekTrade_93 : decode cX4_seekTrade 93 = .ok (.aload_n 0, 1) := by decide +kernel
theorem dX4_seekTrade_94 : decode cX4_seekTrade 94 = .ok (.iload_n 3, 1) := by decide +kernel
theorem dX4_seekTrade_95 : decode cX4_seekTrade 95 = .ok (.putfield 56, 3) := by decide +kernel
theorem dX4_seekTrade_98 : decode cX4_seekTrade 98 = .ok (.aload_n 0, 1) := by decide +kernel
theorem dX4_seekTrade_99 : decode cX4_seekTrade 99 = .ok (.iload 5, 2) := by decide +kernel
theorem dX4_seekTrade_101 : decode cX4_seekTrade 101 = .ok (.putfield 59, 3) := by decide +kernel
theorem dX4_seekTrade_104 : decode cX4_seekTrade 104 = .ok (.aload_n 0, 1) := by decide +kernel
theorem dX4_seekTrade_105 : decode cX4_seekTrade 105 = .ok (.iload 6, 2) := by decide +kernel
theorem dX4_seekTrade_107 : decode cX4_seekTrade 107 = .ok (.putfield 62, 3) := by decide +kernel
theorem dX4_seekTrade_110 : decode cX4_seekTrade 110 = .ok (.iinc 5 1, 3) := by decide +kernel
theorem dX4_seekTrade_113 : decode cX4_seekTrade 113 = .ok (.goto (-86), 3) := by decide +kernel
theorem dX4_seekTrade_116 : decode cX4_seekTrade 116 = .ok (.iinc 3 1, 3) := by decide +kernel
theorem dX4_seekTrade_119 : decode cX4_seekTrade 119 = .ok (.goto (-112), 3) := by decide +kernel
theorem dX4_seekTrade_122 : decode cX4_seekTrade 122 = .ok (.return_, 1) := by decide +kernel
theorem dX5_init_0 : decode cX5_init 0 = .ok (.aload_n 0, 1) := by decide +kernel
theorem dX5_init_1 : decode cX5_init 1 = .ok (.invokespecial 3, 3) := by decide +kernel
theorem dX5_init_4 : decode cX5_init 4 = .ok (.aload_n 0, 1) := by decide +kernel
theorem dX5_init_5 : decode cX5_init 5 = .ok (.bipush 12, 2) := by decide +kernel
theorem dX5_init_7 : decode cX5_init 7 = .ok (.newarray .int, 2) := by decide +kernel
theorem dX5_init_9 : decode cX5_init 9 = .ok (.putfield 9, 3) := by decide +kernel
theorem dX5_init_12 : decode cX5_init 12 = .ok (.aload_n 0, 1) := by decide +kernel
theorem dX5_init_13 : decode cX5_init 13 = .ok (.bipush 12, 2) := by decide +kernel
theorem dX5_init_15 : decode cX5_init 15 = .ok (.newarray .int, 2) := by decide +kernel
theorem dX5_init_17 : decode cX5_init 17 = .ok (.putfield 15, 3) := by decide +kernel
theorem dX5_init_20 : decode cX5_init 20 = .ok (.aload_n 0, 1) := by decide +kernel
theorem dX5_init_21 : decode cX5_init 21 = .ok (.bipush 12, 2) := by decide +kernel
theorem dX5_init_23 : decode cX5_init 23 = .ok (.newarray .int, 2) := by decide +kernel
theorem dX5_init_25 : decode cX5_init 25 = .ok (.putfield 18, 3) := by decide +kernel
theorem dX5_init_28 : decode cX5_init 28 = .ok (.aload_n 0, 1) := by decide +kernel
theorem dX5_init_29 : decode cX5_init 29 = .ok (.aload_n 1, 1) := by decide +kernel
theorem dX5_init_30 : decode cX5_init 30 = .ok (.putfield 21, 3) := by decide +kernel
theorem dX5_init_33 : decode cX5_init 33 = .ok (.return_, 1) := by decide +kernel
theorem dX5_add_0 : decode cX5_add 0 = .ok (.aload_n 0, 1) := by decide +kernel
theorem dX5_add_1 : decode cX5_add 1 = .ok (.getfield 25, 3) := by decide +kernel
theorem dX5_add_4 : decode cX5_add 4 = .ok (.bipush 12, 2) := by decide +kernel
theorem dX5_add_6 : decode cX5_add 6 = .ok (.if_icmp .lt 6, 3) := by decide +kernel
theorem dX5_add_9 : decode cX5_add 9 = .ok (.bipush (-5), 2) := by decide +kernel
theorem dX5_add_11 : decode cX5_add 11 = .ok (.ireturn, 1) := by decide +kernel
theorem dX5_add_12 : decode cX5_add 12 = .ok (.aload_n 0, 1) := by decide +kernel
theorem dX5_add_13 : decode cX5_add 13 = .ok (.getfield 9, 3) := by decide +kernel
theorem dX5_add_16 : decode cX5_add 16 = .ok (.aload_n 0, 1) := by decide +kernel
theorem dX5_add_17 : decode cX5_add 17 = .ok (.getfield 25, 3) := by decide +kernel
theorem dX5_add_20 : decode cX5_add 20 = .ok (.iload_n 1, 1) := by decide +kernel
theorem dX5_add_21 : decode cX5_add 21 = .ok (.iastore, 1) := by decide +kernel
theorem dX5_add_22 : decode cX5_add 22 = .ok (.aload_n 0, 1) := by decide +kernel
theorem dX5_add_23 : decode cX5_add 23 = .ok (.getfield 15, 3) := by decide +kernel
theorem dX5_add_26 : decode cX5_add 26 = .ok (.aload_n 0, 1) := by decide +kernel
theorem dX5_add_27 : decode cX5_add 27 = .ok (.getfield 25, 3) := by decide +kernel
theorem dX5_add_30 : decode cX5_add 30 = .ok (.iload_n 2, 1) := by decide +kernel
theorem dX5_add_31 : decode cX5_add 31 = .ok (.iastore, 1) := by decide +kernel
theorem dX5_add_32 : decode cX5_add 32 = .ok (.aload_n 0, 1) := by decide +kernel
theorem dX5_add_33 : decode cX5_add 33 = .ok (.getfield 18, 3) := by decide +kernel
theorem dX5_add_36 : decode cX5_add 36 = .ok (.aload_n 0, 1) := by decide +kernel
theorem dX5_add_37 : decode cX5_add 37 = .ok (.getfield 25, 3) := by decide +kernel
theorem dX5_add_40 : decode cX5_add 40 = .ok (.aload_n 0, 1) := by decide +kernel
theorem dX5_add_41 : decode cX5_add 41 = .ok (.getfield 21, 3) := by decide +kernel
theorem dX5_add_44 : decode cX5_add 44 = .ok (.iload_n 2, 1) := by decide +kernel
theorem dX5_add_45 : decode cX5_add 45 = .ok (.iload_n 3, 1) := by decide +kernel
theorem dX5_add_46 : decode cX5_add 46 = .ok (.invokevirtual 29, 3) := by decide +kernel
theorem dX5_add_49 : decode cX5_add 49 = .ok (.iastore, 1) := by decide +kernel
theorem dX5_add_50 : decode cX5_add 50 = .ok (.aload_n 0, 1) := by decide +kernel
theorem dX5_add_51 : decode cX5_add 51 = .ok (.dup, 1) := by decide +kernel
theorem dX5_add_52 : decode cX5_add 52 = .ok (.getfield 25, 3) := by decide +kernel
theorem dX5_add_55 : decode cX5_add 55 = .ok (.iconst 1, 1) := by decide +kernel
theorem dX5_add_56 : decode cX5_add 56 = .ok (.iadd, 1) := by decide +kernel
theorem dX5_add_57 : decode cX5_add 57 = .ok (.putfield 25, 3) := by decide +kernel
theorem dX5_add_60 : decode cX5_add 60 = .ok (.aload_n 0, 1) := by decide +kernel
theorem dX5_add_61 : decode cX5_add 61 = .ok (.getfield 25, 3) := by decide +kernel
theorem dX5_add_64 : decode cX5_add 64 = .ok (.ireturn, 1) := by decide +kernel
theorem dX5_clear_0 : decode cX5_clear 0 = .ok (.aload_n 0, 1) := by decide +kernel
theorem dX5_clear_1 : decode cX5_clear 1 = .ok (.getfield 25, 3) := by decide +kernel
theorem dX5_clear_4 : decode cX5_clear 4 = .ok (.istore_n 1, 1) := by decide +kernel
theorem dX5_clear_5 : decode cX5_clear 5 = .ok (.aload_n 0, 1) := by decide +kernel
theorem dX5_clear_6 : decode cX5_clear 6 = .ok (.iconst 0, 1) := by decide +kernel
theorem dX5_clear_7 : decode cX5_clear 7 = .ok (.putfield 25, 3) := by decide +kernel
theorem dX5_clear_10 : decode cX5_clear 10 = .ok (.iload_n 1, 1) := by decide +kernel
theorem dX5_clear_11 : decode cX5_clear 11 = .ok (.ireturn, 1) := by decide +kernel
theorem dX5_excludedAt_0 : decode cX5_excludedAt 0 = .ok (.iconst 0, 1) := by decide +kernel
theorem dX5_excludedAt_1 : decode cX5_excludedAt 1 = .ok (.istore_n 3, 1) := by decide +kernel
theorem dX5_excludedAt_2 : decode cX5_excludedAt 2 = .ok (.iconst 0, 1) := by decide +kernel
theorem dX5_excludedAt_3 : decode cX5_excludedAt 3 = .ok (.istore 4, 2) := by decide +kernel
theorem dX5_excludedAt_5 : decode cX5_excludedAt 5 = .ok (.iload 4, 2) := by decide +kernel
theorem dX5_excludedAt_7 : decode cX5_excludedAt 7 = .ok (.aload_n 0, 1) := by decide +kernel
theorem dX5_excludedAt_8 : decode cX5_excludedAt 8 = .ok (.getfield 25, 3) := by decide +kernel
theorem dX5_excludedAt_11 : decode cX5_excludedAt 11 = .ok (.if_icmp .ge 51, 3) := by decide +kernel
theorem dX5_excludedAt_14 : decode cX5_excludedAt 14 = .ok (.aload_n 0, 1) := by decide +kernel
theorem dX5_excludedAt_15 : decode cX5_excludedAt 15 = .ok (.getfield 21, 3) := by decide +kernel
theorem dX5_excludedAt_18 : decode cX5_excludedAt 18 = .ok (.iload_n 1, 1) := by decide +kernel
theorem dX5_excludedAt_19 : decode cX5_excludedAt 19 = .ok (.aload_n 0, 1) := by decide +kernel
theorem dX5_excludedAt_20 : decode cX5_excludedAt 20 = .ok (.getfield 15, 3) := by decide +kernel
theorem dX5_excludedAt_23 : decode cX5_excludedAt 23 = .ok (.iload 4, 2) := by decide +kernel
theorem dX5_excludedAt_25 : decode cX5_excludedAt 25 = .ok (.iaload, 1) := by decide +kernel
theorem dX5_excludedAt_26 : decode cX5_excludedAt 26 = .ok (.invokevirtual 35, 3) := by decide +kernel
theorem dX5_excludedAt_29 : decode cX5_excludedAt 29 = .ok (.iload_n 2, 1) := by decide +kernel
theorem dX5_excludedAt_30 : decode cX5_excludedAt 30 = .ok (.aload_n 0, 1) := by decide +kernel
theorem dX5_excludedAt_31 : decode cX5_excludedAt 31 = .ok (.getfield 18, 3) := by decide +kernel
theorem dX5_excludedAt_34 : decode cX5_excludedAt 34 = .ok (.iload 4, 2) := by decide +kernel
theorem dX5_excludedAt_36 : decode cX5_excludedAt 36 = .ok (.iaload, 1) := by decide +kernel
theorem dX5_excludedAt_37 : decode cX5_excludedAt 37 = .ok (.isub, 1) := by decide +kernel
theorem dX5_excludedAt_38 : decode cX5_excludedAt 38 = .ok (.invokestatic 38, 3) := by decide +kernel
theorem dX5_excludedAt_41 : decode cX5_excludedAt 41 = .ok (.if_icmp .le 15, 3) := by decide +kernel
theorem dX5_excludedAt_44 : decode cX5_excludedAt 44 = .ok (.iload_n 3, 1) := by decide +kernel
theorem dX5_excludedAt_45 : decode cX5_excludedAt 45 = .ok (.iconst 1, 1) := by decide +kernel
theorem dX5_excludedAt_46 : decode cX5_excludedAt 46 = .ok (.aload_n 0, 1) := by decide +kernel
theorem dX5_excludedAt_47 : decode cX5_excludedAt 47 = .ok (.getfield 9, 3) := by decide +kernel
theorem dX5_excludedAt_50 : decode cX5_excludedAt 50 = .ok (.iload 4, 2) := by decide +kernel
theorem dX5_excludedAt_52 : decode cX5_excludedAt 52 = .ok (.iaload, 1) := by decide +kernel
theorem dX5_excludedAt_53 : decode cX5_excludedAt 53 = .ok (.ishl, 1) := by decide +kernel
theorem dX5_excludedAt_54 : decode cX5_excludedAt 54 = .ok (.ior, 1) := by decide +kernel
theorem dX5_excludedAt_55 : decode cX5_excludedAt 55 = .ok (.istore_n 3, 1) := by decide +kernel
theorem dX5_excludedAt_56 : decode cX5_excludedAt 56 = .ok (.iinc 4 1, 3) := by decide +kernel
theorem dX5_excludedAt_59 : decode cX5_excludedAt 59 = .ok (.goto (-54), 3) := by decide +kernel
theorem dX5_excludedAt_62 : decode cX5_excludedAt 62 = .ok (.iload_n 3, 1) := by decide +kernel
theorem dX5_excludedAt_63 : decode cX5_excludedAt 63 = .ok (.ireturn, 1) := by decide +kernel
theorem dX5_lying_0 : decode cX5_lying 0 = .ok (.iconst 0, 1) := by decide +kernel
theorem dX5_lying_1 : decode cX5_lying 1 = .ok (.istore_n 1, 1) := by decide +kernel
theorem dX5_lying_2 : decode cX5_lying 2 = .ok (.iconst 0, 1) := by decide +kernel
theorem dX5_lying_3 : decode cX5_lying 3 = .ok (.istore_n 2, 1) := by decide +kernel
theorem dX5_lying_4 : decode cX5_lying 4 = .ok (.iload_n 2, 1) := by decide +kernel
theorem dX5_lying_5 : decode cX5_lying 5 = .ok (.aload_n 0, 1) := by decide +kernel
theorem dX5_lying_6 : decode cX5_lying 6 = .ok (.getfield 25, 3) := by decide +kernel
theorem dX5_lying_9 : decode cX5_lying 9 = .ok (.if_icmp .ge 37, 3) := by decide +kernel
theorem dX5_lying_12 : decode cX5_lying 12 = .ok (.iload_n 1, 1) := by decide +kernel
theorem dX5_lying_13 : decode cX5_lying 13 = .ok (.aload_n 0, 1) := by decide +kernel
theorem dX5_lying_14 : decode cX5_lying 14 = .ok (.aload_n 0, 1) := by decide +kernel
theorem dX5_lying_15 : decode cX5_lying 15 = .ok (.getfield 15, 3) := by decide +kernel
theorem dX5_lying_18 : decode cX5_lying 18 = .ok (.iload_n 2, 1) := by decide +kernel
theorem dX5_lying_19 : decode cX5_lying 19 = .ok (.iaload, 1) := by decide +kernel
theorem dX5_lying_20 : decode cX5_lying 20 = .ok (.aload_n 0, 1) := by decide +kernel
theorem dX5_lying_21 : decode cX5_lying 21 = .ok (.getfield 18, 3) := by decide +kernel
theorem dX5_lying_24 : decode cX5_lying 24 = .ok (.iload_n 2, 1) := by decide +kernel
theorem dX5_lying_25 : decode cX5_lying 25 = .ok (.iaload, 1) := by decide +kernel
theorem dX5_lying_26 : decode cX5_lying 26 = .ok (.invokevirtual 44, 3) := by decide +kernel
theorem dX5_lying_29 : decode cX5_lying 29 = .ok (.iconst 1, 1) := by decide +kernel
theorem dX5_lying_30 : decode cX5_lying 30 = .ok (.aload_n 0, 1) := by decide +kernel
theorem dX5_lying_31 : decode cX5_lying 31 = .ok (.getfield 9, 3) := by decide +kernel
theorem dX5_lying_34 : decode cX5_lying 34 = .ok (.iload_n 2, 1) := by decide +kernel
theorem dX5_lying_35 : decode cX5_lying 35 = .ok (.iaload, 1) := by decide +kernel
theorem dX5_lying_36 : decode cX5_lying 36 = .ok (.ishl, 1) := by decide +kernel
theorem dX5_lying_37 : decode cX5_lying 37 = .ok (.iand, 1) := by decide +kernel
theorem dX5_lying_38 : decode cX5_lying 38 = .ok (.ior, 1) := by decide +kernel
theorem dX5_lying_39 : decode cX5_lying 39 = .ok (.istore_n 1, 1) := by decide +kernel
theorem dX5_lying_40 : decode cX5_lying 40 = .ok (.iinc 2 1, 3) := by decide +kernel
theorem dX5_lying_43 : decode cX5_lying 43 = .ok (.goto (-39), 3) := by decide +kernel
theorem dX5_lying_46 : decode cX5_lying 46 = .ok (.iload_n 1, 1) := by decide +kernel
theorem dX5_lying_47 : decode cX5_lying 47 = .ok (.ireturn, 1) := by decide +kernel
theorem dX5_possibleAt_0 : decode cX5_possibleAt 0 = .ok (.bipush 63, 2) := by decide +kernel
theorem dX5_possibleAt_2 : decode cX5_possibleAt 2 = .ok (.istore_n 3, 1) := by decide +kernel
theorem dX5_possibleAt_3 : decode cX5_possibleAt 3 = .ok (.iload_n 3, 1) := by decide +kernel
theorem dX5_possibleAt_4 : decode cX5_possibleAt 4 = .ok (.aload_n 0, 1) := by decide +kernel
theorem dX5_possibleAt_5 : decode cX5_possibleAt 5 = .ok (.invokevirtual 47, 3) := by decide +kernel
theorem dX5_possibleAt_8 : decode cX5_possibleAt 8 = .ok (.iconst (-1), 1) := by decide +kernel
theorem dX5_possibleAt_9 : decode cX5_possibleAt 9 = .ok (.ixor, 1) := by decide +kernel
theorem dX5_possibleAt_10 : decode cX5_possibleAt 10 = .ok (.iand, 1) := by decide +kernel
theorem dX5_possibleAt_11 : decode cX5_possibleAt 11 = .ok (.aload_n 0, 1) := by decide +kernel
theorem dX5_possibleAt_12 : decode cX5_possibleAt 12 = .ok (.iload_n 1, 1) := by decide +kernel
theorem dX5_possibleAt_13 : decode cX5_possibleAt 13 = .ok (.aload_n 0, 1) := by decide +kernel
theorem dX5_possibleAt_14 : decode cX5_possibleAt 14 = .ok (.getfield 21, 3) := by decide +kernel
theorem dX5_possibleAt_17 : decode cX5_possibleAt 17 = .ok (.iload_n 1, 1) := by decide +kernel
theorem dX5_possibleAt_18 : decode cX5_possibleAt 18 = .ok (.iload_n 2, 1) := by decide +kernel
theorem dX5_possibleAt_19 : decode cX5_possibleAt 19 = .ok (.invokevirtual 29, 3) := by decide +kernel
theorem dX5_possibleAt_22 : decode cX5_possibleAt 22 = .ok (.invokevirtual 44, 3) := by decide +kernel
theorem dX5_possibleAt_25 : decode cX5_possibleAt 25 = .ok (.iconst (-1), 1) := by decide +kernel
theorem dX5_possibleAt_26 : decode cX5_possibleAt 26 = .ok (.ixor, 1) := by decide +kernel
theorem dX5_possibleAt_27 : decode cX5_possibleAt 27 = .ok (.iand, 1) := by decide +kernel
theorem dX5_possibleAt_28 : decode cX5_possibleAt 28 = .ok (.ireturn, 1) := by decide +kernel
theorem dX6_init_0 : decode cX6_init 0 = .ok (.aload_n 0, 1) := by decide +kernel
theorem dX6_init_1 : decode cX6_init 1 = .ok (.invokespecial 3, 3) := by decide +kernel
theorem dX6_init_4 : decode cX6_init 4 = .ok (.aload_n 0, 1) := by decide +kernel
theorem dX6_init_5 : decode cX6_init 5 = .ok (.sipush 200, 3) := by decide +kernel
theorem dX6_init_8 : decode cX6_init 8 = .ok (.newarray .int, 2) := by decide +kernel
theorem dX6_init_10 : decode cX6_init 10 = .ok (.putfield 9, 3) := by decide +kernel
theorem dX6_init_13 : decode cX6_init 13 = .ok (.return_, 1) := by decide +kernel
theorem dX6_append_0 : decode cX6_append 0 = .ok (.aload_n 0, 1) := by decide +kernel
theorem dX6_append_1 : decode cX6_append 1 = .ok (.getfield 15, 3) := by decide +kernel
theorem dX6_append_4 : decode cX6_append 4 = .ok (.iload_n 3, 1) := by decide +kernel
theorem dX6_append_5 : decode cX6_append 5 = .ok (.iadd, 1) := by decide +kernel
theorem dX6_append_6 : decode cX6_append 6 = .ok (.sipush 200, 3) := by decide +kernel
theorem dX6_append_9 : decode cX6_append 9 = .ok (.if_icmp .le 6, 3) := by decide +kernel
theorem dX6_append_12 : decode cX6_append 12 = .ok (.bipush (-5), 2) := by decide +kernel
theorem dX6_append_14 : decode cX6_append 14 = .ok (.ireturn, 1) := by decide +kernel
theorem dX6_append_15 : decode cX6_append 15 = .ok (.iconst 0, 1) := by decide +kernel
theorem dX6_append_16 : decode cX6_append 16 = .ok (.istore 4, 2) := by decide +kernel
theorem dX6_append_18 : decode cX6_append 18 = .ok (.iload 4, 2) := by decide +kernel
theorem dX6_append_20 : decode cX6_append 20 = .ok (.iload_n 3, 1) := by decide +kernel
theorem dX6_append_21 : decode cX6_append 21 = .ok (.if_icmp .ge 40, 3) := by decide +kernel
theorem dX6_append_24 : decode cX6_append 24 = .ok (.aload_n 0, 1) := by decide +kernel
theorem dX6_append_25 : decode cX6_append 25 = .ok (.getfield 9, 3) := by decide +kernel
theorem dX6_append_28 : decode cX6_append 28 = .ok (.aload_n 0, 1) := by decide +kernel
theorem dX6_append_29 : decode cX6_append 29 = .ok (.getfield 15, 3) := by decide +kernel
theorem dX6_append_32 : decode cX6_append 32 = .ok (.lload_n 1, 1) := by decide +kernel
theorem dX6_append_33 : decode cX6_append 33 = .ok (.bipush 8, 2) := by decide +kernel
theorem dX6_append_35 : decode cX6_append 35 = .ok (.iload 4, 2) := by decide +kernel
theorem dX6_append_37 : decode cX6_append 37 = .ok (.imul, 1) := by decide +kernel
theorem dX6_append_38 : decode cX6_append 38 = .ok (.lshr, 1) := by decide +kernel
theorem dX6_append_39 : decode cX6_append 39 = .ok (.ldc2_w 19, 3) := by decide +kernel
theorem dX6_append_42 : decode cX6_append 42 = .ok (.land, 1) := by decide +kernel
theorem dX6_append_43 : decode cX6_append 43 = .ok (.l2i, 1) := by decide +kernel
theorem dX6_append_44 : decode cX6_append 44 = .ok (.iastore, 1) := by decide +kernel
theorem dX6_append_45 : decode cX6_append 45 = .ok (.aload_n 0, 1) := by decide +kernel
theorem dX6_append_46 : decode cX6_append 46 = .ok (.dup, 1) := by decide +kernel
theorem dX6_append_47 : decode cX6_append 47 = .ok (.getfield 15, 3) := by decide +kernel
theorem dX6_append_50 : decode cX6_append 50 = .ok (.iconst 1, 1) := by decide +kernel
theorem dX6_append_51 : decode cX6_append 51 = .ok (.iadd, 1) := by decide +kernel
theorem dX6_append_52 : decode cX6_append 52 = .ok (.putfield 15, 3) := by decide +kernel
theorem dX6_append_55 : decode cX6_append 55 = .ok (.iinc 4 1, 3) := by decide +kernel
theorem dX6_append_58 : decode cX6_append 58 = .ok (.goto (-40), 3) := by decide +kernel
theorem dX6_append_61 : decode cX6_append 61 = .ok (.aload_n 0, 1) := by decide +kernel
theorem dX6_append_62 : decode cX6_append 62 = .ok (.getfield 15, 3) := by decide +kernel
theorem dX6_append_65 : decode cX6_append 65 = .ok (.ireturn, 1) := by decide +kernel
theorem dX6_clear_0 : decode cX6_clear 0 = .ok (.aload_n 0, 1) := by decide +kernel
theorem dX6_clear_1 : decode cX6_clear 1 = .ok (.getfield 15, 3) := by decide +kernel
theorem dX6_clear_4 : decode cX6_clear 4 = .ok (.istore_n 1, 1) := by decide +kernel
theorem dX6_clear_5 : decode cX6_clear 5 = .ok (.aload_n 0, 1) := by decide +kernel
theorem dX6_clear_6 : decode cX6_clear 6 = .ok (.iconst 0, 1) := by decide +kernel
theorem dX6_clear_7 : decode cX6_clear 7 = .ok (.putfield 15, 3) := by decide +kernel
theorem dX6_clear_10 : decode cX6_clear 10 = .ok (.iload_n 1, 1) := by decide +kernel
theorem dX6_clear_11 : decode cX6_clear 11 = .ok (.ireturn, 1) := by decide +kernel
theorem dX7_init_0 : decode cX7_init 0 = .ok (.aload_n 0, 1) := by decide +kernel
theorem dX7_init_1 : decode cX7_init 1 = .ok (.invokespecial 3, 3) := by decide +kernel
theorem dX7_init_4 : decode cX7_init 4 = .ok (.aload_n 0, 1) := by decide +kernel
theorem dX7_init_5 : decode cX7_init 5 = .ok (.bipush 12, 2) := by decide +kernel
theorem dX7_init_7 : decode cX7_init 7 = .ok (.newarray .int, 2) := by decide +kernel
theorem dX7_init_9 : decode cX7_init 9 = .ok (.putfield 9, 3) := by decide +kernel
theorem dX7_init_12 : decode cX7_init 12 = .ok (.aload_n 0, 1) := by decide +kernel
theorem dX7_init_13 : decode cX7_init 13 = .ok (.aload_n 1, 1) := by decide +kernel
theorem dX7_init_14 : decode cX7_init 14 = .ok (.putfield 15, 3) := by decide +kernel
theorem dX7_init_17 : decode cX7_init 17 = .ok (.return_, 1) := by decide +kernel
theorem dX7_add_0 : decode cX7_add 0 = .ok (.aload_n 0, 1) := by decide +kernel
theorem dX7_add_1 : decode cX7_add 1 = .ok (.getfield 19, 3) := by decide +kernel
theorem dX7_add_4 : decode cX7_add 4 = .ok (.bipush 12, 2) := by decide +kernel
theorem dX7_add_6 : decode cX7_add 6 = .ok (.if_icmp .lt 6, 3) := by decide +kernel
theorem dX7_add_9 : decode cX7_add 9 = .ok (.bipush (-5), 2) := by decide +kernel
theorem dX7_add_11 : decode cX7_add 11 = .ok (.ireturn, 1) := by decide +kernel
theorem dX7_add_12 : decode cX7_add 12 = .ok (.aload_n 0, 1) := by decide +kernel
theorem dX7_add_13 : decode cX7_add 13 = .ok (.getfield 9, 3) := by decide +kernel
theorem dX7_add_16 : decode cX7_add 16 = .ok (.aload_n 0, 1) := by decide +kernel
theorem dX7_add_17 : decode cX7_add 17 = .ok (.getfield 19, 3) := by decide +kernel
theorem dX7_add_20 : decode cX7_add 20 = .ok (.iload_n 1, 1) := by decide +kernel
theorem dX7_add_21 : decode cX7_add 21 = .ok (.iastore, 1) := by decide +kernel
theorem dX7_add_22 : decode cX7_add 22 = .ok (.aload_n 0, 1) := by decide +kernel
theorem dX7_add_23 : decode cX7_add 23 = .ok (.dup, 1) := by decide +kernel
theorem dX7_add_24 : decode cX7_add 24 = .ok (.getfield 19, 3) := by decide +kernel
theorem dX7_add_27 : decode cX7_add 27 = .ok (.iconst 1, 1) := by decide +kernel
theorem dX7_add_28 : decode cX7_add 28 = .ok (.iadd, 1) := by decide +kernel
theorem dX7_add_29 : decode cX7_add 29 = .ok (.putfield 19, 3) := by decide +kernel
theorem dX7_add_32 : decode cX7_add 32 = .ok (.aload_n 0, 1) := by decide +kernel
theorem dX7_add_33 : decode cX7_add 33 = .ok (.getfield 19, 3) := by decide +kernel
theorem dX7_add_36 : decode cX7_add 36 = .ok (.ireturn, 1) := by decide +kernel
theorem dX7_clear_0 : decode cX7_clear 0 = .ok (.aload_n 0, 1) := by decide +kernel
theorem dX7_clear_1 : decode cX7_clear 1 = .ok (.getfield 19, 3) := by decide +kernel
theorem dX7_clear_4 : decode cX7_clear 4 = .ok (.istore_n 1, 1) := by decide +kernel
theorem dX7_clear_5 : decode cX7_clear 5 = .ok (.aload_n 0, 1) := by decide +kernel
theorem dX7_clear_6 : decode cX7_clear 6 = .ok (.iconst 0, 1) := by decide +kernel
theorem dX7_clear_7 : decode cX7_clear 7 = .ok (.putfield 19, 3) := by decide +kernel
theorem dX7_clear_10 : decode cX7_clear 10 = .ok (.iload_n 1, 1) := by decide +kernel
theorem dX7_clear_11 : decode cX7_clear 11 = .ok (.ireturn, 1) := by decide +kernel
theorem dX7_follow_0 : decode cX7_follow 0 = .ok (.aload_n 0, 1) := by decide +kernel
theorem dX7_follow_1 : decode cX7_follow 1 = .ok (.iload_n 1, 1) := by decide +kernel
theorem dX7_follow_2 : decode cX7_follow 2 = .ok (.putfield 23, 3) := by decide +kernel
theorem dX7_follow_5 : decode cX7_follow 5 = .ok (.aload_n 0, 1) := by decide +kernel
theorem dX7_follow_6 : decode cX7_follow 6 = .ok (.iconst 0, 1) := by decide +kernel
theorem dX7_follow_7 : decode cX7_follow 7 = .ok (.putfield 26, 3) := by decide +kernel
theorem dX7_follow_10 : decode cX7_follow 10 = .ok (.aload_n 0, 1) := by decide +kernel
theorem dX7_follow_11 : decode cX7_follow 11 = .ok (.iconst 0, 1) := by decide +kernel
theorem dX7_follow_12 : decode cX7_follow 12 = .ok (.putfield 29, 3) := by decide +kernel
theorem dX7_follow_15 : decode cX7_follow 15 = .ok (.iconst 1, 1) := by decide +kernel
theorem dX7_follow_16 : decode cX7_follow 16 = .ok (.istore_n 2, 1) := by decide +kernel
theorem dX7_follow_17 : decode cX7_follow 17 = .ok (.iload_n 2, 1) := by decide +kernel
theorem dX7_follow_18 : decode cX7_follow 18 = .ok (.aload_n 0, 1) := by decide +kernel
theorem dX7_follow_19 : decode cX7_follow 19 = .ok (.getfield 19, 3) := by decide +kernel
theorem dX7_follow_22 : decode cX7_follow 22 = .ok (.if_icmp .ge 134, 3) := by decide +kernel
theorem dX7_follow_25 : decode cX7_follow 25 = .ok (.aload_n 0, 1) := by decide +kernel
theorem dX7_follow_26 : decode cX7_follow 26 = .ok (.getfield 15, 3) := by decide +kernel
theorem dX7_follow_29 : decode cX7_follow 29 = .ok (.aload_n 0, 1) := by decide +kernel
theorem dX7_follow_30 : decode cX7_follow 30 = .ok (.getfield 9, 3) := by decide +kernel
theorem dX7_follow_33 : decode cX7_follow 33 = .ok (.iload_n 2, 1) := by decide +kernel
theorem dX7_follow_34 : decode cX7_follow 34 = .ok (.iconst 1, 1) := by decide +kernel
theorem dX7_follow_35 : decode cX7_follow 35 = .ok (.isub, 1) := by decide +kernel
theorem dX7_follow_36 : decode cX7_follow 36 = .ok (.iaload, 1) := by decide +kernel
theorem dX7_follow_37 : decode cX7_follow 37 = .ok (.aload_n 0, 1) := by decide +kernel
theorem dX7_follow_38 : decode cX7_follow 38 = .ok (.getfield 23, 3) := by decide +kernel
theorem dX7_follow_41 : decode cX7_follow 41 = .ok (.invokevirtual 32, 3) := by decide +kernel
theorem dX7_follow_44 : decode cX7_follow 44 = .ok (.istore_n 3, 1) := by decide +kernel
theorem dX7_follow_45 : decode cX7_follow 45 = .ok (.aload_n 0, 1) := by decide +kernel
theorem dX7_follow_46 : decode cX7_follow 46 = .ok (.dup, 1) := by decide +kernel
theorem dX7_follow_47 : decode cX7_follow 47 = .ok (.getfield 23, 3) := by decide +kernel
theorem dX7_follow_50 : decode cX7_follow 50 = .ok (.aload_n 0, 1) := by decide +kernel
theorem dX7_follow_51 : decode cX7_follow 51 = .ok (.getfield 9, 3) := by decide +kernel
theorem dX7_follow_54 : decode cX7_follow 54 = .ok (.iload_n 2, 1) := by decide +kernel
theorem dX7_follow_55 : decode cX7_follow 55 = .ok (.iaload, 1) := by decide +kernel
theorem dX7_follow_56 : decode cX7_follow 56 = .ok (.aload_n 0, 1) := by decide +kernel
theorem dX7_follow_57 : decode cX7_follow 57 = .ok (.getfield 9, 3) := by decide +kernel
theorem dX7_follow_60 : decode cX7_follow 60 = .ok (.iload_n 2, 1) := by decide +kernel
theorem dX7_follow_61 : decode cX7_follow 61 = .ok (.iconst 1, 1) := by decide +kernel
theorem dX7_follow_62 : decode cX7_follow 62 = .ok (.isub, 1) := by decide +kernel
theorem dX7_follow_63 : decode cX7_follow 63 = .ok (.iaload, 1) := by decide +kernel
theorem dX7_follow_64 : decode cX7_follow 64 = .ok (.if_icmp .ne 7, 3) := by decide +kernel
theorem dX7_follow_67 : decode cX7_follow 67 = .ok (.iconst 1, 1) := by decide +kernel
theorem dX7_follow_68 : decode cX7_follow 68 = .ok (.goto 24, 3) := by decide +kernel
theorem dX7_follow_71 : decode cX7_follow 71 = .ok (.aload_n 0, 1) := by decide +kernel
theorem dX7_follow_72 : decode cX7_follow 72 = .ok (.getfield 15, 3) := by decide +kernel
theorem dX7_follow_75 : decode cX7_follow 75 = .ok (.aload_n 0, 1) := by decide +kernel
theorem dX7_follow_76 : decode cX7_follow 76 = .ok (.getfield 9, 3) := by decide +kernel
theorem dX7_follow_79 : decode cX7_follow 79 = .ok (.iload_n 2, 1) := by decide +kernel
theorem dX7_follow_80 : decode cX7_follow 80 = .ok (.iconst 1, 1) := by decide +kernel
theorem dX7_follow_81 : decode cX7_follow 81 = .ok (.isub, 1) := by decide +kernel
theorem dX7_follow_82 : decode cX7_follow 82 = .ok (.iaload, 1) := by decide +kernel
theorem dX7_follow_83 : decode cX7_follow 83 = .ok (.aload_n 0, 1) := by decide +kernel
theorem dX7_follow_84 : decode cX7_follow 84 = .ok (.getfield 9, 3) := by decide +kernel
theorem dX7_follow_87 : decode cX7_follow 87 = .ok (.iload_n 2, 1) := by decide +kernel
theorem dX7_follow_88 : decode cX7_follow 88 = .ok (.iaload, 1) := by decide +kernel
theorem dX7_follow_89 : decode cX7_follow 89 = .ok (.invokevirtual 38, 3) := by decide +kernel
theorem dX7_follow_92 : decode cX7_follow 92 = .ok (.iadd, 1) := by decide +kernel
theorem dX7_follow_93 : decode cX7_follow 93 = .ok (.putfield 23, 3) := by decide +kernel
theorem dX7_follow_96 : decode cX7_follow 96 = .ok (.aload_n 0, 1) := by decide +kernel
theorem dX7_follow_97 : decode cX7_follow 97 = .ok (.getfield 15, 3) := by decide +kernel
theorem dX7_follow_100 : decode cX7_follow 100 = .ok (.aload_n 0, 1) := by decide +kernel
theorem dX7_follow_101 : decode cX7_follow 101 = .ok (.getfield 9, 3) := by decide +kernel
theorem dX7_follow_104 : decode cX7_follow 104 = .ok (.iload_n 2, 1) := by decide +kernel
theorem dX7_follow_105 : decode cX7_follow 105 = .ok (.iaload, 1) := by decide +kernel
theorem dX7_follow_106 : decode cX7_follow 106 = .ok (.aload_n 0, 1) := by decide +kernel
theorem dX7_follow_107 : decode cX7_follow 107 = .ok (.getfield 23, 3) := by decide +kernel
theorem dX7_follow_110 : decode cX7_follow 110 = .ok (.invokevirtual 32, 3) := by decide +kernel
theorem dX7_follow_113 : decode cX7_follow 113 = .ok (.istore 4, 2) := by decide +kernel
theorem dX7_follow_115 : decode cX7_follow 115 = .ok (.iload 4, 2) := by decide +kernel
theorem dX7_follow_117 : decode cX7_follow 117 = .ok (.iload_n 3, 1) := by decide +kernel
theorem dX7_follow_118 : decode cX7_follow 118 = .ok (.if_icmp .le 16, 3) := by decide +kernel
theorem dX7_follow_121 : decode cX7_follow 121 = .ok (.aload_n 0, 1) := by decide +kernel
theorem dX7_follow_122 : decode cX7_follow 122 = .ok (.dup, 1) := by decide +kernel
theorem dX7_follow_123 : decode cX7_follow 123 = .ok (.getfield 26, 3) := by decide +kernel
theorem dX7_follow_126 : decode cX7_follow 126 = .ok (.iconst 1, 1) := by decide +kernel
theorem dX7_follow_127 : decode cX7_follow 127 = .ok (.iadd, 1) := by decide +kernel
theorem dX7_follow_128 : decode cX7_follow 128 = .ok (.putfield 26, 3) := by decide +kernel
theorem dX7_follow_131 : decode cX7_follow 131 = .ok (.goto 19, 3) := by decide +kernel
theorem dX7_follow_134 : decode cX7_follow 134 = .ok (.iload 4, 2) := by decide +kernel
theorem dX7_follow_136 : decode cX7_follow 136 = .ok (.iload_n 3, 1) := by decide +kernel
theorem dX7_follow_137 : decode cX7_follow 137 = .ok (.if_icmp .ge 13, 3) := by decide +kernel
theorem dX7_follow_140 : decode cX7_follow 140 = .ok (.aload_n 0, 1) := by decide +kernel
theorem dX7_follow_141 : decode cX7_follow 141 = .ok (.dup, 1) := by decide +kernel
theorem dX7_follow_142 : decode cX7_follow 142 = .ok (.getfield 29, 3) := by decide +kernel
theorem dX7_follow_145 : decode cX7_follow 145 = .ok (.iconst 1, 1) := by decide +kernel
theorem dX7_follow_146 : decode cX7_follow 146 = .ok (.iadd, 1) := by decide +kernel
theorem dX7_follow_147 : decode cX7_follow 147 = .ok (.putfield 29, 3) := by decide +kernel
theorem dX7_follow_150 : decode cX7_follow 150 = .ok (.iinc 2 1, 3) := by decide +kernel
theorem dX7_follow_153 : decode cX7_follow 153 = .ok (.goto (-136), 3) := by decide +kernel
theorem dX7_follow_156 : decode cX7_follow 156 = .ok (.return_, 1) := by decide +kernel
theorem dX8_init_0 : decode cX8_init 0 = .ok (.aload_n 0, 1) := by decide +kernel
theorem dX8_init_1 : decode cX8_init 1 = .ok (.invokespecial 3, 3) := by decide +kernel
theorem dX8_init_4 : decode cX8_init 4 = .ok (.aload_n 0, 1) := by decide +kernel
theorem dX8_init_5 : decode cX8_init 5 = .ok (.iconst 2, 1) := by decide +kernel
theorem dX8_init_6 : decode cX8_init 6 = .ok (.newarray .int, 2) := by decide +kernel
theorem dX8_init_8 : decode cX8_init 8 = .ok (.putfield 9, 3) := by decide +kernel
theorem dX8_init_11 : decode cX8_init 11 = .ok (.aload_n 0, 1) := by decide +kernel
theorem dX8_init_12 : decode cX8_init 12 = .ok (.iconst 2, 1) := by decide +kernel
theorem dX8_init_13 : decode cX8_init 13 = .ok (.newarray .int, 2) := by decide +kernel
theorem dX8_init_15 : decode cX8_init 15 = .ok (.putfield 15, 3) := by decide +kernel
theorem dX8_init_18 : decode cX8_init 18 = .ok (.aload_n 0, 1) := by decide +kernel
theorem dX8_init_19 : decode cX8_init 19 = .ok (.invokevirtual 18, 3) := by decide +kernel
theorem dX8_init_22 : decode cX8_init 22 = .ok (.return_, 1) := by decide +kernel
theorem dX8_restart_0 : decode cX8_restart 0 = .ok (.aload_n 0, 1) := by decide +kernel
theorem dX8_restart_1 : decode cX8_restart 1 = .ok (.iconst 0, 1) := by decide +kernel
theorem dX8_restart_2 : decode cX8_restart 2 = .ok (.putfield 21, 3) := by decide +kernel
theorem dX8_restart_5 : decode cX8_restart 5 = .ok (.aload_n 0, 1) := by decide +kernel
theorem dX8_restart_6 : decode cX8_restart 6 = .ok (.iconst 0, 1) := by decide +kernel
theorem dX8_restart_7 : decode cX8_restart 7 = .ok (.putfield 25, 3) := by decide +kernel
theorem dX8_restart_10 : decode cX8_restart 10 = .ok (.iconst 0, 1) := by decide +kernel
theorem dX8_restart_11 : decode cX8_restart 11 = .ok (.istore_n 1, 1) := by decide +kernel
theorem dX8_restart_12 : decode cX8_restart 12 = .ok (.iload_n 1, 1) := by decide +kernel
theorem dX8_restart_13 : decode cX8_restart 13 = .ok (.iconst 2, 1) := by decide +kernel
theorem dX8_restart_14 : decode cX8_restart 14 = .ok (.if_icmp .ge 16, 3) := by decide +kernel
theorem dX8_restart_17 : decode cX8_restart 17 = .ok (.aload_n 0, 1) := by decide +kernel
theorem dX8_restart_18 : decode cX8_restart 18 = .ok (.getfield 9, 3) := by decide +kernel
theorem dX8_restart_21 : decode cX8_restart 21 = .ok (.iload_n 1, 1) := by decide +kernel
theorem dX8_restart_22 : decode cX8_restart 22 = .ok (.iconst (-1), 1) := by decide +kernel
theorem dX8_restart_23 : decode cX8_restart 23 = .ok (.iastore, 1) := by decide +kernel
theorem dX8_restart_24 : decode cX8_restart 24 = .ok (.iinc 1 1, 3) := by decide +kernel
theorem dX8_restart_27 : decode cX8_restart 27 = .ok (.goto (-15), 3) := by decide +kernel
theorem dX8_restart_30 : decode cX8_restart 30 = .ok (.return_, 1) := by decide +kernel
theorem dX8_spend_0 : decode cX8_spend 0 = .ok (.aload_n 0, 1) := by decide +kernel
theorem dX8_spend_1 : decode cX8_spend 1 = .ok (.getfield 25, 3) := by decide +kernel
theorem dX8_spend_4 : decode cX8_spend 4 = .ok (.iload_n 1, 1) := by decide +kernel
theorem dX8_spend_5 : decode cX8_spend 5 = .ok (.iadd, 1) := by decide +kernel
theorem dX8_spend_6 : decode cX8_spend 6 = .ok (.ldc 28, 2) := by decide +kernel
theorem dX8_spend_8 : decode cX8_spend 8 = .ok (.if_icmp .le 6, 3) := by decide +kernel
theorem dX8_spend_11 : decode cX8_spend 11 = .ok (.bipush (-5), 2) := by decide +kernel
theorem dX8_spend_13 : decode cX8_spend 13 = .ok (.ireturn, 1) := by decide +kernel
theorem dX8_spend_14 : decode cX8_spend 14 = .ok (.aload_n 0, 1) := by decide +kernel
theorem dX8_spend_15 : decode cX8_spend 15 = .ok (.dup, 1) := by decide +kernel
theorem dX8_spend_16 : decode cX8_spend 16 = .ok (.getfield 25, 3) := by decide +kernel
theorem dX8_spend_19 : decode cX8_spend 19 = .ok (.iload_n 1, 1) := by decide +kernel
theorem dX8_spend_20 : decode cX8_spend 20 = .ok (.iadd, 1) := by decide +kernel
theorem dX8_spend_21 : decode cX8_spend 21 = .ok (.putfield 25, 3) := by decide +kernel
theorem dX8_spend_24 : decode cX8_spend 24 = .ok (.aload_n 0, 1) := by decide +kernel
theorem dX8_spend_25 : decode cX8_spend 25 = .ok (.iload_n 2, 1) := by decide +kernel
theorem dX8_spend_26 : decode cX8_spend 26 = .ok (.putfield 21, 3) := by decide +kernel
theorem dX8_spend_29 : decode cX8_spend 29 = .ok (.aload_n 0, 1) := by decide +kernel
theorem dX8_spend_30 : decode cX8_spend 30 = .ok (.getfield 25, 3) := by decide +kernel
theorem dX8_spend_33 : decode cX8_spend 33 = .ok (.ireturn, 1) := by decide +kernel
theorem dX8_store_0 : decode cX8_store 0 = .ok (.aload_n 0, 1) := by decide +kernel
theorem dX8_store_1 : decode cX8_store 1 = .ok (.getfield 9, 3) := by decide +kernel
theorem dX8_store_4 : decode cX8_store 4 = .ok (.iload_n 1, 1) := by decide +kernel
theorem dX8_store_5 : decode cX8_store 5 = .ok (.aload_n 0, 1) := by decide +kernel
theorem dX8_store_6 : decode cX8_store 6 = .ok (.getfield 21, 3) := by decide +kernel
theorem dX8_store_9 : decode cX8_store 9 = .ok (.iastore, 1) := by decide +kernel
theorem dX8_store_10 : decode cX8_store 10 = .ok (.aload_n 0, 1) := by decide +kernel
theorem dX8_store_11 : decode cX8_store 11 = .ok (.getfield 15, 3) := by decide +kernel
theorem dX8_store_14 : decode cX8_store 14 = .ok (.iload_n 1, 1) := by decide +kernel
theorem dX8_store_15 : decode cX8_store 15 = .ok (.aload_n 0, 1) := by decide +kernel
theorem dX8_store_16 : decode cX8_store 16 = .ok (.getfield 25, 3) := by decide +kernel
theorem dX8_store_19 : decode cX8_store 19 = .ok (.iastore, 1) := by decide +kernel
theorem dX8_store_20 : decode cX8_store 20 = .ok (.aload_n 0, 1) := by decide +kernel
theorem dX8_store_21 : decode cX8_store 21 = .ok (.getfield 25, 3) := by decide +kernel
theorem dX8_store_24 : decode cX8_store 24 = .ok (.ireturn, 1) := by decide +kernel
theorem dX8_restore_0 : decode cX8_restore 0 = .ok (.aload_n 0, 1) := by decide +kernel
theorem dX8_restore_1 : decode cX8_restore 1 = .ok (.getfield 9, 3) := by decide +kernel
theorem dX8_restore_4 : decode cX8_restore 4 = .ok (.iload_n 1, 1) := by decide +kernel
theorem dX8_restore_5 : decode cX8_restore 5 = .ok (.iaload, 1) := by decide +kernel
theorem dX8_restore_6 : decode cX8_restore 6 = .ok (.iconst (-1), 1) := by decide +kernel
theorem dX8_restore_7 : decode cX8_restore 7 = .ok (.if_icmp .ne 6, 3) := by decide +kernel
theorem dX8_restore_10 : decode cX8_restore 10 = .ok (.bipush (-4), 2) := by decide +kernel
theorem dX8_restore_12 : decode cX8_restore 12 = .ok (.ireturn, 1) := by decide +kernel
theorem dX8_restore_13 : decode cX8_restore 13 = .ok (.aload_n 0, 1) := by decide +kernel
theorem dX8_restore_14 : decode cX8_restore 14 = .ok (.aload_n 0, 1) := by decide +kernel
theorem dX8_restore_15 : decode cX8_restore 15 = .ok (.getfield 9, 3) := by decide +kernel
theorem dX8_restore_18 : decode cX8_restore 18 = .ok (.iload_n 1, 1) := by decide +kernel
theorem dX8_restore_19 : decode cX8_restore 19 = .ok (.iaload, 1) := by decide +kernel
theorem dX8_restore_20 : decode cX8_restore 20 = .ok (.putfield 21, 3) := by decide +kernel
theorem dX8_restore_23 : decode cX8_restore 23 = .ok (.aload_n 0, 1) := by decide +kernel
theorem dX8_restore_24 : decode cX8_restore 24 = .ok (.aload_n 0, 1) := by decide +kernel
theorem dX8_restore_25 : decode cX8_restore 25 = .ok (.getfield 15, 3) := by decide +kernel
theorem dX8_restore_28 : decode cX8_restore 28 = .ok (.iload_n 1, 1) := by decide +kernel
theorem dX8_restore_29 : decode cX8_restore 29 = .ok (.iaload, 1) := by decide +kernel
theorem dX8_restore_30 : decode cX8_restore 30 = .ok (.putfield 25, 3) := by decide +kernel
theorem dX8_restore_33 : decode cX8_restore 33 = .ok (.aload_n 0, 1) := by decide +kernel
theorem dX8_restore_34 : decode cX8_restore 34 = .ok (.getfield 25, 3) := by decide +kernel
theorem dX8_restore_37 : decode cX8_restore 37 = .ok (.ireturn, 1) := by decide +kernel
theorem dX9_init_0 : decode cX9_init 0 = .ok (.aload_n 0, 1) := by decide +kernel
theorem dX9_init_1 : decode cX9_init 1 = .ok (.invokespecial 1, 3) := by decide +kernel
theorem dX9_init_4 : decode cX9_init 4 = .ok (.aload_n 0, 1) := by decide +kernel
theorem dX9_init_5 : decode cX9_init 5 = .ok (.new 7, 3) := by decide +kernel
theorem dX9_init_8 : decode cX9_init 8 = .ok (.dup, 1) := by decide +kernel
theorem dX9_init_9 : decode cX9_init 9 = .ok (.invokespecial 9, 3) := by decide +kernel
theorem dX9_init_12 : decode cX9_init 12 = .ok (.putfield 10, 3) := by decide +kernel
theorem dX9_init_15 : decode cX9_init 15 = .ok (.aload_n 0, 1) := by decide +kernel
theorem dX9_init_16 : decode cX9_init 16 = .ok (.new 16, 3) := by decide +kernel
theorem dX9_init_19 : decode cX9_init 19 = .ok (.dup, 1) := by decide +kernel
theorem dX9_init_20 : decode cX9_init 20 = .ok (.aload_n 0, 1) := by decide +kernel
theorem dX9_init_21 : decode cX9_init 21 = .ok (.getfield 10, 3) := by decide +kernel
theorem dX9_init_24 : decode cX9_init 24 = .ok (.invokespecial 18, 3) := by decide +kernel
theorem dX9_init_27 : decode cX9_init 27 = .ok (.putfield 21, 3) := by decide +kernel
theorem dX9_init_30 : decode cX9_init 30 = .ok (.aload_n 0, 1) := by decide +kernel
theorem dX9_init_31 : decode cX9_init 31 = .ok (.new 25, 3) := by decide +kernel
theorem dX9_init_34 : decode cX9_init 34 = .ok (.dup, 1) := by decide +kernel
theorem dX9_init_35 : decode cX9_init 35 = .ok (.aload_n 0, 1) := by decide +kernel
theorem dX9_init_36 : decode cX9_init 36 = .ok (.getfield 10, 3) := by decide +kernel
theorem dX9_init_39 : decode cX9_init 39 = .ok (.invokespecial 27, 3) := by decide +kernel
theorem dX9_init_42 : decode cX9_init 42 = .ok (.putfield 28, 3) := by decide +kernel
theorem dX9_init_45 : decode cX9_init 45 = .ok (.aload_n 0, 1) := by decide +kernel
theorem dX9_init_46 : decode cX9_init 46 = .ok (.new 32, 3) := by decide +kernel
theorem dX9_init_49 : decode cX9_init 49 = .ok (.dup, 1) := by decide +kernel
theorem dX9_init_50 : decode cX9_init 50 = .ok (.invokespecial 34, 3) := by decide +kernel
theorem dX9_init_53 : decode cX9_init 53 = .ok (.putfield 35, 3) := by decide +kernel
theorem dX9_init_56 : decode cX9_init 56 = .ok (.aload_n 0, 1) := by decide +kernel
theorem dX9_init_57 : decode cX9_init 57 = .ok (.new 39, 3) := by decide +kernel
theorem dX9_init_60 : decode cX9_init 60 = .ok (.dup, 1) := by decide +kernel
theorem dX9_init_61 : decode cX9_init 61 = .ok (.aload_n 0, 1) := by decide +kernel
theorem dX9_init_62 : decode cX9_init 62 = .ok (.getfield 35, 3) := by decide +kernel
theorem dX9_init_65 : decode cX9_init 65 = .ok (.invokespecial 41, 3) := by decide +kernel
theorem dX9_init_68 : decode cX9_init 68 = .ok (.putfield 44, 3) := by decide +kernel
theorem dX9_init_71 : decode cX9_init 71 = .ok (.aload_n 0, 1) := by decide +kernel
theorem dX9_init_72 : decode cX9_init 72 = .ok (.new 48, 3) := by decide +kernel
theorem dX9_init_75 : decode cX9_init 75 = .ok (.dup, 1) := by decide +kernel
theorem dX9_init_76 : decode cX9_init 76 = .ok (.invokespecial 50, 3) := by decide +kernel
theorem dX9_init_79 : decode cX9_init 79 = .ok (.putfield 51, 3) := by decide +kernel
theorem dX9_init_82 : decode cX9_init 82 = .ok (.aload_n 0, 1) := by decide +kernel
theorem dX9_init_83 : decode cX9_init 83 = .ok (.new 55, 3) := by decide +kernel
theorem dX9_init_86 : decode cX9_init 86 = .ok (.dup, 1) := by decide +kernel
theorem dX9_init_87 : decode cX9_init 87 = .ok (.aload_n 0, 1) := by decide +kernel
theorem dX9_init_88 : decode cX9_init 88 = .ok (.getfield 10, 3) := by decide +kernel
theorem dX9_init_91 : decode cX9_init 91 = .ok (.invokespecial 57, 3) := by decide +kernel
theorem dX9_init_94 : decode cX9_init 94 = .ok (.putfield 58, 3) := by decide +kernel
theorem dX9_init_97 : decode cX9_init 97 = .ok (.aload_n 0, 1) := by decide +kernel
theorem dX9_init_98 : decode cX9_init 98 = .ok (.new 62, 3) := by decide +kernel
theorem dX9_init_101 : decode cX9_init 101 = .ok (.dup, 1) := by decide +kernel
theorem dX9_init_102 : decode cX9_init 102 = .ok (.aload_n 0, 1) := by decide +kernel
theorem dX9_init_103 : decode cX9_init 103 = .ok (.getfield 10, 3) := by decide +kernel
theorem dX9_init_106 : decode cX9_init 106 = .ok (.invokespecial 64, 3) := by decide +kernel
theorem dX9_init_109 : decode cX9_init 109 = .ok (.putfield 65, 3) := by decide +kernel
theorem dX9_init_112 : decode cX9_init 112 = .ok (.aload_n 0, 1) := by decide +kernel
theorem dX9_init_113 : decode cX9_init 113 = .ok (.new 69, 3) := by decide +kernel
theorem dX9_init_116 : decode cX9_init 116 = .ok (.dup, 1) := by decide +kernel
theorem dX9_init_117 : decode cX9_init 117 = .ok (.aload_n 0, 1) := by decide +kernel
theorem dX9_init_118 : decode cX9_init 118 = .ok (.getfield 10, 3) := by decide +kernel
theorem dX9_init_121 : decode cX9_init 121 = .ok (.invokespecial 71, 3) := by decide +kernel
theorem dX9_init_124 : decode cX9_init 124 = .ok (.putfield 72, 3) := by decide +kernel
theorem dX9_init_127 : decode cX9_init 127 = .ok (.return_, 1) := by decide +kernel
theorem dX9_write_0 : decode cX9_write 0 = .ok (.iload_n 3, 1) := by decide +kernel
theorem dX9_write_1 : decode cX9_write 1 = .ok (.iconst 1, 1) := by decide +kernel
theorem dX9_write_2 : decode cX9_write 2 = .ok (.if_icmp .lt 9, 3) := by decide +kernel
theorem dX9_write_5 : decode cX9_write 5 = .ok (.iload_n 3, 1) := by decide +kernel
theorem dX9_write_6 : decode cX9_write 6 = .ok (.bipush 8, 2) := by decide +kernel
theorem dX9_write_8 : decode cX9_write 8 = .ok (.if_icmp .le 6, 3) := by decide +kernel
theorem dX9_write_11 : decode cX9_write 11 = .ok (.bipush (-3), 2) := by decide +kernel
theorem dX9_write_13 : decode cX9_write 13 = .ok (.ireturn, 1) := by decide +kernel
theorem dX9_write_14 : decode cX9_write 14 = .ok (.aload_n 0, 1) := by decide +kernel
theorem dX9_write_15 : decode cX9_write 15 = .ok (.getfield 35, 3) := by decide +kernel
theorem dX9_write_18 : decode cX9_write 18 = .ok (.lload_n 1, 1) := by decide +kernel
theorem dX9_write_19 : decode cX9_write 19 = .ok (.iload_n 3, 1) := by decide +kernel
theorem dX9_write_20 : decode cX9_write 20 = .ok (.invokevirtual 76, 3) := by decide +kernel
theorem dX9_write_23 : decode cX9_write 23 = .ok (.ireturn, 1) := by decide +kernel
theorem dX9_erase_0 : decode cX9_erase 0 = .ok (.aload_n 0, 1) := by decide +kernel
theorem dX9_erase_1 : decode cX9_erase 1 = .ok (.getfield 35, 3) := by decide +kernel
theorem dX9_erase_4 : decode cX9_erase 4 = .ok (.invokevirtual 80, 3) := by decide +kernel
theorem dX9_erase_7 : decode cX9_erase 7 = .ok (.ireturn, 1) := by decide +kernel
theorem dX9_fault_0 : decode cX9_fault 0 = .ok (.aload_n 0, 1) := by decide +kernel
theorem dX9_fault_1 : decode cX9_fault 1 = .ok (.getfield 44, 3) := by decide +kernel
theorem dX9_fault_4 : decode cX9_fault 4 = .ok (.aload_n 0, 1) := by decide +kernel
theorem dX9_fault_5 : decode cX9_fault 5 = .ok (.getfield 10, 3) := by decide +kernel
theorem dX9_fault_8 : decode cX9_fault 8 = .ok (.getfield 84, 3) := by decide +kernel
theorem dX9_fault_11 : decode cX9_fault 11 = .ok (.aload_n 0, 1) := by decide +kernel
theorem dX9_fault_12 : decode cX9_fault 12 = .ok (.getfield 10, 3) := by decide +kernel
theorem dX9_fault_15 : decode cX9_fault 15 = .ok (.getfield 88, 3) := by decide +kernel
theorem dX9_fault_18 : decode cX9_fault 18 = .ok (.aload_n 0, 1) := by decide +kernel
theorem dX9_fault_19 : decode cX9_fault 19 = .ok (.getfield 21, 3) := by decide +kernel
theorem dX9_fault_22 : decode cX9_fault 22 = .ok (.getfield 91, 3) := by decide +kernel
theorem dX9_fault_25 : decode cX9_fault 25 = .ok (.aload_n 0, 1) := by decide +kernel
theorem dX9_fault_26 : decode cX9_fault 26 = .ok (.getfield 28, 3) := by decide +kernel
theorem dX9_fault_29 : decode cX9_fault 29 = .ok (.getfield 92, 3) := by decide +kernel
theorem dX9_fault_32 : decode cX9_fault 32 = .ok (.invokevirtual 93, 3) := by decide +kernel
theorem dX9_fault_35 : decode cX9_fault 35 = .ok (.ireturn, 1) := by decide +kernel
theorem dX9_street_0 : decode cX9_street 0 = .ok (.aload_n 0, 1) := by decide +kernel
theorem dX9_street_1 : decode cX9_street 1 = .ok (.getfield 44, 3) := by decide +kernel
theorem dX9_street_4 : decode cX9_street 4 = .ok (.aload_n 0, 1) := by decide +kernel
theorem dX9_street_5 : decode cX9_street 5 = .ok (.getfield 10, 3) := by decide +kernel
theorem dX9_street_8 : decode cX9_street 8 = .ok (.getfield 84, 3) := by decide +kernel
theorem dX9_street_11 : decode cX9_street 11 = .ok (.aload_n 0, 1) := by decide +kernel
theorem dX9_street_12 : decode cX9_street 12 = .ok (.getfield 10, 3) := by decide +kernel
theorem dX9_street_15 : decode cX9_street 15 = .ok (.getfield 88, 3) := by decide +kernel
theorem dX9_street_18 : decode cX9_street 18 = .ok (.aload_n 0, 1) := by decide +kernel
theorem dX9_street_19 : decode cX9_street 19 = .ok (.getfield 21, 3) := by decide +kernel
theorem dX9_street_22 : decode cX9_street 22 = .ok (.getfield 91, 3) := by decide +kernel
theorem dX9_street_25 : decode cX9_street 25 = .ok (.aload_n 0, 1) := by decide +kernel
theorem dX9_street_26 : decode cX9_street 26 = .ok (.getfield 28, 3) := by decide +kernel
theorem dX9_street_29 : decode cX9_street 29 = .ok (.getfield 92, 3) := by decide +kernel
theorem dX9_street_32 : decode cX9_street 32 = .ok (.invokevirtual 93, 3) := by decide +kernel
theorem dX9_street_35 : decode cX9_street 35 = .ok (.iconst (-1), 1) := by decide +kernel
theorem dX9_street_36 : decode cX9_street 36 = .ok (.if_icmp .eq 6, 3) := by decide +kernel
theorem dX9_street_39 : decode cX9_street 39 = .ok (.bipush (-4), 2) := by decide +kernel
theorem dX9_street_41 : decode cX9_street 41 = .ok (.ireturn, 1) := by decide +kernel
theorem dX9_street_42 : decode cX9_street 42 = .ok (.iconst 0, 1) := by decide +kernel
theorem dX9_street_43 : decode cX9_street 43 = .ok (.istore_n 1, 1) := by decide +kernel
theorem dX9_street_44 : decode cX9_street 44 = .ok (.iload_n 1, 1) := by decide +kernel
theorem dX9_street_45 : decode cX9_street 45 = .ok (.aload_n 0, 1) := by decide +kernel
theorem dX9_street_46 : decode cX9_street 46 = .ok (.getfield 44, 3) := by decide +kernel
theorem dX9_street_49 : decode cX9_street 49 = .ok (.getfield 97, 3) := by decide +kernel
theorem dX9_street_52 : decode cX9_street 52 = .ok (.if_icmp .ge 14, 3) := by decide +kernel
theorem dX9_street_55 : decode cX9_street 55 = .ok (.aload_n 0, 1) := by decide +kernel
theorem dX9_street_56 : decode cX9_street 56 = .ok (.iload_n 1, 1) := by decide +kernel
theorem dX9_street_57 : decode cX9_street 57 = .ok (.invokevirtual 100, 3) := by decide +kernel
theorem dX9_street_60 : decode cX9_street 60 = .ok (.iinc 1 1, 3) := by decide +kernel
theorem dX9_street_63 : decode cX9_street 63 = .ok (.goto (-19), 3) := by decide +kernel
theorem dX9_street_66 : decode cX9_street 66 = .ok (.aload_n 0, 1) := by decide +kernel
theorem dX9_street_67 : decode cX9_street 67 = .ok (.getfield 10, 3) := by decide +kernel
theorem dX9_street_70 : decode cX9_street 70 = .ok (.invokevirtual 104, 3) := by decide +kernel
theorem dX9_street_73 : decode cX9_street 73 = .ok (.aload_n 0, 1) := by decide +kernel
theorem dX9_street_74 : decode cX9_street 74 = .ok (.getfield 21, 3) := by decide +kernel
theorem dX9_street_77 : decode cX9_street 77 = .ok (.invokevirtual 107, 3) := by decide +kernel
theorem dX9_street_80 : decode cX9_street 80 = .ok (.aload_n 0, 1) := by decide +kernel
theorem dX9_street_81 : decode cX9_street 81 = .ok (.getfield 35, 3) := by decide +kernel
theorem dX9_street_84 : decode cX9_street 84 = .ok (.invokevirtual 80, 3) := by decide +kernel
theorem dX9_street_87 : decode cX9_street 87 = .ok (.pop, 1) := by decide +kernel
theorem dX9_street_88 : decode cX9_street 88 = .ok (.aload_n 0, 1) := by decide +kernel
theorem dX9_street_89 : decode cX9_street 89 = .ok (.getfield 51, 3) := by decide +kernel
theorem dX9_street_92 : decode cX9_street 92 = .ok (.invokevirtual 108, 3) := by decide +kernel
theorem dX9_street_95 : decode cX9_street 95 = .ok (.aload_n 0, 1) := by decide +kernel
theorem dX9_street_96 : decode cX9_street 96 = .ok (.getfield 58, 3) := by decide +kernel
theorem dX9_street_99 : decode cX9_street 99 = .ok (.invokevirtual 111, 3) := by decide +kernel
theorem dX9_street_102 : decode cX9_street 102 = .ok (.pop, 1) := by decide +kernel
theorem dX9_street_103 : decode cX9_street 103 = .ok (.aload_n 0, 1) := by decide +kernel
theorem dX9_street_104 : decode cX9_street 104 = .ok (.getfield 65, 3) := by decide +kernel
theorem dX9_street_107 : decode cX9_street 107 = .ok (.invokevirtual 112, 3) := by decide +kernel
theorem dX9_street_110 : decode cX9_street 110 = .ok (.pop, 1) := by decide +kernel
theorem dX9_street_111 : decode cX9_street 111 = .ok (.aload_n 0, 1) := by decide +kernel
theorem dX9_street_112 : decode cX9_street 112 = .ok (.getfield 72, 3) := by decide +kernel
theorem dX9_street_115 : decode cX9_street 115 = .ok (.invokevirtual 113, 3) := by decide +kernel
theorem dX9_street_118 : decode cX9_street 118 = .ok (.pop, 1) := by decide +kernel
theorem dX9_street_119 : decode cX9_street 119 = .ok (.aload_n 0, 1) := by decide +kernel
theorem dX9_street_120 : decode cX9_street 120 = .ok (.getfield 44, 3) := by decide +kernel
theorem dX9_street_123 : decode cX9_street 123 = .ok (.getfield 97, 3) := by decide +kernel
theorem dX9_street_126 : decode cX9_street 126 = .ok (.ireturn, 1) := by decide +kernel
theorem dX9_off_0 : decode cX9_off 0 = .ok (.aload_n 0, 1) := by decide +kernel
theorem dX9_off_1 : decode cX9_off 1 = .ok (.getfield 10, 3) := by decide +kernel
theorem dX9_off_4 : decode cX9_off 4 = .ok (.iload_n 1, 1) := by decide +kernel
theorem dX9_off_5 : decode cX9_off 5 = .ok (.invokevirtual 114, 3) := by decide +kernel
theorem dX9_off_8 : decode cX9_off 8 = .ok (.ifCond .eq 15, 3) := by decide +kernel
theorem dX9_off_11 : decode cX9_off 11 = .ok (.aload_n 0, 1) := by decide +kernel
theorem dX9_off_12 : decode cX9_off 12 = .ok (.getfield 10, 3) := by decide +kernel
theorem dX9_off_15 : decode cX9_off 15 = .ok (.getfield 118, 3) := by decide +kernel
theorem dX9_off_18 : decode cX9_off 18 = .ok (.iload_n 1, 1) := by decide +kernel
theorem dX9_off_19 : decode cX9_off 19 = .ok (.iaload, 1) := by decide +kernel
theorem dX9_off_20 : decode cX9_off 20 = .ok (.goto 5, 3) := by decide +kernel
theorem dX9_off_23 : decode cX9_off 23 = .ok (.bipush (-2), 2) := by decide +kernel
theorem dX9_off_25 : decode cX9_off 25 = .ok (.ireturn, 1) := by decide +kernel
theorem dX9_far_0 : decode cX9_far 0 = .ok (.aload_n 0, 1) := by decide +kernel
theorem dX9_far_1 : decode cX9_far 1 = .ok (.getfield 10, 3) := by decide +kernel
theorem dX9_far_4 : decode cX9_far 4 = .ok (.iload_n 1, 1) := by decide +kernel
theorem dX9_far_5 : decode cX9_far 5 = .ok (.invokevirtual 114, 3) := by decide +kernel
theorem dX9_far_8 : decode cX9_far 8 = .ok (.ifCond .eq 26, 3) := by decide +kernel
theorem dX9_far_11 : decode cX9_far 11 = .ok (.aload_n 0, 1) := by decide +kernel
theorem dX9_far_12 : decode cX9_far 12 = .ok (.getfield 10, 3) := by decide +kernel
theorem dX9_far_15 : decode cX9_far 15 = .ok (.iload_n 2, 1) := by decide +kernel
theorem dX9_far_16 : decode cX9_far 16 = .ok (.invokevirtual 114, 3) := by decide +kernel
theorem dX9_far_19 : decode cX9_far 19 = .ok (.ifCond .eq 15, 3) := by decide +kernel
theorem dX9_far_22 : decode cX9_far 22 = .ok (.aload_n 0, 1) := by decide +kernel
theorem dX9_far_23 : decode cX9_far 23 = .ok (.getfield 10, 3) := by decide +kernel
theorem dX9_far_26 : decode cX9_far 26 = .ok (.iload_n 1, 1) := by decide +kernel
theorem dX9_far_27 : decode cX9_far 27 = .ok (.iload_n 2, 1) := by decide +kernel
theorem dX9_far_28 : decode cX9_far 28 = .ok (.invokevirtual 122, 3) := by decide +kernel
theorem dX9_far_31 : decode cX9_far 31 = .ok (.goto 5, 3) := by decide +kernel
theorem dX9_far_34 : decode cX9_far 34 = .ok (.bipush (-2), 2) := by decide +kernel
theorem dX9_far_36 : decode cX9_far 36 = .ok (.ireturn, 1) := by decide +kernel
theorem dX9_shows_0 : decode cX9_shows 0 = .ok (.aload_n 0, 1) := by decide +kernel
theorem dX9_shows_1 : decode cX9_shows 1 = .ok (.getfield 10, 3) := by decide +kernel
theorem dX9_shows_4 : decode cX9_shows 4 = .ok (.iload_n 1, 1) := by decide +kernel
theorem dX9_shows_5 : decode cX9_shows 5 = .ok (.invokevirtual 114, 3) := by decide +kernel
theorem dX9_shows_8 : decode cX9_shows 8 = .ok (.ifCond .ne 6, 3) := by decide +kernel
theorem dX9_shows_11 : decode cX9_shows 11 = .ok (.bipush (-2), 2) := by decide +kernel
theorem dX9_shows_13 : decode cX9_shows 13 = .ok (.ireturn, 1) := by decide +kernel
theorem dX9_shows_14 : decode cX9_shows 14 = .ok (.iload_n 2, 1) := by decide +kernel
theorem dX9_shows_15 : decode cX9_shows 15 = .ok (.ifCond .lt 18, 3) := by decide +kernel
theorem dX9_shows_18 : decode cX9_shows 18 = .ok (.iload_n 2, 1) := by decide +kernel
theorem dX9_shows_19 : decode cX9_shows 19 = .ok (.ldc 126, 2) := by decide +kernel
theorem dX9_shows_21 : decode cX9_shows 21 = .ok (.if_icmp .gt 12, 3) := by decide +kernel
theorem dX9_shows_24 : decode cX9_shows 24 = .ok (.iload_n 3, 1) := by decide +kernel
theorem dX9_shows_25 : decode cX9_shows 25 = .ok (.ifCond .lt 8, 3) := by decide +kernel
theorem dX9_shows_28 : decode cX9_shows 28 = .ok (.iload_n 3, 1) := by decide +kernel
theorem dX9_shows_29 : decode cX9_shows 29 = .ok (.iconst 1, 1) := by decide +kernel
theorem dX9_shows_30 : decode cX9_shows 30 = .ok (.if_icmp .le 6, 3) := by decide +kernel
theorem dX9_shows_33 : decode cX9_shows 33 = .ok (.bipush (-3), 2) := by decide +kernel
theorem dX9_shows_35 : decode cX9_shows 35 = .ok (.ireturn, 1) := by decide +kernel
theorem dX9_shows_36 : decode cX9_shows 36 = .ok (.iload_n 3, 1) := by decide +kernel
theorem dX9_shows_37 : decode cX9_shows 37 = .ok (.ifCond .ne 15, 3) := by decide +kernel
theorem dX9_shows_40 : decode cX9_shows 40 = .ok (.aload_n 0, 1) := by decide +kernel
theorem dX9_shows_41 : decode cX9_shows 41 = .ok (.getfield 10, 3) := by decide +kernel
theorem dX9_shows_44 : decode cX9_shows 44 = .ok (.iload_n 1, 1) := by decide +kernel
theorem dX9_shows_45 : decode cX9_shows 45 = .ok (.iload_n 2, 1) := by decide +kernel
theorem dX9_shows_46 : decode cX9_shows 46 = .ok (.invokevirtual 127, 3) := by decide +kernel
theorem dX9_shows_49 : decode cX9_shows 49 = .ok (.goto 15, 3) := by decide +kernel
theorem dX9_shows_52 : decode cX9_shows 52 = .ok (.aload_n 0, 1) := by decide +kernel
theorem dX9_shows_53 : decode cX9_shows 53 = .ok (.getfield 10, 3) := by decide +kernel
theorem dX9_shows_56 : decode cX9_shows 56 = .ok (.iload_n 1, 1) := by decide +kernel
theorem dX9_shows_57 : decode cX9_shows 57 = .ok (.iload_n 2, 1) := by decide +kernel
theorem dX9_shows_58 : decode cX9_shows 58 = .ok (.invokevirtual 130, 3) := by decide +kernel
theorem dX9_shows_61 : decode cX9_shows 61 = .ok (.bipush 100, 2) := by decide +kernel
theorem dX9_shows_63 : decode cX9_shows 63 = .ok (.iadd, 1) := by decide +kernel
theorem dX9_shows_64 : decode cX9_shows 64 = .ok (.ireturn, 1) := by decide +kernel
theorem dX9_byClocks_0 : decode cX9_byClocks 0 = .ok (.aload_n 0, 1) := by decide +kernel
theorem dX9_byClocks_1 : decode cX9_byClocks 1 = .ok (.getfield 10, 3) := by decide +kernel
theorem dX9_byClocks_4 : decode cX9_byClocks 4 = .ok (.iload_n 1, 1) := by decide +kernel
theorem dX9_byClocks_5 : decode cX9_byClocks 5 = .ok (.invokevirtual 114, 3) := by decide +kernel
theorem dX9_byClocks_8 : decode cX9_byClocks 8 = .ok (.ifCond .eq 29, 3) := by decide +kernel
theorem dX9_byClocks_11 : decode cX9_byClocks 11 = .ok (.aload_n 0, 1) := by decide +kernel
theorem dX9_byClocks_12 : decode cX9_byClocks 12 = .ok (.getfield 10, 3) := by decide +kernel
theorem dX9_byClocks_15 : decode cX9_byClocks 15 = .ok (.iload_n 2, 1) := by decide +kernel
theorem dX9_byClocks_16 : decode cX9_byClocks 16 = .ok (.invokevirtual 114, 3) := by decide +kernel
theorem dX9_byClocks_19 : decode cX9_byClocks 19 = .ok (.ifCond .eq 18, 3) := by decide +kernel
theorem dX9_byClocks_22 : decode cX9_byClocks 22 = .ok (.aload_n 0, 1) := by decide +kernel
theorem dX9_byClocks_23 : decode cX9_byClocks 23 = .ok (.getfield 10, 3) := by decide +kernel
theorem dX9_byClocks_26 : decode cX9_byClocks 26 = .ok (.iload_n 1, 1) := by decide +kernel
theorem dX9_byClocks_27 : decode cX9_byClocks 27 = .ok (.iload_n 2, 1) := by decide +kernel
theorem dX9_byClocks_28 : decode cX9_byClocks 28 = .ok (.invokevirtual 133, 3) := by decide +kernel
theorem dX9_byClocks_31 : decode cX9_byClocks 31 = .ok (.ldc 136, 2) := by decide +kernel
theorem dX9_byClocks_33 : decode cX9_byClocks 33 = .ok (.iadd, 1) := by decide +kernel
theorem dX9_byClocks_34 : decode cX9_byClocks 34 = .ok (.goto 5, 3) := by decide +kernel
theorem dX9_byClocks_37 : decode cX9_byClocks 37 = .ok (.bipush (-2), 2) := by decide +kernel
theorem dX9_byClocks_39 : decode cX9_byClocks 39 = .ok (.ireturn, 1) := by decide +kernel
theorem dX9_gaining_0 : decode cX9_gaining 0 = .ok (.iload_n 1, 1) := by decide +kernel
theorem dX9_gaining_1 : decode cX9_gaining 1 = .ok (.ifCond .lt 8, 3) := by decide +kernel
theorem dX9_gaining_4 : decode cX9_gaining 4 = .ok (.iload_n 1, 1) := by decide +kernel
theorem dX9_gaining_5 : decode cX9_gaining 5 = .ok (.iconst 1, 1) := by decide +kernel
theorem dX9_gaining_6 : decode cX9_gaining 6 = .ok (.if_icmp .le 6, 3) := by decide +kernel
theorem dX9_gaining_9 : decode cX9_gaining 9 = .ok (.bipush (-3), 2) := by decide +kernel
theorem dX9_gaining_11 : decode cX9_gaining 11 = .ok (.ireturn, 1) := by decide +kernel
theorem dX9_gaining_12 : decode cX9_gaining 12 = .ok (.iload_n 1, 1) := by decide +kernel
theorem dX9_gaining_13 : decode cX9_gaining 13 = .ok (.ifCond .ne 13, 3) := by decide +kernel
theorem dX9_gaining_16 : decode cX9_gaining 16 = .ok (.aload_n 0, 1) := by decide +kernel
theorem dX9_gaining_17 : decode cX9_gaining 17 = .ok (.getfield 10, 3) := by decide +kernel
theorem dX9_gaining_20 : decode cX9_gaining 20 = .ok (.invokevirtual 137, 3) := by decide +kernel
theorem dX9_gaining_23 : decode cX9_gaining 23 = .ok (.goto 10, 3) := by decide +kernel
theorem dX9_gaining_26 : decode cX9_gaining 26 = .ok (.aload_n 0, 1) := by decide +kernel
theorem dX9_gaining_27 : decode cX9_gaining 27 = .ok (.getfield 10, 3) := by decide +kernel
theorem dX9_gaining_30 : decode cX9_gaining 30 = .ok (.invokevirtual 140, 3) := by decide +kernel
theorem dX9_gaining_33 : decode cX9_gaining 33 = .ok (.ireturn, 1) := by decide +kernel
theorem dX9_deed_0 : decode cX9_deed 0 = .ok (.aload_n 0, 1) := by decide +kernel
theorem dX9_deed_1 : decode cX9_deed 1 = .ok (.getfield 21, 3) := by decide +kernel
theorem dX9_deed_4 : decode cX9_deed 4 = .ok (.iload_n 1, 1) := by decide +kernel
theorem dX9_deed_5 : decode cX9_deed 5 = .ok (.invokevirtual 143, 3) := by decide +kernel
theorem dX9_deed_8 : decode cX9_deed 8 = .ok (.ifCond .ne 6, 3) := by decide +kernel
theorem dX9_deed_11 : decode cX9_deed 11 = .ok (.bipush (-2), 2) := by decide +kernel
theorem dX9_deed_13 : decode cX9_deed 13 = .ok (.ireturn, 1) := by decide +kernel
theorem dX9_deed_14 : decode cX9_deed 14 = .ok (.iload_n 2, 1) := by decide +kernel
theorem dX9_deed_15 : decode cX9_deed 15 = .ok (.tableswitch 68 0 3 #[29, 39, 49, 59], 29) := by decide +kernel
theorem dX9_deed_44 : decode cX9_deed 44 = .ok (.aload_n 0, 1) := by decide +kernel
theorem dX9_deed_45 : decode cX9_deed 45 = .ok (.getfield 21, 3) := by decide +kernel
theorem dX9_deed_48 : decode cX9_deed 48 = .ok (.getfield 144, 3) := by decide +kernel
theorem dX9_deed_51 : decode cX9_deed 51 = .ok (.iload_n 1, 1) := by decide +kernel
theorem dX9_deed_52 : decode cX9_deed 52 = .ok (.iaload, 1) := by decide +kernel
theorem dX9_deed_53 : decode cX9_deed 53 = .ok (.ireturn, 1) := by decide +kernel
theorem dX9_deed_54 : decode cX9_deed 54 = .ok (.aload_n 0, 1) := by decide +kernel
theorem dX9_deed_55 : decode cX9_deed 55 = .ok (.getfield 21, 3) := by decide +kernel
theorem dX9_deed_58 : decode cX9_deed 58 = .ok (.getfield 147, 3) := by decide +kernel
theorem dX9_deed_61 : decode cX9_deed 61 = .ok (.iload_n 1, 1) := by decide +kernel
theorem dX9_deed_62 : decode cX9_deed 62 = .ok (.iaload, 1) := by decide +kernel
theorem dX9_deed_63 : decode cX9_deed 63 = .ok (.ireturn, 1) := by decide +kernel
theorem dX9_deed_64 : decode cX9_deed 64 = .ok (.aload_n 0, 1) := by decide +kernel
theorem dX9_deed_65 : decode cX9_deed 65 = .ok (.getfield 21, 3) := by decide +kernel
theorem dX9_deed_68 : decode cX9_deed 68 = .ok (.getfield 150, 3) := by decide +kernel
theorem dX9_deed_71 : decode cX9_deed 71 = .ok (.iload_n 1, 1) := by decide +kernel
theorem dX9_deed_72 : decode cX9_deed 72 = .ok (.iaload, 1) := by decide +kernel
theorem dX9_deed_73 : decode cX9_deed 73 = .ok (.ireturn, 1) := by decide +kernel
theorem dX9_deed_74 : decode cX9_deed 74 = .ok (.aload_n 0, 1) := by decide +kernel
theorem dX9_deed_75 : decode cX9_deed 75 = .ok (.getfield 21, 3) := by decide +kernel
theorem dX9_deed_78 : decode cX9_deed 78 = .ok (.iload_n 1, 1) := by decide +kernel
theorem dX9_deed_79 : decode cX9_deed 79 = .ok (.invokevirtual 153, 3) := by decide +kernel
theorem dX9_deed_82 : decode cX9_deed 82 = .ok (.ireturn, 1) := by decide +kernel
theorem dX9_deed_83 : decode cX9_deed 83 = .ok (.bipush (-3), 2) := by decide +kernel
theorem dX9_deed_85 : decode cX9_deed 85 = .ok (.ireturn, 1) := by decide +kernel
theorem dX9_go_0 : decode cX9_go 0 = .ok (.aload_n 0, 1) := by decide +kernel
theorem dX9_go_1 : decode cX9_go 1 = .ok (.getfield 10, 3) := by decide +kernel
theorem dX9_go_4 : decode cX9_go 4 = .ok (.iload_n 1, 1) := by decide +kernel
theorem dX9_go_5 : decode cX9_go 5 = .ok (.invokevirtual 114, 3) := by decide +kernel
theorem dX9_go_8 : decode cX9_go 8 = .ok (.ifCond .ne 6, 3) := by decide +kernel
theorem dX9_go_11 : decode cX9_go 11 = .ok (.bipush (-2), 2) := by decide +kernel
theorem dX9_go_13 : decode cX9_go 13 = .ok (.ireturn, 1) := by decide +kernel
theorem dX9_go_14 : decode cX9_go 14 = .ok (.iload_n 1, 1) := by decide +kernel
theorem dX9_go_15 : decode cX9_go 15 = .ok (.aload_n 0, 1) := by decide +kernel
theorem dX9_go_16 : decode cX9_go 16 = .ok (.getfield 51, 3) := by decide +kernel
theorem dX9_go_19 : decode cX9_go 19 = .ok (.getfield 157, 3) := by decide +kernel
theorem dX9_go_22 : decode cX9_go 22 = .ok (.if_icmp .ne 6, 3) := by decide +kernel
theorem dX9_go_25 : decode cX9_go 25 = .ok (.bipush (-4), 2) := by decide +kernel
theorem dX9_go_27 : decode cX9_go 27 = .ok (.ireturn, 1) := by decide +kernel
theorem dX9_go_28 : decode cX9_go 28 = .ok (.aload_n 0, 1) := by decide +kernel
theorem dX9_go_29 : decode cX9_go 29 = .ok (.getfield 51, 3) := by decide +kernel
theorem dX9_go_32 : decode cX9_go 32 = .ok (.aload_n 0, 1) := by decide +kernel
theorem dX9_go_33 : decode cX9_go 33 = .ok (.getfield 10, 3) := by decide +kernel
theorem dX9_go_36 : decode cX9_go 36 = .ok (.aload_n 0, 1) := by decide +kernel
theorem dX9_go_37 : decode cX9_go 37 = .ok (.getfield 51, 3) := by decide +kernel
theorem dX9_go_40 : decode cX9_go 40 = .ok (.getfield 157, 3) := by decide +kernel
theorem dX9_go_43 : decode cX9_go 43 = .ok (.iload_n 1, 1) := by decide +kernel
theorem dX9_go_44 : decode cX9_go 44 = .ok (.invokevirtual 122, 3) := by decide +kernel
theorem dX9_go_47 : decode cX9_go 47 = .ok (.iload_n 1, 1) := by decide +kernel
theorem dX9_go_48 : decode cX9_go 48 = .ok (.invokevirtual 159, 3) := by decide +kernel
theorem dX9_go_51 : decode cX9_go 51 = .ok (.ireturn, 1) := by decide +kernel
theorem dX9_await_0 : decode cX9_await 0 = .ok (.iload_n 1, 1) := by decide +kernel
theorem dX9_await_1 : decode cX9_await 1 = .ok (.iconst 1, 1) := by decide +kernel
theorem dX9_await_2 : decode cX9_await 2 = .ok (.if_icmp .lt 10, 3) := by decide +kernel
theorem dX9_await_5 : decode cX9_await 5 = .ok (.iload_n 1, 1) := by decide +kernel
theorem dX9_await_6 : decode cX9_await 6 = .ok (.sipush 9999, 3) := by decide +kernel
theorem dX9_await_9 : decode cX9_await 9 = .ok (.if_icmp .le 6, 3) := by decide +kernel
theorem dX9_await_12 : decode cX9_await 12 = .ok (.bipush (-3), 2) := by decide +kernel
theorem dX9_await_14 : decode cX9_await 14 = .ok (.ireturn, 1) := by decide +kernel
theorem dX9_await_15 : decode cX9_await 15 = .ok (.aload_n 0, 1) := by decide +kernel
theorem dX9_await_16 : decode cX9_await 16 = .ok (.getfield 51, 3) := by decide +kernel
theorem dX9_await_19 : decode cX9_await 19 = .ok (.iload_n 1, 1) := by decide +kernel
theorem dX9_await_20 : decode cX9_await 20 = .ok (.aload_n 0, 1) := by decide +kernel
theorem dX9_await_21 : decode cX9_await 21 = .ok (.getfield 51, 3) := by decide +kernel
theorem dX9_await_24 : decode cX9_await 24 = .ok (.getfield 157, 3) := by decide +kernel
theorem dX9_await_27 : decode cX9_await 27 = .ok (.invokevirtual 159, 3) := by decide +kernel
theorem dX9_await_30 : decode cX9_await 30 = .ok (.ireturn, 1) := by decide +kernel
theorem dX9_here_0 : decode cX9_here 0 = .ok (.iload_n 1, 1) := by decide +kernel
theorem dX9_here_1 : decode cX9_here 1 = .ok (.tableswitch 94 0 3 #[31, 39, 47, 69], 31) := by decide +kernel
theorem dX9_here_32 : decode cX9_here 32 = .ok (.aload_n 0, 1) := by decide +kernel
theorem dX9_here_33 : decode cX9_here 33 = .ok (.getfield 51, 3) := by decide +kernel
theorem dX9_here_36 : decode cX9_here 36 = .ok (.getfield 157, 3) := by decide +kernel
theorem dX9_here_39 : decode cX9_here 39 = .ok (.ireturn, 1) := by decide +kernel
theorem dX9_here_40 : decode cX9_here 40 = .ok (.aload_n 0, 1) := by decide +kernel
theorem dX9_here_41 : decode cX9_here 41 = .ok (.getfield 51, 3) := by decide +kernel
theorem dX9_here_44 : decode cX9_here 44 = .ok (.getfield 162, 3) := by decide +kernel
theorem dX9_here_47 : decode cX9_here 47 = .ok (.ireturn, 1) := by decide +kernel
theorem dX9_here_48 : decode cX9_here 48 = .ok (.aload_n 0, 1) := by decide +kernel
theorem dX9_here_49 : decode cX9_here 49 = .ok (.getfield 10, 3) := by decide +kernel
theorem dX9_here_52 : decode cX9_here 52 = .ok (.aload_n 0, 1) := by decide +kernel
theorem dX9_here_53 : decode cX9_here 53 = .ok (.getfield 51, 3) := by decide +kernel
theorem dX9_here_56 : decode cX9_here 56 = .ok (.getfield 157, 3) := by decide +kernel
theorem dX9_here_59 : decode cX9_here 59 = .ok (.aload_n 0, 1) := by decide +kernel
theorem dX9_here_60 : decode cX9_here 60 = .ok (.getfield 51, 3) := by decide +kernel
theorem dX9_here_63 : decode cX9_here 63 = .ok (.getfield 162, 3) := by decide +kernel
theorem dX9_here_66 : decode cX9_here 66 = .ok (.invokevirtual 127, 3) := by decide +kernel
theorem dX9_here_69 : decode cX9_here 69 = .ok (.ireturn, 1) := by decide +kernel
theorem dX9_here_70 : decode cX9_here 70 = .ok (.aload_n 0, 1) := by decide +kernel
theorem dX9_here_71 : decode cX9_here 71 = .ok (.getfield 10, 3) := by decide +kernel
theorem dX9_here_74 : decode cX9_here 74 = .ok (.aload_n 0, 1) := by decide +kernel
theorem dX9_here_75 : decode cX9_here 75 = .ok (.getfield 51, 3) := by decide +kernel
theorem dX9_here_78 : decode cX9_here 78 = .ok (.getfield 157, 3) := by decide +kernel
theorem dX9_here_81 : decode cX9_here 81 = .ok (.aload_n 0, 1) := by decide +kernel
theorem dX9_here_82 : decode cX9_here 82 = .ok (.getfield 51, 3) := by decide +kernel
theorem dX9_here_85 : decode cX9_here 85 = .ok (.getfield 162, 3) := by decide +kernel
theorem dX9_here_88 : decode cX9_here 88 = .ok (.invokevirtual 130, 3) := by decide +kernel
theorem dX9_here_91 : decode cX9_here 91 = .ok (.bipush 100, 2) := by decide +kernel
theorem dX9_here_93 : decode cX9_here 93 = .ok (.iadd, 1) := by decide +kernel
theorem dX9_here_94 : decode cX9_here 94 = .ok (.ireturn, 1) := by decide +kernel
theorem dX9_here_95 : decode cX9_here 95 = .ok (.bipush (-3), 2) := by decide +kernel
theorem dX9_here_97 : decode cX9_here 97 = .ok (.ireturn, 1) := by decide +kernel
theorem dX9_keep_0 : decode cX9_keep 0 = .ok (.iload_n 1, 1) := by decide +kernel
theorem dX9_keep_1 : decode cX9_keep 1 = .ok (.ifCond .lt 19, 3) := by decide +kernel
theorem dX9_keep_4 : decode cX9_keep 4 = .ok (.iload_n 1, 1) := by decide +kernel
theorem dX9_keep_5 : decode cX9_keep 5 = .ok (.iconst 2, 1) := by decide +kernel
theorem dX9_keep_6 : decode cX9_keep 6 = .ok (.if_icmp .ge 14, 3) := by decide +kernel
theorem dX9_keep_9 : decode cX9_keep 9 = .ok (.aload_n 0, 1) := by decide +kernel
theorem dX9_keep_10 : decode cX9_keep 10 = .ok (.getfield 51, 3) := by decide +kernel
theorem dX9_keep_13 : decode cX9_keep 13 = .ok (.iload_n 1, 1) := by decide +kernel
theorem dX9_keep_14 : decode cX9_keep 14 = .ok (.invokevirtual 165, 3) := by decide +kernel
theorem dX9_keep_17 : decode cX9_keep 17 = .ok (.goto 5, 3) := by decide +kernel
theorem dX9_keep_20 : decode cX9_keep 20 = .ok (.bipush (-2), 2) := by decide +kernel
theorem dX9_keep_22 : decode cX9_keep 22 = .ok (.ireturn, 1) := by decide +kernel
theorem dX9_back_0 : decode cX9_back 0 = .ok (.iload_n 1, 1) := by decide +kernel
theorem dX9_back_1 : decode cX9_back 1 = .ok (.ifCond .lt 19, 3) := by decide +kernel
theorem dX9_back_4 : decode cX9_back 4 = .ok (.iload_n 1, 1) := by decide +kernel
theorem dX9_back_5 : decode cX9_back 5 = .ok (.iconst 2, 1) := by decide +kernel
theorem dX9_back_6 : decode cX9_back 6 = .ok (.if_icmp .ge 14, 3) := by decide +kernel
theorem dX9_back_9 : decode cX9_back 9 = .ok (.aload_n 0, 1) := by decide +kernel
theorem dX9_back_10 : decode cX9_back 10 = .ok (.getfield 51, 3) := by decide +kernel
theorem dX9_back_13 : decode cX9_back 13 = .ok (.iload_n 1, 1) := by decide +kernel
theorem dX9_back_14 : decode cX9_back 14 = .ok (.invokevirtual 168, 3) := by decide +kernel
theorem dX9_back_17 : decode cX9_back 17 = .ok (.goto 5, 3) := by decide +kernel
theorem dX9_back_20 : decode cX9_back 20 = .ok (.bipush (-2), 2) := by decide +kernel
theorem dX9_back_22 : decode cX9_back 22 = .ok (.ireturn, 1) := by decide +kernel
theorem dX9_order_0 : decode cX9_order 0 = .ok (.iload_n 1, 1) := by decide +kernel
theorem dX9_order_1 : decode cX9_order 1 = .ok (.ifCond .ge 6, 3) := by decide +kernel
theorem dX9_order_4 : decode cX9_order 4 = .ok (.bipush (-3), 2) := by decide +kernel
theorem dX9_order_6 : decode cX9_order 6 = .ok (.ireturn, 1) := by decide +kernel
theorem dX9_order_7 : decode cX9_order 7 = .ok (.iload_n 1, 1) := by decide +kernel
theorem dX9_order_8 : decode cX9_order 8 = .ok (.aload_n 0, 1) := by decide +kernel
theorem dX9_order_9 : decode cX9_order 9 = .ok (.getfield 21, 3) := by decide +kernel
theorem dX9_order_12 : decode cX9_order 12 = .ok (.getfield 91, 3) := by decide +kernel
theorem dX9_order_15 : decode cX9_order 15 = .ok (.if_icmp .ge 15, 3) := by decide +kernel
theorem dX9_order_18 : decode cX9_order 18 = .ok (.aload_n 0, 1) := by decide +kernel
theorem dX9_order_19 : decode cX9_order 19 = .ok (.getfield 21, 3) := by decide +kernel
theorem dX9_order_22 : decode cX9_order 22 = .ok (.getfield 171, 3) := by decide +kernel
theorem dX9_order_25 : decode cX9_order 25 = .ok (.iload_n 1, 1) := by decide +kernel
theorem dX9_order_26 : decode cX9_order 26 = .ok (.iaload, 1) := by decide +kernel
theorem dX9_order_27 : decode cX9_order 27 = .ok (.goto 4, 3) := by decide +kernel
theorem dX9_order_30 : decode cX9_order 30 = .ok (.iconst (-1), 1) := by decide +kernel
theorem dX9_order_31 : decode cX9_order 31 = .ok (.ireturn, 1) := by decide +kernel
theorem dX9_behind_0 : decode cX9_behind 0 = .ok (.aload_n 0, 1) := by decide +kernel
theorem dX9_behind_1 : decode cX9_behind 1 = .ok (.getfield 21, 3) := by decide +kernel
theorem dX9_behind_4 : decode cX9_behind 4 = .ok (.iload_n 1, 1) := by decide +kernel
theorem dX9_behind_5 : decode cX9_behind 5 = .ok (.invokevirtual 143, 3) := by decide +kernel
theorem dX9_behind_8 : decode cX9_behind 8 = .ok (.ifCond .eq 14, 3) := by decide +kernel
theorem dX9_behind_11 : decode cX9_behind 11 = .ok (.aload_n 0, 1) := by decide +kernel
theorem dX9_behind_12 : decode cX9_behind 12 = .ok (.getfield 21, 3) := by decide +kernel
theorem dX9_behind_15 : decode cX9_behind 15 = .ok (.iload_n 2, 1) := by decide +kernel
theorem dX9_behind_16 : decode cX9_behind 16 = .ok (.invokevirtual 143, 3) := by decide +kernel
theorem dX9_behind_19 : decode cX9_behind 19 = .ok (.ifCond .ne 6, 3) := by decide +kernel
theorem dX9_behind_22 : decode cX9_behind 22 = .ok (.bipush (-2), 2) := by decide +kernel
theorem dX9_behind_24 : decode cX9_behind 24 = .ok (.ireturn, 1) := by decide +kernel
theorem dX9_behind_25 : decode cX9_behind 25 = .ok (.aload_n 0, 1) := by decide +kernel
theorem dX9_behind_26 : decode cX9_behind 26 = .ok (.getfield 21, 3) := by decide +kernel
theorem dX9_behind_29 : decode cX9_behind 29 = .ok (.iload_n 1, 1) := by decide +kernel
theorem dX9_behind_30 : decode cX9_behind 30 = .ok (.iload_n 2, 1) := by decide +kernel
theorem dX9_behind_31 : decode cX9_behind 31 = .ok (.invokevirtual 174, 3) := by decide +kernel
theorem dX9_behind_34 : decode cX9_behind 34 = .ok (.ifCond .eq 18, 3) := by decide +kernel
theorem dX9_behind_37 : decode cX9_behind 37 = .ok (.aload_n 0, 1) := by decide +kernel
theorem dX9_behind_38 : decode cX9_behind 38 = .ok (.getfield 21, 3) := by decide +kernel
theorem dX9_behind_41 : decode cX9_behind 41 = .ok (.iload_n 1, 1) := by decide +kernel
theorem dX9_behind_42 : decode cX9_behind 42 = .ok (.iload_n 2, 1) := by decide +kernel
theorem dX9_behind_43 : decode cX9_behind 43 = .ok (.invokevirtual 178, 3) := by decide +kernel
theorem dX9_behind_46 : decode cX9_behind 46 = .ok (.ldc 136, 2) := by decide +kernel
theorem dX9_behind_48 : decode cX9_behind 48 = .ok (.iadd, 1) := by decide +kernel
theorem dX9_behind_49 : decode cX9_behind 49 = .ok (.goto 4, 3) := by decide +kernel
theorem dX9_behind_52 : decode cX9_behind 52 = .ok (.iconst (-1), 1) := by decide +kernel
theorem dX9_behind_53 : decode cX9_behind 53 = .ok (.ireturn, 1) := by decide +kernel
theorem dX9_most_0 : decode cX9_most 0 = .ok (.iload_n 1, 1) := by decide +kernel
theorem dX9_most_1 : decode cX9_most 1 = .ok (.iconst (-1), 1) := by decide +kernel
theorem dX9_most_2 : decode cX9_most 2 = .ok (.if_icmp .eq 17, 3) := by decide +kernel
theorem dX9_most_5 : decode cX9_most 5 = .ok (.aload_n 0, 1) := by decide +kernel
theorem dX9_most_6 : decode cX9_most 6 = .ok (.getfield 21, 3) := by decide +kernel
theorem dX9_most_9 : decode cX9_most 9 = .ok (.iload_n 1, 1) := by decide +kernel
theorem dX9_most_10 : decode cX9_most 10 = .ok (.invokevirtual 143, 3) := by decide +kernel
theorem dX9_most_13 : decode cX9_most 13 = .ok (.ifCond .ne 6, 3) := by decide +kernel
theorem dX9_most_16 : decode cX9_most 16 = .ok (.bipush (-2), 2) := by decide +kernel
theorem dX9_most_18 : decode cX9_most 18 = .ok (.ireturn, 1) := by decide +kernel
theorem dX9_most_19 : decode cX9_most 19 = .ok (.iload_n 2, 1) := by decide +kernel
theorem dX9_most_20 : decode cX9_most 20 = .ok (.iconst (-1), 1) := by decide +kernel
theorem dX9_most_21 : decode cX9_most 21 = .ok (.if_icmp .ge 6, 3) := by decide +kernel
theorem dX9_most_24 : decode cX9_most 24 = .ok (.bipush (-3), 2) := by decide +kernel
theorem dX9_most_26 : decode cX9_most 26 = .ok (.ireturn, 1) := by decide +kernel
theorem dX9_most_27 : decode cX9_most 27 = .ok (.aload_n 0, 1) := by decide +kernel
theorem dX9_most_28 : decode cX9_most 28 = .ok (.getfield 21, 3) := by decide +kernel
theorem dX9_most_31 : decode cX9_most 31 = .ok (.iload_n 1, 1) := by decide +kernel
theorem dX9_most_32 : decode cX9_most 32 = .ok (.invokevirtual 181, 3) := by decide +kernel
theorem dX9_most_35 : decode cX9_most 35 = .ok (.iload_n 2, 1) := by decide +kernel
theorem dX9_most_36 : decode cX9_most 36 = .ok (.iconst (-1), 1) := by decide +kernel
theorem dX9_most_37 : decode cX9_most 37 = .ok (.if_icmp .ne 13, 3) := by decide +kernel
theorem dX9_most_40 : decode cX9_most 40 = .ok (.aload_n 0, 1) := by decide +kernel
theorem dX9_most_41 : decode cX9_most 41 = .ok (.getfield 21, 3) := by decide +kernel
theorem dX9_most_44 : decode cX9_most 44 = .ok (.invokevirtual 184, 3) := by decide +kernel
theorem dX9_most_47 : decode cX9_most 47 = .ok (.goto 11, 3) := by decide +kernel
theorem dX9_most_50 : decode cX9_most 50 = .ok (.aload_n 0, 1) := by decide +kernel
theorem dX9_most_51 : decode cX9_most 51 = .ok (.getfield 21, 3) := by decide +kernel
theorem dX9_most_54 : decode cX9_most 54 = .ok (.iload_n 2, 1) := by decide +kernel
theorem dX9_most_55 : decode cX9_most 55 = .ok (.invokevirtual 187, 3) := by decide +kernel
theorem dX9_most_58 : decode cX9_most 58 = .ok (.ireturn, 1) := by decide +kernel
theorem dX9_walk_0 : decode cX9_walk 0 = .ok (.aload_n 0, 1) := by decide +kernel
theorem dX9_walk_1 : decode cX9_walk 1 = .ok (.getfield 10, 3) := by decide +kernel
theorem dX9_walk_4 : decode cX9_walk 4 = .ok (.iload_n 1, 1) := by decide +kernel
theorem dX9_walk_5 : decode cX9_walk 5 = .ok (.invokevirtual 114, 3) := by decide +kernel
theorem dX9_walk_8 : decode cX9_walk 8 = .ok (.ifCond .eq 14, 3) := by decide +kernel
theorem dX9_walk_11 : decode cX9_walk 11 = .ok (.aload_n 0, 1) := by decide +kernel
theorem dX9_walk_12 : decode cX9_walk 12 = .ok (.getfield 58, 3) := by decide +kernel
theorem dX9_walk_15 : decode cX9_walk 15 = .ok (.iload_n 1, 1) := by decide +kernel
theorem dX9_walk_16 : decode cX9_walk 16 = .ok (.invokevirtual 190, 3) := by decide +kernel
theorem dX9_walk_19 : decode cX9_walk 19 = .ok (.goto 5, 3) := by decide +kernel
theorem dX9_walk_22 : decode cX9_walk 22 = .ok (.bipush (-2), 2) := by decide +kernel
theorem dX9_walk_24 : decode cX9_walk 24 = .ok (.ireturn, 1) := by decide +kernel
theorem dX9_rest_0 : decode cX9_rest 0 = .ok (.aload_n 0, 1) := by decide +kernel
theorem dX9_rest_1 : decode cX9_rest 1 = .ok (.getfield 58, 3) := by decide +kernel
theorem dX9_rest_4 : decode cX9_rest 4 = .ok (.invokevirtual 111, 3) := by decide +kernel
theorem dX9_rest_7 : decode cX9_rest 7 = .ok (.ireturn, 1) := by decide +kernel
theorem dX9_walked_0 : decode cX9_walked 0 = .ok (.iload_n 1, 1) := by decide +kernel
theorem dX9_walked_1 : decode cX9_walked 1 = .ok (.ifCond .lt 19, 3) := by decide +kernel
theorem dX9_walked_4 : decode cX9_walked 4 = .ok (.iload_n 1, 1) := by decide +kernel
theorem dX9_walked_5 : decode cX9_walked 5 = .ok (.sipush 9999, 3) := by decide +kernel
theorem dX9_walked_8 : decode cX9_walked 8 = .ok (.if_icmp .gt 12, 3) := by decide +kernel
theorem dX9_walked_11 : decode cX9_walked 11 = .ok (.iload_n 2, 1) := by decide +kernel
theorem dX9_walked_12 : decode cX9_walked 12 = .ok (.ifCond .lt 8, 3) := by decide +kernel
theorem dX9_walked_15 : decode cX9_walked 15 = .ok (.iload_n 2, 1) := by decide +kernel
theorem dX9_walked_16 : decode cX9_walked 16 = .ok (.iconst 2, 1) := by decide +kernel
theorem dX9_walked_17 : decode cX9_walked 17 = .ok (.if_icmp .le 6, 3) := by decide +kernel
theorem dX9_walked_20 : decode cX9_walked 20 = .ok (.bipush (-3), 2) := by decide +kernel
theorem dX9_walked_22 : decode cX9_walked 22 = .ok (.ireturn, 1) := by decide +kernel
theorem dX9_walked_23 : decode cX9_walked 23 = .ok (.aload_n 0, 1) := by decide +kernel
theorem dX9_walked_24 : decode cX9_walked 24 = .ok (.getfield 58, 3) := by decide +kernel
theorem dX9_walked_27 : decode cX9_walked 27 = .ok (.getfield 193, 3) := by decide +kernel
theorem dX9_walked_30 : decode cX9_walked 30 = .ok (.ifCond .ne 6, 3) := by decide +kernel
theorem dX9_walked_33 : decode cX9_walked 33 = .ok (.bipush (-4), 2) := by decide +kernel
theorem dX9_walked_35 : decode cX9_walked 35 = .ok (.ireturn, 1) := by decide +kernel
theorem dX9_walked_36 : decode cX9_walked 36 = .ok (.aload_n 0, 1) := by decide +kernel
theorem dX9_walked_37 : decode cX9_walked 37 = .ok (.getfield 58, 3) := by decide +kernel
theorem dX9_walked_40 : decode cX9_walked 40 = .ok (.iload_n 1, 1) := by decide +kernel
theorem dX9_walked_41 : decode cX9_walked 41 = .ok (.invokevirtual 194, 3) := by decide +kernel
theorem dX9_walked_44 : decode cX9_walked 44 = .ok (.iload_n 2, 1) := by decide +kernel
theorem dX9_walked_45 : decode cX9_walked 45 = .ok (.lookupswitch 43 #[(0, 27), (1, 35)], 27) := by decide +kernel
theorem dX9_walked_72 : decode cX9_walked 72 = .ok (.aload_n 0, 1) := by decide +kernel
theorem dX9_walked_73 : decode cX9_walked 73 = .ok (.getfield 58, 3) := by decide +kernel
theorem dX9_walked_76 : decode cX9_walked 76 = .ok (.getfield 197, 3) := by decide +kernel
theorem dX9_walked_79 : decode cX9_walked 79 = .ok (.ireturn, 1) := by decide +kernel
theorem dX9_walked_80 : decode cX9_walked 80 = .ok (.aload_n 0, 1) := by decide +kernel
theorem dX9_walked_81 : decode cX9_walked 81 = .ok (.getfield 58, 3) := by decide +kernel
theorem dX9_walked_84 : decode cX9_walked 84 = .ok (.getfield 200, 3) := by decide +kernel
theorem dX9_walked_87 : decode cX9_walked 87 = .ok (.ireturn, 1) := by decide +kernel
theorem dX9_walked_88 : decode cX9_walked 88 = .ok (.aload_n 0, 1) := by decide +kernel
theorem dX9_walked_89 : decode cX9_walked 89 = .ok (.getfield 58, 3) := by decide +kernel
theorem dX9_walked_92 : decode cX9_walked 92 = .ok (.getfield 203, 3) := by decide +kernel
theorem dX9_walked_95 : decode cX9_walked 95 = .ok (.ireturn, 1) := by decide +kernel
theorem dX9_trade_0 : decode cX9_trade 0 = .ok (.aload_n 0, 1) := by decide +kernel
theorem dX9_trade_1 : decode cX9_trade 1 = .ok (.getfield 10, 3) := by decide +kernel
theorem dX9_trade_4 : decode cX9_trade 4 = .ok (.iload_n 1, 1) := by decide +kernel
theorem dX9_trade_5 : decode cX9_trade 5 = .ok (.invokevirtual 114, 3) := by decide +kernel
theorem dX9_trade_8 : decode cX9_trade 8 = .ok (.ifCond .ne 6, 3) := by decide +kernel
theorem dX9_trade_11 : decode cX9_trade 11 = .ok (.bipush (-2), 2) := by decide +kernel
theorem dX9_trade_13 : decode cX9_trade 13 = .ok (.ireturn, 1) := by decide +kernel
theorem dX9_trade_14 : decode cX9_trade 14 = .ok (.iload_n 2, 1) := by decide +kernel
theorem dX9_trade_15 : decode cX9_trade 15 = .ok (.ifCond .lt 19, 3) := by decide +kernel
theorem dX9_trade_18 : decode cX9_trade 18 = .ok (.iload_n 2, 1) := by decide +kernel
theorem dX9_trade_19 : decode cX9_trade 19 = .ok (.sipush 9999, 3) := by decide +kernel
theorem dX9_trade_22 : decode cX9_trade 22 = .ok (.if_icmp .gt 12, 3) := by decide +kernel
theorem dX9_trade_25 : decode cX9_trade 25 = .ok (.iload_n 3, 1) := by decide +kernel
theorem dX9_trade_26 : decode cX9_trade 26 = .ok (.ifCond .lt 8, 3) := by decide +kernel
theorem dX9_trade_29 : decode cX9_trade 29 = .ok (.iload_n 3, 1) := by decide +kernel
theorem dX9_trade_30 : decode cX9_trade 30 = .ok (.iconst 3, 1) := by decide +kernel
theorem dX9_trade_31 : decode cX9_trade 31 = .ok (.if_icmp .le 6, 3) := by decide +kernel
theorem dX9_trade_34 : decode cX9_trade 34 = .ok (.bipush (-3), 2) := by decide +kernel
theorem dX9_trade_36 : decode cX9_trade 36 = .ok (.ireturn, 1) := by decide +kernel
theorem dX9_trade_37 : decode cX9_trade 37 = .ok (.aload_n 0, 1) := by decide +kernel
theorem dX9_trade_38 : decode cX9_trade 38 = .ok (.getfield 28, 3) := by decide +kernel
theorem dX9_trade_41 : decode cX9_trade 41 = .ok (.iload_n 1, 1) := by decide +kernel
theorem dX9_trade_42 : decode cX9_trade 42 = .ok (.iload_n 2, 1) := by decide +kernel
theorem dX9_trade_43 : decode cX9_trade 43 = .ok (.invokevirtual 206, 3) := by decide +kernel
theorem dX9_trade_46 : decode cX9_trade 46 = .ok (.aload_n 0, 1) := by decide +kernel
theorem dX9_trade_47 : decode cX9_trade 47 = .ok (.getfield 28, 3) := by decide +kernel
theorem dX9_trade_50 : decode cX9_trade 50 = .ok (.getfield 210, 3) := by decide +kernel
theorem dX9_trade_53 : decode cX9_trade 53 = .ok (.ifCond .ne 5, 3) := by decide +kernel
theorem dX9_trade_56 : decode cX9_trade 56 = .ok (.iconst (-1), 1) := by decide +kernel
theorem dX9_trade_57 : decode cX9_trade 57 = .ok (.ireturn, 1) := by decide +kernel
theorem dX9_trade_58 : decode cX9_trade 58 = .ok (.iload_n 3, 1) := by decide +kernel
theorem dX9_trade_59 : decode cX9_trade 59 = .ok (.tableswitch 49 0 2 #[25, 33, 41], 25) := by decide +kernel
theorem dX9_trade_84 : decode cX9_trade 84 = .ok (.aload_n 0, 1) := by decide +kernel
theorem dX9_trade_85 : decode cX9_trade 85 = .ok (.getfield 28, 3) := by decide +kernel
theorem dX9_trade_88 : decode cX9_trade 88 = .ok (.getfield 210, 3) := by decide +kernel
theorem dX9_trade_91 : decode cX9_trade 91 = .ok (.ireturn, 1) := by decide +kernel
theorem dX9_trade_92 : decode cX9_trade 92 = .ok (.aload_n 0, 1) := by decide +kernel
theorem dX9_trade_93 : decode cX9_trade 93 = .ok (.getfield 28, 3) := by decide +kernel
theorem dX9_trade_96 : decode cX9_trade 96 = .ok (.getfield 213, 3) := by decide +kernel
theorem dX9_trade_99 : decode cX9_trade 99 = .ok (.ireturn, 1) := by decide +kernel
theorem dX9_trade_100 : decode cX9_trade 100 = .ok (.aload_n 0, 1) := by decide +kernel
theorem dX9_trade_101 : decode cX9_trade 101 = .ok (.getfield 28, 3) := by decide +kernel
theorem dX9_trade_104 : decode cX9_trade 104 = .ok (.getfield 216, 3) := by decide +kernel
theorem dX9_trade_107 : decode cX9_trade 107 = .ok (.ireturn, 1) := by decide +kernel
theorem dX9_trade_108 : decode cX9_trade 108 = .ok (.aload_n 0, 1) := by decide +kernel
theorem dX9_trade_109 : decode cX9_trade 109 = .ok (.getfield 28, 3) := by decide +kernel
theorem dX9_trade_112 : decode cX9_trade 112 = .ok (.getfield 219, 3) := by decide +kernel
theorem dX9_trade_115 : decode cX9_trade 115 = .ok (.ireturn, 1) := by decide +kernel
theorem dX9_bell_0 : decode cX9_bell 0 = .ok (.aload_n 0, 1) := by decide +kernel
theorem dX9_bell_1 : decode cX9_bell 1 = .ok (.getfield 10, 3) := by decide +kernel
theorem dX9_bell_4 : decode cX9_bell 4 = .ok (.iload_n 1, 1) := by decide +kernel
theorem dX9_bell_5 : decode cX9_bell 5 = .ok (.invokevirtual 114, 3) := by decide +kernel
theorem dX9_bell_8 : decode cX9_bell 8 = .ok (.ifCond .eq 14, 3) := by decide +kernel
theorem dX9_bell_11 : decode cX9_bell 11 = .ok (.aload_n 0, 1) := by decide +kernel
theorem dX9_bell_12 : decode cX9_bell 12 = .ok (.getfield 10, 3) := by decide +kernel
theorem dX9_bell_15 : decode cX9_bell 15 = .ok (.iload_n 3, 1) := by decide +kernel
theorem dX9_bell_16 : decode cX9_bell 16 = .ok (.invokevirtual 114, 3) := by decide +kernel
theorem dX9_bell_19 : decode cX9_bell 19 = .ok (.ifCond .ne 6, 3) := by decide +kernel
theorem dX9_bell_22 : decode cX9_bell 22 = .ok (.bipush (-2), 2) := by decide +kernel
theorem dX9_bell_24 : decode cX9_bell 24 = .ok (.ireturn, 1) := by decide +kernel
theorem dX9_bell_25 : decode cX9_bell 25 = .ok (.iload_n 2, 1) := by decide +kernel
theorem dX9_bell_26 : decode cX9_bell 26 = .ok (.invokestatic 220, 3) := by decide +kernel
theorem dX9_bell_29 : decode cX9_bell 29 = .ok (.ifCond .eq 16, 3) := by decide +kernel
theorem dX9_bell_32 : decode cX9_bell 32 = .ok (.iload 4, 2) := by decide +kernel
theorem dX9_bell_34 : decode cX9_bell 34 = .ok (.invokestatic 220, 3) := by decide +kernel
theorem dX9_bell_37 : decode cX9_bell 37 = .ok (.ifCond .eq 8, 3) := by decide +kernel
theorem dX9_bell_40 : decode cX9_bell 40 = .ok (.iload_n 1, 1) := by decide +kernel
theorem dX9_bell_41 : decode cX9_bell 41 = .ok (.iload_n 3, 1) := by decide +kernel
theorem dX9_bell_42 : decode cX9_bell 42 = .ok (.if_icmp .ne 6, 3) := by decide +kernel
theorem dX9_bell_45 : decode cX9_bell 45 = .ok (.bipush (-3), 2) := by decide +kernel
theorem dX9_bell_47 : decode cX9_bell 47 = .ok (.ireturn, 1) := by decide +kernel
theorem dX9_bell_48 : decode cX9_bell 48 = .ok (.aload_n 0, 1) := by decide +kernel
theorem dX9_bell_49 : decode cX9_bell 49 = .ok (.getfield 65, 3) := by decide +kernel
theorem dX9_bell_52 : decode cX9_bell 52 = .ok (.iload_n 1, 1) := by decide +kernel
theorem dX9_bell_53 : decode cX9_bell 53 = .ok (.iload_n 2, 1) := by decide +kernel
theorem dX9_bell_54 : decode cX9_bell 54 = .ok (.iload_n 3, 1) := by decide +kernel
theorem dX9_bell_55 : decode cX9_bell 55 = .ok (.iload 4, 2) := by decide +kernel
theorem dX9_bell_57 : decode cX9_bell 57 = .ok (.invokevirtual 223, 3) := by decide +kernel
theorem dX9_bell_60 : decode cX9_bell 60 = .ok (.ireturn, 1) := by decide +kernel
theorem dX9_hush_0 : decode cX9_hush 0 = .ok (.aload_n 0, 1) := by decide +kernel
theorem dX9_hush_1 : decode cX9_hush 1 = .ok (.getfield 65, 3) := by decide +kernel
theorem dX9_hush_4 : decode cX9_hush 4 = .ok (.invokevirtual 112, 3) := by decide +kernel
theorem dX9_hush_7 : decode cX9_hush 7 = .ok (.ireturn, 1) := by decide +kernel
theorem dX9_wrong_0 : decode cX9_wrong 0 = .ok (.iload_n 1, 1) := by decide +kernel
theorem dX9_wrong_1 : decode cX9_wrong 1 = .ok (.ifCond .lt 8, 3) := by decide +kernel
theorem dX9_wrong_4 : decode cX9_wrong 4 = .ok (.iload_n 1, 1) := by decide +kernel
theorem dX9_wrong_5 : decode cX9_wrong 5 = .ok (.iconst 1, 1) := by decide +kernel
theorem dX9_wrong_6 : decode cX9_wrong 6 = .ok (.if_icmp .le 6, 3) := by decide +kernel
theorem dX9_wrong_9 : decode cX9_wrong 9 = .ok (.bipush (-3), 2) := by decide +kernel
theorem dX9_wrong_11 : decode cX9_wrong 11 = .ok (.ireturn, 1) := by decide +kernel
theorem dX9_wrong_12 : decode cX9_wrong 12 = .ok (.aload_n 0, 1) := by decide +kernel
theorem dX9_wrong_13 : decode cX9_wrong 13 = .ok (.getfield 65, 3) := by decide +kernel
theorem dX9_wrong_16 : decode cX9_wrong 16 = .ok (.invokevirtual 225, 3) := by decide +kernel
theorem dX9_wrong_19 : decode cX9_wrong 19 = .ok (.istore_n 2, 1) := by decide +kernel
theorem dX9_wrong_20 : decode cX9_wrong 20 = .ok (.iload_n 1, 1) := by decide +kernel
theorem dX9_wrong_21 : decode cX9_wrong 21 = .ok (.ifCond .ne 15, 3) := by decide +kernel
theorem dX9_wrong_24 : decode cX9_wrong 24 = .ok (.iload_n 2, 1) := by decide +kernel
theorem dX9_wrong_25 : decode cX9_wrong 25 = .ok (.iconst (-1), 1) := by decide +kernel
theorem dX9_wrong_26 : decode cX9_wrong 26 = .ok (.if_icmp .eq 10, 3) := by decide +kernel
theorem dX9_wrong_29 : decode cX9_wrong 29 = .ok (.iload_n 2, 1) := by decide +kernel
theorem dX9_wrong_30 : decode cX9_wrong 30 = .ok (.invokestatic 228, 3) := by decide +kernel
theorem dX9_wrong_33 : decode cX9_wrong 33 = .ok (.goto 4, 3) := by decide +kernel
theorem dX9_wrong_36 : decode cX9_wrong 36 = .ok (.iload_n 2, 1) := by decide +kernel
theorem dX9_wrong_37 : decode cX9_wrong 37 = .ok (.ireturn, 1) := by decide +kernel
theorem dX9_seen_0 : decode cX9_seen 0 = .ok (.iload_n 1, 1) := by decide +kernel
theorem dX9_seen_1 : decode cX9_seen 1 = .ok (.ifCond .lt 20, 3) := by decide +kernel
theorem dX9_seen_4 : decode cX9_seen 4 = .ok (.iload_n 1, 1) := by decide +kernel
theorem dX9_seen_5 : decode cX9_seen 5 = .ok (.bipush 6, 2) := by decide +kernel
theorem dX9_seen_7 : decode cX9_seen 7 = .ok (.if_icmp .ge 14, 3) := by decide +kernel
theorem dX9_seen_10 : decode cX9_seen 10 = .ok (.aload_n 0, 1) := by decide +kernel
theorem dX9_seen_11 : decode cX9_seen 11 = .ok (.getfield 10, 3) := by decide +kernel
theorem dX9_seen_14 : decode cX9_seen 14 = .ok (.iload_n 2, 1) := by decide +kernel
theorem dX9_seen_15 : decode cX9_seen 15 = .ok (.invokevirtual 114, 3) := by decide +kernel
theorem dX9_seen_18 : decode cX9_seen 18 = .ok (.ifCond .ne 6, 3) := by decide +kernel
theorem dX9_seen_21 : decode cX9_seen 21 = .ok (.bipush (-2), 2) := by decide +kernel
theorem dX9_seen_23 : decode cX9_seen 23 = .ok (.ireturn, 1) := by decide +kernel
theorem dX9_seen_24 : decode cX9_seen 24 = .ok (.iload_n 3, 1) := by decide +kernel
theorem dX9_seen_25 : decode cX9_seen 25 = .ok (.invokestatic 220, 3) := by decide +kernel
theorem dX9_seen_28 : decode cX9_seen 28 = .ok (.ifCond .eq 16, 3) := by decide +kernel
theorem dX9_seen_31 : decode cX9_seen 31 = .ok (.aload_n 0, 1) := by decide +kernel
theorem dX9_seen_32 : decode cX9_seen 32 = .ok (.getfield 72, 3) := by decide +kernel
theorem dX9_seen_35 : decode cX9_seen 35 = .ok (.iload_n 1, 1) := by decide +kernel
theorem dX9_seen_36 : decode cX9_seen 36 = .ok (.iload_n 2, 1) := by decide +kernel
theorem dX9_seen_37 : decode cX9_seen 37 = .ok (.iload_n 3, 1) := by decide +kernel
theorem dX9_seen_38 : decode cX9_seen 38 = .ok (.invokevirtual 233, 3) := by decide +kernel
theorem dX9_seen_41 : decode cX9_seen 41 = .ok (.goto 5, 3) := by decide +kernel
theorem dX9_seen_44 : decode cX9_seen 44 = .ok (.bipush (-3), 2) := by decide +kernel
theorem dX9_seen_46 : decode cX9_seen 46 = .ok (.ireturn, 1) := by decide +kernel
theorem dX9_forget_0 : decode cX9_forget 0 = .ok (.aload_n 0, 1) := by decide +kernel
theorem dX9_forget_1 : decode cX9_forget 1 = .ok (.getfield 72, 3) := by decide +kernel
theorem dX9_forget_4 : decode cX9_forget 4 = .ok (.invokevirtual 113, 3) := by decide +kernel
theorem dX9_forget_7 : decode cX9_forget 7 = .ok (.ireturn, 1) := by decide +kernel
theorem dX9_liars_0 : decode cX9_liars 0 = .ok (.aload_n 0, 1) := by decide +kernel
theorem dX9_liars_1 : decode cX9_liars 1 = .ok (.getfield 72, 3) := by decide +kernel
theorem dX9_liars_4 : decode cX9_liars 4 = .ok (.invokevirtual 236, 3) := by decide +kernel
theorem dX9_liars_7 : decode cX9_liars 7 = .ok (.ireturn, 1) := by decide +kernel
theorem dX9_canBe_0 : decode cX9_canBe 0 = .ok (.aload_n 0, 1) := by decide +kernel
theorem dX9_canBe_1 : decode cX9_canBe 1 = .ok (.getfield 10, 3) := by decide +kernel
theorem dX9_canBe_4 : decode cX9_canBe 4 = .ok (.iload_n 1, 1) := by decide +kernel
theorem dX9_canBe_5 : decode cX9_canBe 5 = .ok (.invokevirtual 114, 3) := by decide +kernel
theorem dX9_canBe_8 : decode cX9_canBe 8 = .ok (.ifCond .ne 6, 3) := by decide +kernel
theorem dX9_canBe_11 : decode cX9_canBe 11 = .ok (.bipush (-2), 2) := by decide +kernel
theorem dX9_canBe_13 : decode cX9_canBe 13 = .ok (.ireturn, 1) := by decide +kernel
theorem dX9_canBe_14 : decode cX9_canBe 14 = .ok (.iload_n 2, 1) := by decide +kernel
theorem dX9_canBe_15 : decode cX9_canBe 15 = .ok (.invokestatic 220, 3) := by decide +kernel
theorem dX9_canBe_18 : decode cX9_canBe 18 = .ok (.ifCond .eq 15, 3) := by decide +kernel
theorem dX9_canBe_21 : decode cX9_canBe 21 = .ok (.aload_n 0, 1) := by decide +kernel
theorem dX9_canBe_22 : decode cX9_canBe 22 = .ok (.getfield 72, 3) := by decide +kernel
theorem dX9_canBe_25 : decode cX9_canBe 25 = .ok (.iload_n 1, 1) := by decide +kernel
theorem dX9_canBe_26 : decode cX9_canBe 26 = .ok (.iload_n 2, 1) := by decide +kernel
theorem dX9_canBe_27 : decode cX9_canBe 27 = .ok (.invokevirtual 239, 3) := by decide +kernel
theorem dX9_canBe_30 : decode cX9_canBe 30 = .ok (.goto 5, 3) := by decide +kernel
theorem dX9_canBe_33 : decode cX9_canBe 33 = .ok (.bipush (-3), 2) := by decide +kernel
theorem dX9_canBe_35 : decode cX9_canBe 35 = .ok (.ireturn, 1) := by decide +kernel
theorem dX9_hang_0 : decode cX9_hang 0 = .ok (.iload_n 1, 1) := by decide +kernel
theorem dX9_hang_1 : decode cX9_hang 1 = .ok (.ifCond .lt 8, 3) := by decide +kernel
theorem dX9_hang_4 : decode cX9_hang 4 = .ok (.iload_n 1, 1) := by decide +kernel
theorem dX9_hang_5 : decode cX9_hang 5 = .ok (.iconst 1, 1) := by decide +kernel
theorem dX9_hang_6 : decode cX9_hang 6 = .ok (.if_icmp .le 6, 3) := by decide +kernel
theorem dX9_hang_9 : decode cX9_hang 9 = .ok (.bipush (-3), 2) := by decide +kernel
theorem dX9_hang_11 : decode cX9_hang 11 = .ok (.ireturn, 1) := by decide +kernel
theorem dX9_hang_12 : decode cX9_hang 12 = .ok (.aload_n 0, 1) := by decide +kernel
theorem dX9_hang_13 : decode cX9_hang 13 = .ok (.getfield 21, 3) := by decide +kernel
theorem dX9_hang_16 : decode cX9_hang 16 = .ok (.getfield 91, 3) := by decide +kernel
theorem dX9_hang_19 : decode cX9_hang 19 = .ok (.ifCond .ne 6, 3) := by decide +kernel
theorem dX9_hang_22 : decode cX9_hang 22 = .ok (.bipush (-4), 2) := by decide +kernel
theorem dX9_hang_24 : decode cX9_hang 24 = .ok (.ireturn, 1) := by decide +kernel
theorem dX9_hang_25 : decode cX9_hang 25 = .ok (.aload_n 0, 1) := by decide +kernel
theorem dX9_hang_26 : decode cX9_hang 26 = .ok (.getfield 21, 3) := by decide +kernel
theorem dX9_hang_29 : decode cX9_hang 29 = .ok (.invokevirtual 242, 3) := by decide +kernel
theorem dX9_hang_32 : decode cX9_hang 32 = .ok (.istore_n 2, 1) := by decide +kernel
theorem dX9_hang_33 : decode cX9_hang 33 = .ok (.iload_n 1, 1) := by decide +kernel
theorem dX9_hang_34 : decode cX9_hang 34 = .ok (.ifCond .ne 7, 3) := by decide +kernel
theorem dX9_hang_37 : decode cX9_hang 37 = .ok (.iload_n 2, 1) := by decide +kernel
theorem dX9_hang_38 : decode cX9_hang 38 = .ok (.goto 11, 3) := by decide +kernel
theorem dX9_hang_41 : decode cX9_hang 41 = .ok (.aload_n 0, 1) := by decide +kernel
theorem dX9_hang_42 : decode cX9_hang 42 = .ok (.getfield 21, 3) := by decide +kernel
theorem dX9_hang_45 : decode cX9_hang 45 = .ok (.iload_n 2, 1) := by decide +kernel
theorem dX9_hang_46 : decode cX9_hang 46 = .ok (.invokevirtual 245, 3) := by decide +kernel
theorem dX9_hang_49 : decode cX9_hang 49 = .ok (.ireturn, 1) := by decide +kernel
theorem dX9_ring_0 : decode cX9_ring 0 = .ok (.iload_n 1, 1) := by decide +kernel
theorem dX9_ring_1 : decode cX9_ring 1 = .ok (.iconst 1, 1) := by decide +kernel
theorem dX9_ring_2 : decode cX9_ring 2 = .ok (.if_icmp .lt 17, 3) := by decide +kernel
theorem dX9_ring_5 : decode cX9_ring 5 = .ok (.iload_n 1, 1) := by decide +kernel
theorem dX9_ring_6 : decode cX9_ring 6 = .ok (.sipush 9999, 3) := by decide +kernel
theorem dX9_ring_9 : decode cX9_ring 9 = .ok (.if_icmp .gt 10, 3) := by decide +kernel
theorem dX9_ring_12 : decode cX9_ring 12 = .ok (.iload_n 1, 1) := by decide +kernel
theorem dX9_ring_13 : decode cX9_ring 13 = .ok (.invokestatic 248, 3) := by decide +kernel
theorem dX9_ring_16 : decode cX9_ring 16 = .ok (.goto 5, 3) := by decide +kernel
theorem dX9_ring_19 : decode cX9_ring 19 = .ok (.bipush (-3), 2) := by decide +kernel
theorem dX9_ring_21 : decode cX9_ring 21 = .ok (.ireturn, 1) := by decide +kernel
theorem dX9_count_0 : decode cX9_count 0 = .ok (.iload_n 1, 1) := by decide +kernel
theorem dX9_count_1 : decode cX9_count 1 = .ok (.tableswitch 111 0 7 #[47, 55, 63, 71, 79, 87, 95, 103], 47) := by decide +kernel
theorem dX9_count_48 : decode cX9_count 48 = .ok (.aload_n 0, 1) := by decide +kernel
theorem dX9_count_49 : decode cX9_count 49 = .ok (.getfield 10, 3) := by decide +kernel
theorem dX9_count_52 : decode cX9_count 52 = .ok (.getfield 84, 3) := by decide +kernel
theorem dX9_count_55 : decode cX9_count 55 = .ok (.ireturn, 1) := by decide +kernel
theorem dX9_count_56 : decode cX9_count 56 = .ok (.aload_n 0, 1) := by decide +kernel
theorem dX9_count_57 : decode cX9_count 57 = .ok (.getfield 10, 3) := by decide +kernel
theorem dX9_count_60 : decode cX9_count 60 = .ok (.getfield 88, 3) := by decide +kernel
theorem dX9_count_63 : decode cX9_count 63 = .ok (.ireturn, 1) := by decide +kernel
theorem dX9_count_64 : decode cX9_count 64 = .ok (.aload_n 0, 1) := by decide +kernel
theorem dX9_count_65 : decode cX9_count 65 = .ok (.getfield 21, 3) := by decide +kernel
theorem dX9_count_68 : decode cX9_count 68 = .ok (.getfield 91, 3) := by decide +kernel
theorem dX9_count_71 : decode cX9_count 71 = .ok (.ireturn, 1) := by decide +kernel
theorem dX9_count_72 : decode cX9_count 72 = .ok (.aload_n 0, 1) := by decide +kernel
theorem dX9_count_73 : decode cX9_count 73 = .ok (.getfield 28, 3) := by decide +kernel
theorem dX9_count_76 : decode cX9_count 76 = .ok (.getfield 92, 3) := by decide +kernel
theorem dX9_count_79 : decode cX9_count 79 = .ok (.ireturn, 1) := by decide +kernel
theorem dX9_count_80 : decode cX9_count 80 = .ok (.aload_n 0, 1) := by decide +kernel
theorem dX9_count_81 : decode cX9_count 81 = .ok (.getfield 58, 3) := by decide +kernel
theorem dX9_count_84 : decode cX9_count 84 = .ok (.getfield 193, 3) := by decide +kernel
theorem dX9_count_87 : decode cX9_count 87 = .ok (.ireturn, 1) := by decide +kernel
theorem dX9_count_88 : decode cX9_count 88 = .ok (.aload_n 0, 1) := by decide +kernel
theorem dX9_count_89 : decode cX9_count 89 = .ok (.getfield 65, 3) := by decide +kernel
theorem dX9_count_92 : decode cX9_count 92 = .ok (.getfield 251, 3) := by decide +kernel
theorem dX9_count_95 : decode cX9_count 95 = .ok (.ireturn, 1) := by decide +kernel
theorem dX9_count_96 : decode cX9_count 96 = .ok (.aload_n 0, 1) := by decide +kernel
theorem dX9_count_97 : decode cX9_count 97 = .ok (.getfield 72, 3) := by decide +kernel
theorem dX9_count_100 : decode cX9_count 100 = .ok (.getfield 252, 3) := by decide +kernel
theorem dX9_count_103 : decode cX9_count 103 = .ok (.ireturn, 1) := by decide +kernel
theorem dX9_count_104 : decode cX9_count 104 = .ok (.aload_n 0, 1) := by decide +kernel
theorem dX9_count_105 : decode cX9_count 105 = .ok (.getfield 35, 3) := by decide +kernel
theorem dX9_count_108 : decode cX9_count 108 = .ok (.getfield 253, 3) := by decide +kernel
theorem dX9_count_111 : decode cX9_count 111 = .ok (.ireturn, 1) := by decide +kernel
theorem dX9_count_112 : decode cX9_count 112 = .ok (.bipush (-3), 2) := by decide +kernel
theorem dX9_count_114 : decode cX9_count 114 = .ok (.ireturn, 1) := by decide +kernel
theorem dX9_carryOut_0 : decode cX9_carryOut 0 = .ok (.aload_n 0, 1) := by decide +kernel
theorem dX9_carryOut_1 : decode cX9_carryOut 1 = .ok (.getfield 44, 3) := by decide +kernel
theorem dX9_carryOut_4 : decode cX9_carryOut 4 = .ok (.iload_n 1, 1) := by decide +kernel
theorem dX9_carryOut_5 : decode cX9_carryOut 5 = .ok (.iconst 0, 1) := by decide +kernel
theorem dX9_carryOut_6 : decode cX9_carryOut 6 = .ok (.invokevirtual 256, 3) := by decide +kernel
theorem dX9_carryOut_9 : decode cX9_carryOut 9 = .ok (.istore_n 2, 1) := by decide +kernel
theorem dX9_carryOut_10 : decode cX9_carryOut 10 = .ok (.aload_n 0, 1) := by decide +kernel
theorem dX9_carryOut_11 : decode cX9_carryOut 11 = .ok (.getfield 44, 3) := by decide +kernel
theorem dX9_carryOut_14 : decode cX9_carryOut 14 = .ok (.iload_n 1, 1) := by decide +kernel
theorem dX9_carryOut_15 : decode cX9_carryOut 15 = .ok (.iconst 1, 1) := by decide +kernel
theorem dX9_carryOut_16 : decode cX9_carryOut 16 = .ok (.invokevirtual 256, 3) := by decide +kernel
theorem dX9_carryOut_19 : decode cX9_carryOut 19 = .ok (.istore_n 3, 1) := by decide +kernel
theorem dX9_carryOut_20 : decode cX9_carryOut 20 = .ok (.aload_n 0, 1) := by decide +kernel
theorem dX9_carryOut_21 : decode cX9_carryOut 21 = .ok (.getfield 44, 3) := by decide +kernel
theorem dX9_carryOut_24 : decode cX9_carryOut 24 = .ok (.iload_n 1, 1) := by decide +kernel
theorem dX9_carryOut_25 : decode cX9_carryOut 25 = .ok (.iconst 2, 1) := by decide +kernel
theorem dX9_carryOut_26 : decode cX9_carryOut 26 = .ok (.invokevirtual 256, 3) := by decide +kernel
theorem dX9_carryOut_29 : decode cX9_carryOut 29 = .ok (.istore 4, 2) := by decide +kernel
theorem dX9_carryOut_31 : decode cX9_carryOut 31 = .ok (.aload_n 0, 1) := by decide +kernel
theorem dX9_carryOut_32 : decode cX9_carryOut 32 = .ok (.getfield 44, 3) := by decide +kernel
theorem dX9_carryOut_35 : decode cX9_carryOut 35 = .ok (.iload_n 1, 1) := by decide +kernel
theorem dX9_carryOut_36 : decode cX9_carryOut 36 = .ok (.invokevirtual 259, 3) := by decide +kernel
theorem dX9_carryOut_39 : decode cX9_carryOut 39 = .ok (.tableswitch 148 1 6 #[37, 64, 76, 88, 102, 116], 37) := by decide +kernel
theorem dX9_carryOut_76 : decode cX9_carryOut 76 = .ok (.aload_n 0, 1) := by decide +kernel
theorem dX9_carryOut_77 : decode cX9_carryOut 77 = .ok (.getfield 10, 3) := by decide +kernel
theorem dX9_carryOut_80 : decode cX9_carryOut 80 = .ok (.iload_n 2, 1) := by decide +kernel
theorem dX9_carryOut_81 : decode cX9_carryOut 81 = .ok (.invokevirtual 262, 3) := by decide +kernel
theorem dX9_carryOut_84 : decode cX9_carryOut 84 = .ok (.aload_n 0, 1) := by decide +kernel
theorem dX9_carryOut_85 : decode cX9_carryOut 85 = .ok (.getfield 21, 3) := by decide +kernel
theorem dX9_carryOut_88 : decode cX9_carryOut 88 = .ok (.iconst 0, 1) := by decide +kernel
theorem dX9_carryOut_89 : decode cX9_carryOut 89 = .ok (.putfield 91, 3) := by decide +kernel
theorem dX9_carryOut_92 : decode cX9_carryOut 92 = .ok (.aload_n 0, 1) := by decide +kernel
theorem dX9_carryOut_93 : decode cX9_carryOut 93 = .ok (.getfield 28, 3) := by decide +kernel
theorem dX9_carryOut_96 : decode cX9_carryOut 96 = .ok (.iconst 0, 1) := by decide +kernel
theorem dX9_carryOut_97 : decode cX9_carryOut 97 = .ok (.putfield 92, 3) := by decide +kernel
theorem dX9_carryOut_100 : decode cX9_carryOut 100 = .ok (.goto 103, 3) := by decide +kernel
theorem dX9_carryOut_103 : decode cX9_carryOut 103 = .ok (.aload_n 0, 1) := by decide +kernel
theorem dX9_carryOut_104 : decode cX9_carryOut 104 = .ok (.getfield 10, 3) := by decide +kernel
theorem dX9_carryOut_107 : decode cX9_carryOut 107 = .ok (.iload_n 2, 1) := by decide +kernel
theorem dX9_carryOut_108 : decode cX9_carryOut 108 = .ok (.iload_n 3, 1) := by decide +kernel
theorem dX9_carryOut_109 : decode cX9_carryOut 109 = .ok (.invokevirtual 264, 3) := by decide +kernel
theorem dX9_carryOut_112 : decode cX9_carryOut 112 = .ok (.goto 91, 3) := by decide +kernel
theorem dX9_carryOut_115 : decode cX9_carryOut 115 = .ok (.aload_n 0, 1) := by decide +kernel
theorem dX9_carryOut_116 : decode cX9_carryOut 116 = .ok (.getfield 10, 3) := by decide +kernel
theorem dX9_carryOut_119 : decode cX9_carryOut 119 = .ok (.iload_n 2, 1) := by decide +kernel
theorem dX9_carryOut_120 : decode cX9_carryOut 120 = .ok (.iload_n 3, 1) := by decide +kernel
theorem dX9_carryOut_121 : decode cX9_carryOut 121 = .ok (.invokevirtual 267, 3) := by decide +kernel
theorem dX9_carryOut_124 : decode cX9_carryOut 124 = .ok (.goto 79, 3) := by decide +kernel
theorem dX9_carryOut_127 : decode cX9_carryOut 127 = .ok (.aload_n 0, 1) := by decide +kernel
theorem dX9_carryOut_128 : decode cX9_carryOut 128 = .ok (.getfield 10, 3) := by decide +kernel
theorem dX9_carryOut_131 : decode cX9_carryOut 131 = .ok (.iload_n 2, 1) := by decide +kernel
theorem dX9_carryOut_132 : decode cX9_carryOut 132 = .ok (.iload_n 3, 1) := by decide +kernel
theorem dX9_carryOut_133 : decode cX9_carryOut 133 = .ok (.iload 4, 2) := by decide +kernel
theorem dX9_carryOut_135 : decode cX9_carryOut 135 = .ok (.invokevirtual 270, 3) := by decide +kernel
theorem dX9_carryOut_138 : decode cX9_carryOut 138 = .ok (.goto 65, 3) := by decide +kernel
theorem dX9_carryOut_141 : decode cX9_carryOut 141 = .ok (.aload_n 0, 1) := by decide +kernel
theorem dX9_carryOut_142 : decode cX9_carryOut 142 = .ok (.getfield 21, 3) := by decide +kernel
theorem dX9_carryOut_145 : decode cX9_carryOut 145 = .ok (.iload_n 2, 1) := by decide +kernel
theorem dX9_carryOut_146 : decode cX9_carryOut 146 = .ok (.iload_n 3, 1) := by decide +kernel
theorem dX9_carryOut_147 : decode cX9_carryOut 147 = .ok (.iload 4, 2) := by decide +kernel
theorem dX9_carryOut_149 : decode cX9_carryOut 149 = .ok (.invokevirtual 274, 3) := by decide +kernel
theorem dX9_carryOut_152 : decode cX9_carryOut 152 = .ok (.goto 51, 3) := by decide +kernel
theorem dX9_carryOut_155 : decode cX9_carryOut 155 = .ok (.aload_n 0, 1) := by decide +kernel
theorem dX9_carryOut_156 : decode cX9_carryOut 156 = .ok (.getfield 28, 3) := by decide +kernel
theorem dX9_carryOut_159 : decode cX9_carryOut 159 = .ok (.iload_n 2, 1) := by decide +kernel
theorem dX9_carryOut_160 : decode cX9_carryOut 160 = .ok (.iload_n 3, 1) := by decide +kernel
theorem dX9_carryOut_161 : decode cX9_carryOut 161 = .ok (.iload 4, 2) := by decide +kernel
theorem dX9_carryOut_163 : decode cX9_carryOut 163 = .ok (.aload_n 0, 1) := by decide +kernel
theorem dX9_carryOut_164 : decode cX9_carryOut 164 = .ok (.getfield 44, 3) := by decide +kernel
theorem dX9_carryOut_167 : decode cX9_carryOut 167 = .ok (.iload_n 1, 1) := by decide +kernel
theorem dX9_carryOut_168 : decode cX9_carryOut 168 = .ok (.iconst 3, 1) := by decide +kernel
theorem dX9_carryOut_169 : decode cX9_carryOut 169 = .ok (.invokevirtual 256, 3) := by decide +kernel
theorem dX9_carryOut_172 : decode cX9_carryOut 172 = .ok (.aload_n 0, 1) := by decide +kernel
theorem dX9_carryOut_173 : decode cX9_carryOut 173 = .ok (.getfield 44, 3) := by decide +kernel
theorem dX9_carryOut_176 : decode cX9_carryOut 176 = .ok (.iload_n 1, 1) := by decide +kernel
theorem dX9_carryOut_177 : decode cX9_carryOut 177 = .ok (.iconst 4, 1) := by decide +kernel
theorem dX9_carryOut_178 : decode cX9_carryOut 178 = .ok (.invokevirtual 256, 3) := by decide +kernel
theorem dX9_carryOut_181 : decode cX9_carryOut 181 = .ok (.invokevirtual 276, 3) := by decide +kernel
theorem dX9_carryOut_184 : decode cX9_carryOut 184 = .ok (.goto 19, 3) := by decide +kernel
theorem dX9_carryOut_187 : decode cX9_carryOut 187 = .ok (.aload_n 0, 1) := by decide +kernel
theorem dX9_carryOut_188 : decode cX9_carryOut 188 = .ok (.getfield 21, 3) := by decide +kernel
theorem dX9_carryOut_191 : decode cX9_carryOut 191 = .ok (.iconst 0, 1) := by decide +kernel
theorem dX9_carryOut_192 : decode cX9_carryOut 192 = .ok (.putfield 91, 3) := by decide +kernel
theorem dX9_carryOut_195 : decode cX9_carryOut 195 = .ok (.aload_n 0, 1) := by decide +kernel
theorem dX9_carryOut_196 : decode cX9_carryOut 196 = .ok (.getfield 28, 3) := by decide +kernel
theorem dX9_carryOut_199 : decode cX9_carryOut 199 = .ok (.iconst 0, 1) := by decide +kernel
theorem dX9_carryOut_200 : decode cX9_carryOut 200 = .ok (.putfield 92, 3) := by decide +kernel
theorem dX9_carryOut_203 : decode cX9_carryOut 203 = .ok (.return_, 1) := by decide +kernel
theorem dX9_isClock_0 : decode cX9_isClock 0 = .ok (.iload_n 0, 1) := by decide +kernel
theorem dX9_isClock_1 : decode cX9_isClock 1 = .ok (.ifCond .lt 14, 3) := by decide +kernel
theorem dX9_isClock_4 : decode cX9_isClock 4 = .ok (.iload_n 0, 1) := by decide +kernel
theorem dX9_isClock_5 : decode cX9_isClock 5 = .ok (.sipush 1440, 3) := by decide +kernel
theorem dX9_isClock_8 : decode cX9_isClock 8 = .ok (.if_icmp .ge 7, 3) := by decide +kernel
theorem dX9_isClock_11 : decode cX9_isClock 11 = .ok (.iconst 1, 1) := by decide +kernel
theorem dX9_isClock_12 : decode cX9_isClock 12 = .ok (.goto 4, 3) := by decide +kernel
theorem dX9_isClock_15 : decode cX9_isClock 15 = .ok (.iconst 0, 1) := by decide +kernel
theorem dX9_isClock_16 : decode cX9_isClock 16 = .ok (.ireturn, 1) := by decide +kernel
theorem dX9_leastClosing_0 : decode cX9_leastClosing 0 = .ok (.iconst 1, 1) := by decide +kernel
theorem dX9_leastClosing_1 : decode cX9_leastClosing 1 = .ok (.istore_n 1, 1) := by decide +kernel
theorem dX9_leastClosing_2 : decode cX9_leastClosing 2 = .ok (.iload_n 1, 1) := by decide +kernel
theorem dX9_leastClosing_3 : decode cX9_leastClosing 3 = .ok (.sipush 1440, 3) := by decide +kernel
theorem dX9_leastClosing_6 : decode cX9_leastClosing 6 = .ok (.if_icmp .ge 19, 3) := by decide +kernel
theorem dX9_leastClosing_9 : decode cX9_leastClosing 9 = .ok (.iload_n 0, 1) := by decide +kernel
theorem dX9_leastClosing_10 : decode cX9_leastClosing 10 = .ok (.iload_n 1, 1) := by decide +kernel
theorem dX9_leastClosing_11 : decode cX9_leastClosing 11 = .ok (.imul, 1) := by decide +kernel
theorem dX9_leastClosing_12 : decode cX9_leastClosing 12 = .ok (.sipush 1440, 3) := by decide +kernel
theorem dX9_leastClosing_15 : decode cX9_leastClosing 15 = .ok (.irem, 1) := by decide +kernel
theorem dX9_leastClosing_16 : decode cX9_leastClosing 16 = .ok (.ifCond .eq 9, 3) := by decide +kernel
theorem dX9_leastClosing_19 : decode cX9_leastClosing 19 = .ok (.iinc 1 1, 3) := by decide +kernel
theorem dX9_leastClosing_22 : decode cX9_leastClosing 22 = .ok (.goto (-20), 3) := by decide +kernel
theorem dX9_leastClosing_25 : decode cX9_leastClosing 25 = .ok (.iload_n 1, 1) := by decide +kernel
theorem dX9_leastClosing_26 : decode cX9_leastClosing 26 = .ok (.ireturn, 1) := by decide +kernel
theorem dX10_init_0 : decode cX10_init 0 = .ok (.aload_n 0, 1) := by decide +kernel
theorem dX10_init_1 : decode cX10_init 1 = .ok (.invokespecial 1, 3) := by decide +kernel
theorem dX10_init_4 : decode cX10_init 4 = .ok (.aload_n 0, 1) := by decide +kernel
theorem dX10_init_5 : decode cX10_init 5 = .ok (.iconst 4, 1) := by decide +kernel
theorem dX10_init_6 : decode cX10_init 6 = .ok (.putfield 7, 3) := by decide +kernel
theorem dX10_init_9 : decode cX10_init 9 = .ok (.aload_n 0, 1) := by decide +kernel
theorem dX10_init_10 : decode cX10_init 10 = .ok (.bipush 10, 2) := by decide +kernel
theorem dX10_init_12 : decode cX10_init 12 = .ok (.newarray .int, 2) := by decide +kernel
theorem dX10_init_14 : decode cX10_init 14 = .ok (.putfield 13, 3) := by decide +kernel
theorem dX10_init_17 : decode cX10_init 17 = .ok (.aload_n 0, 1) := by decide +kernel
theorem dX10_init_18 : decode cX10_init 18 = .ok (.bipush 10, 2) := by decide +kernel
theorem dX10_init_20 : decode cX10_init 20 = .ok (.newarray .int, 2) := by decide +kernel
theorem dX10_init_22 : decode cX10_init 22 = .ok (.putfield 17, 3) := by decide +kernel
theorem dX10_init_25 : decode cX10_init 25 = .ok (.aload_n 0, 1) := by decide +kernel
theorem dX10_init_26 : decode cX10_init 26 = .ok (.bipush 24, 2) := by decide +kernel
theorem dX10_init_28 : decode cX10_init 28 = .ok (.newarray .int, 2) := by decide +kernel
theorem dX10_init_30 : decode cX10_init 30 = .ok (.putfield 20, 3) := by decide +kernel
theorem dX10_init_33 : decode cX10_init 33 = .ok (.aload_n 0, 1) := by decide +kernel
theorem dX10_init_34 : decode cX10_init 34 = .ok (.bipush 30, 2) := by decide +kernel
theorem dX10_init_36 : decode cX10_init 36 = .ok (.newarray .int, 2) := by decide +kernel
theorem dX10_init_38 : decode cX10_init 38 = .ok (.putfield 23, 3) := by decide +kernel
theorem dX10_init_41 : decode cX10_init 41 = .ok (.aload_n 0, 1) := by decide +kernel
theorem dX10_init_42 : decode cX10_init 42 = .ok (.bipush 30, 2) := by decide +kernel
theorem dX10_init_44 : decode cX10_init 44 = .ok (.newarray .int, 2) := by decide +kernel
theorem dX10_init_46 : decode cX10_init 46 = .ok (.putfield 26, 3) := by decide +kernel
theorem dX10_init_49 : decode cX10_init 49 = .ok (.aload_n 0, 1) := by decide +kernel
theorem dX10_init_50 : decode cX10_init 50 = .ok (.bipush 100, 2) := by decide +kernel
theorem dX10_init_52 : decode cX10_init 52 = .ok (.newarray .int, 2) := by decide +kernel
theorem dX10_init_54 : decode cX10_init 54 = .ok (.putfield 29, 3) := by decide +kernel
theorem dX10_init_57 : decode cX10_init 57 = .ok (.aload_n 0, 1) := by decide +kernel
theorem dX10_init_58 : decode cX10_init 58 = .ok (.sipush 200, 3) := by decide +kernel
theorem dX10_init_61 : decode cX10_init 61 = .ok (.newarray .int, 2) := by decide +kernel
theorem dX10_init_63 : decode cX10_init 63 = .ok (.putfield 32, 3) := by decide +kernel
theorem dX10_init_66 : decode cX10_init 66 = .ok (.aload_n 0, 1) := by decide +kernel
theorem dX10_init_67 : decode cX10_init 67 = .ok (.bipush 60, 2) := by decide +kernel
theorem dX10_init_69 : decode cX10_init 69 = .ok (.newarray .int, 2) := by decide +kernel
theorem dX10_init_71 : decode cX10_init 71 = .ok (.putfield 35, 3) := by decide +kernel
theorem dX10_init_74 : decode cX10_init 74 = .ok (.aload_n 0, 1) := by decide +kernel
theorem dX10_init_75 : decode cX10_init 75 = .ok (.iconst 4, 1) := by decide +kernel
theorem dX10_init_76 : decode cX10_init 76 = .ok (.newarray .int, 2) := by decide +kernel
theorem dX10_init_78 : decode cX10_init 78 = .ok (.putfield 38, 3) := by decide +kernel
theorem dX10_init_81 : decode cX10_init 81 = .ok (.aload_n 0, 1) := by decide +kernel
theorem dX10_init_82 : decode cX10_init 82 = .ok (.iconst 2, 1) := by decide +kernel
theorem dX10_init_83 : decode cX10_init 83 = .ok (.newarray .boolean, 2) := by decide +kernel
theorem dX10_init_85 : decode cX10_init 85 = .ok (.putfield 41, 3) := by decide +kernel
theorem dX10_init_88 : decode cX10_init 88 = .ok (.aload_n 0, 1) := by decide +kernel
theorem dX10_init_89 : decode cX10_init 89 = .ok (.bipush 12, 2) := by decide +kernel
theorem dX10_init_91 : decode cX10_init 91 = .ok (.newarray .int, 2) := by decide +kernel
theorem dX10_init_93 : decode cX10_init 93 = .ok (.putfield 45, 3) := by decide +kernel
theorem dX10_init_96 : decode cX10_init 96 = .ok (.aload_n 0, 1) := by decide +kernel
theorem dX10_init_97 : decode cX10_init 97 = .ok (.bipush 40, 2) := by decide +kernel
theorem dX10_init_99 : decode cX10_init 99 = .ok (.newarray .int, 2) := by decide +kernel
theorem dX10_init_101 : decode cX10_init 101 = .ok (.putfield 48, 3) := by decide +kernel
theorem dX10_init_104 : decode cX10_init 104 = .ok (.aload_n 0, 1) := by decide +kernel
theorem dX10_init_105 : decode cX10_init 105 = .ok (.bipush 36, 2) := by decide +kernel
theorem dX10_init_107 : decode cX10_init 107 = .ok (.newarray .int, 2) := by decide +kernel
theorem dX10_init_109 : decode cX10_init 109 = .ok (.putfield 51, 3) := by decide +kernel
theorem dX10_init_112 : decode cX10_init 112 = .ok (.aload_n 0, 1) := by decide +kernel
theorem dX10_init_113 : decode cX10_init 113 = .ok (.bipush 10, 2) := by decide +kernel
theorem dX10_init_115 : decode cX10_init 115 = .ok (.newarray .int, 2) := by decide +kernel
theorem dX10_init_117 : decode cX10_init 117 = .ok (.putfield 54, 3) := by decide +kernel
theorem dX10_init_120 : decode cX10_init 120 = .ok (.aload_n 0, 1) := by decide +kernel
theorem dX10_init_121 : decode cX10_init 121 = .ok (.bipush 10, 2) := by decide +kernel
theorem dX10_init_123 : decode cX10_init 123 = .ok (.newarray .int, 2) := by decide +kernel
theorem dX10_init_125 : decode cX10_init 125 = .ok (.putfield 57, 3) := by decide +kernel
theorem dX10_init_128 : decode cX10_init 128 = .ok (.aload_n 0, 1) := by decide +kernel
theorem dX10_init_129 : decode cX10_init 129 = .ok (.bipush 10, 2) := by decide +kernel
theorem dX10_init_131 : decode cX10_init 131 = .ok (.newarray .int, 2) := by decide +kernel
theorem dX10_init_133 : decode cX10_init 133 = .ok (.putfield 60, 3) := by decide +kernel
theorem dX10_init_136 : decode cX10_init 136 = .ok (.aload_n 0, 1) := by decide +kernel
theorem dX10_init_137 : decode cX10_init 137 = .ok (.invokevirtual 63, 3) := by decide +kernel
theorem dX10_init_140 : decode cX10_init 140 = .ok (.aload_n 0, 1) := by decide +kernel
theorem dX10_init_141 : decode cX10_init 141 = .ok (.invokevirtual 66, 3) := by decide +kernel
theorem dX10_init_144 : decode cX10_init 144 = .ok (.return_, 1) := by decide +kernel
theorem dX10_in_0 : decode cX10_in 0 = .ok (.iload_n 0, 1) := by decide +kernel
theorem dX10_in_1 : decode cX10_in 1 = .ok (.iload_n 1, 1) := by decide +kernel
theorem dX10_in_2 : decode cX10_in 2 = .ok (.if_icmp .lt 12, 3) := by decide +kernel
theorem dX10_in_5 : decode cX10_in 5 = .ok (.iload_n 0, 1) := by decide +kernel
theorem dX10_in_6 : decode cX10_in 6 = .ok (.iload_n 2, 1) := by decide +kernel
theorem dX10_in_7 : decode cX10_in 7 = .ok (.if_icmp .gt 7, 3) := by decide +kernel
theorem dX10_in_10 : decode cX10_in 10 = .ok (.iconst 1, 1) := by decide +kernel
theorem dX10_in_11 : decode cX10_in 11 = .ok (.goto 4, 3) := by decide +kernel
theorem dX10_in_14 : decode cX10_in 14 = .ok (.iconst 0, 1) := by decide +kernel
theorem dX10_in_15 : decode cX10_in 15 = .ok (.ireturn, 1) := by decide +kernel
theorem dX10_has_0 : decode cX10_has 0 = .ok (.iload_n 0, 1) := by decide +kernel
theorem dX10_has_1 : decode cX10_has 1 = .ok (.iload_n 1, 1) := by decide +kernel
theorem dX10_has_2 : decode cX10_has 2 = .ok (.ishr, 1) := by decide +kernel
theorem dX10_has_3 : decode cX10_has 3 = .ok (.iconst 1, 1) := by decide +kernel
theorem dX10_has_4 : decode cX10_has 4 = .ok (.iand, 1) := by decide +kernel
theorem dX10_has_5 : decode cX10_has 5 = .ok (.iconst 1, 1) := by decide +kernel
theorem dX10_has_6 : decode cX10_has 6 = .ok (.if_icmp .ne 7, 3) := by decide +kernel
theorem dX10_has_9 : decode cX10_has 9 = .ok (.iconst 1, 1) := by decide +kernel
theorem dX10_has_10 : decode cX10_has 10 = .ok (.goto 4, 3) := by decide +kernel
theorem dX10_has_13 : decode cX10_has 13 = .ok (.iconst 0, 1) := by decide +kernel
theorem dX10_has_14 : decode cX10_has 14 = .ok (.ireturn, 1) := by decide +kernel
theorem dX10_isHouse_0 : decode cX10_isHouse 0 = .ok (.iload_n 1, 1) := by decide +kernel
theorem dX10_isHouse_1 : decode cX10_isHouse 1 = .ok (.iconst 0, 1) := by decide +kernel
theorem dX10_isHouse_2 : decode cX10_isHouse 2 = .ok (.aload_n 0, 1) := by decide +kernel
theorem dX10_isHouse_3 : decode cX10_isHouse 3 = .ok (.getfield 7, 3) := by decide +kernel
theorem dX10_isHouse_6 : decode cX10_isHouse 6 = .ok (.iconst 1, 1) := by decide +kernel
theorem dX10_isHouse_7 : decode cX10_isHouse 7 = .ok (.isub, 1) := by decide +kernel
theorem dX10_isHouse_8 : decode cX10_isHouse 8 = .ok (.invokestatic 69, 3) := by decide +kernel
theorem dX10_isHouse_11 : decode cX10_isHouse 11 = .ok (.ireturn, 1) := by decide +kernel
theorem dX10_isDeed_0 : decode cX10_isDeed 0 = .ok (.iload_n 1, 1) := by decide +kernel
theorem dX10_isDeed_1 : decode cX10_isDeed 1 = .ok (.iconst 0, 1) := by decide +kernel
theorem dX10_isDeed_2 : decode cX10_isDeed 2 = .ok (.aload_n 0, 1) := by decide +kernel
theorem dX10_isDeed_3 : decode cX10_isDeed 3 = .ok (.getfield 73, 3) := by decide +kernel
theorem dX10_isDeed_6 : decode cX10_isDeed 6 = .ok (.iconst 1, 1) := by decide +kernel
theorem dX10_isDeed_7 : decode cX10_isDeed 7 = .ok (.isub, 1) := by decide +kernel
theorem dX10_isDeed_8 : decode cX10_isDeed 8 = .ok (.invokestatic 69, 3) := by decide +kernel
theorem dX10_isDeed_11 : decode cX10_isDeed 11 = .ok (.ireturn, 1) := by decide +kernel
theorem dX10_plain_0 : decode cX10_plain 0 = .ok (.iconst 0, 1) := by decide +kernel
theorem dX10_plain_1 : decode cX10_plain 1 = .ok (.istore_n 1, 1) := by decide +kernel
theorem dX10_plain_2 : decode cX10_plain 2 = .ok (.iload_n 1, 1) := by decide +kernel
theorem dX10_plain_3 : decode cX10_plain 3 = .ok (.bipush 10, 2) := by decide +kernel
theorem dX10_plain_5 : decode cX10_plain 5 = .ok (.if_icmp .ge 23, 3) := by decide +kernel
theorem dX10_plain_8 : decode cX10_plain 8 = .ok (.aload_n 0, 1) := by decide +kernel
theorem dX10_plain_9 : decode cX10_plain 9 = .ok (.getfield 13, 3) := by decide +kernel
theorem dX10_plain_12 : decode cX10_plain 12 = .ok (.iload_n 1, 1) := by decide +kernel
theorem dX10_plain_13 : decode cX10_plain 13 = .ok (.iconst 1, 1) := by decide +kernel
theorem dX10_plain_14 : decode cX10_plain 14 = .ok (.iastore, 1) := by decide +kernel
theorem dX10_plain_15 : decode cX10_plain 15 = .ok (.aload_n 0, 1) := by decide +kernel
theorem dX10_plain_16 : decode cX10_plain 16 = .ok (.getfield 17, 3) := by decide +kernel
theorem dX10_plain_19 : decode cX10_plain 19 = .ok (.iload_n 1, 1) := by decide +kernel
theorem dX10_plain_20 : decode cX10_plain 20 = .ok (.iconst 1, 1) := by decide +kernel
theorem dX10_plain_21 : decode cX10_plain 21 = .ok (.iastore, 1) := by decide +kernel
theorem dX10_plain_22 : decode cX10_plain 22 = .ok (.iinc 1 1, 3) := by decide +kernel
theorem dX10_plain_25 : decode cX10_plain 25 = .ok (.goto (-23), 3) := by decide +kernel
theorem dX10_plain_28 : decode cX10_plain 28 = .ok (.aload_n 0, 1) := by decide +kernel
theorem dX10_plain_29 : decode cX10_plain 29 = .ok (.iconst 0, 1) := by decide +kernel
theorem dX10_plain_30 : decode cX10_plain 30 = .ok (.putfield 76, 3) := by decide +kernel
theorem dX10_plain_33 : decode cX10_plain 33 = .ok (.aload_n 0, 1) := by decide +kernel
theorem dX10_plain_34 : decode cX10_plain 34 = .ok (.iconst 0, 1) := by decide +kernel
theorem dX10_plain_35 : decode cX10_plain 35 = .ok (.putfield 73, 3) := by decide +kernel
theorem dX10_plain_38 : decode cX10_plain 38 = .ok (.aload_n 0, 1) := by decide +kernel
theorem dX10_plain_39 : decode cX10_plain 39 = .ok (.iconst 0, 1) := by decide +kernel
theorem dX10_plain_40 : decode cX10_plain 40 = .ok (.putfield 79, 3) := by decide +kernel
theorem dX10_plain_43 : decode cX10_plain 43 = .ok (.return_, 1) := by decide +kernel
theorem dX10_layFar_0 : decode cX10_layFar 0 = .ok (.iconst 0, 1) := by decide +kernel
theorem dX10_layFar_1 : decode cX10_layFar 1 = .ok (.istore_n 1, 1) := by decide +kernel
theorem dX10_layFar_2 : decode cX10_layFar 2 = .ok (.iload_n 1, 1) := by decide +kernel
theorem dX10_layFar_3 : decode cX10_layFar 3 = .ok (.aload_n 0, 1) := by decide +kernel
theorem dX10_layFar_4 : decode cX10_layFar 4 = .ok (.getfield 7, 3) := by decide +kernel
theorem dX10_layFar_7 : decode cX10_layFar 7 = .ok (.if_icmp .ge 79, 3) := by decide +kernel
theorem dX10_layFar_10 : decode cX10_layFar 10 = .ok (.iconst 0, 1) := by decide +kernel
theorem dX10_layFar_11 : decode cX10_layFar 11 = .ok (.istore_n 2, 1) := by decide +kernel
theorem dX10_layFar_12 : decode cX10_layFar 12 = .ok (.iload_n 2, 1) := by decide +kernel
theorem dX10_layFar_13 : decode cX10_layFar 13 = .ok (.aload_n 0, 1) := by decide +kernel
theorem dX10_layFar_14 : decode cX10_layFar 14 = .ok (.getfield 7, 3) := by decide +kernel
theorem dX10_layFar_17 : decode cX10_layFar 17 = .ok (.if_icmp .ge 63, 3) := by decide +kernel
theorem dX10_layFar_20 : decode cX10_layFar 20 = .ok (.aload_n 0, 1) := by decide +kernel
theorem dX10_layFar_21 : decode cX10_layFar 21 = .ok (.getfield 29, 3) := by decide +kernel
theorem dX10_layFar_24 : decode cX10_layFar 24 = .ok (.bipush 10, 2) := by decide +kernel
theorem dX10_layFar_26 : decode cX10_layFar 26 = .ok (.iload_n 1, 1) := by decide +kernel
theorem dX10_layFar_27 : decode cX10_layFar 27 = .ok (.imul, 1) := by decide +kernel
theorem dX10_layFar_28 : decode cX10_layFar 28 = .ok (.iload_n 2, 1) := by decide +kernel
theorem dX10_layFar_29 : decode cX10_layFar 29 = .ok (.iadd, 1) := by decide +kernel
theorem dX10_layFar_30 : decode cX10_layFar 30 = .ok (.iload_n 1, 1) := by decide +kernel
theorem dX10_layFar_31 : decode cX10_layFar 31 = .ok (.iload_n 2, 1) := by decide +kernel
theorem dX10_layFar_32 : decode cX10_layFar 32 = .ok (.if_icmp .ne 7, 3) := by decide +kernel
theorem dX10_layFar_35 : decode cX10_layFar 35 = .ok (.iconst 0, 1) := by decide +kernel
theorem dX10_layFar_36 : decode cX10_layFar 36 = .ok (.goto 37, 3) := by decide +kernel
theorem dX10_layFar_39 : decode cX10_layFar 39 = .ok (.iload_n 2, 1) := by decide +kernel
theorem dX10_layFar_40 : decode cX10_layFar 40 = .ok (.iload_n 1, 1) := by decide +kernel
theorem dX10_layFar_41 : decode cX10_layFar 41 = .ok (.iconst 1, 1) := by decide +kernel
theorem dX10_layFar_42 : decode cX10_layFar 42 = .ok (.iadd, 1) := by decide +kernel
theorem dX10_layFar_43 : decode cX10_layFar 43 = .ok (.if_icmp .ne 12, 3) := by decide +kernel
theorem dX10_layFar_46 : decode cX10_layFar 46 = .ok (.aload_n 0, 1) := by decide +kernel
theorem dX10_layFar_47 : decode cX10_layFar 47 = .ok (.getfield 17, 3) := by decide +kernel
theorem dX10_layFar_50 : decode cX10_layFar 50 = .ok (.iload_n 1, 1) := by decide +kernel
theorem dX10_layFar_51 : decode cX10_layFar 51 = .ok (.iaload, 1) := by decide +kernel
theorem dX10_layFar_52 : decode cX10_layFar 52 = .ok (.goto 21, 3) := by decide +kernel
theorem dX10_layFar_55 : decode cX10_layFar 55 = .ok (.iload_n 1, 1) := by decide +kernel
theorem dX10_layFar_56 : decode cX10_layFar 56 = .ok (.iload_n 2, 1) := by decide +kernel
theorem dX10_layFar_57 : decode cX10_layFar 57 = .ok (.iconst 1, 1) := by decide +kernel
theorem dX10_layFar_58 : decode cX10_layFar 58 = .ok (.iadd, 1) := by decide +kernel
theorem dX10_layFar_59 : decode cX10_layFar 59 = .ok (.if_icmp .ne 12, 3) := by decide +kernel
theorem dX10_layFar_62 : decode cX10_layFar 62 = .ok (.aload_n 0, 1) := by decide +kernel
theorem dX10_layFar_63 : decode cX10_layFar 63 = .ok (.getfield 17, 3) := by decide +kernel
theorem dX10_layFar_66 : decode cX10_layFar 66 = .ok (.iload_n 2, 1) := by decide +kernel
theorem dX10_layFar_67 : decode cX10_layFar 67 = .ok (.iaload, 1) := by decide +kernel
theorem dX10_layFar_68 : decode cX10_layFar 68 = .ok (.goto 5, 3) := by decide +kernel
theorem dX10_layFar_71 : decode cX10_layFar 71 = .ok (.ldc 82, 2) := by decide +kernel
theorem dX10_layFar_73 : decode cX10_layFar 73 = .ok (.iastore, 1) := by decide +kernel
theorem dX10_layFar_74 : decode cX10_layFar 74 = .ok (.iinc 2 1, 3) := by decide +kernel
theorem dX10_layFar_77 : decode cX10_layFar 77 = .ok (.goto (-65), 3) := by decide +kernel
theorem dX10_layFar_80 : decode cX10_layFar 80 = .ok (.iinc 1 1, 3) := by decide +kernel
theorem dX10_layFar_83 : decode cX10_layFar 83 = .ok (.goto (-81), 3) := by decide +kernel
theorem dX10_layFar_86 : decode cX10_layFar 86 = .ok (.iconst 0, 1) := by decide +kernel
theorem dX10_layFar_87 : decode cX10_layFar 87 = .ok (.istore_n 1, 1) := by decide +kernel
theorem dX10_layFar_88 : decode cX10_layFar 88 = .ok (.iload_n 1, 1) := by decide +kernel
theorem dX10_layFar_89 : decode cX10_layFar 89 = .ok (.aload_n 0, 1) := by decide +kernel
theorem dX10_layFar_90 : decode cX10_layFar 90 = .ok (.getfield 76, 3) := by decide +kernel
theorem dX10_layFar_93 : decode cX10_layFar 93 = .ok (.if_icmp .ge 105, 3) := by decide +kernel
theorem dX10_layFar_96 : decode cX10_layFar 96 = .ok (.aload_n 0, 1) := by decide +kernel
theorem dX10_layFar_97 : decode cX10_layFar 97 = .ok (.getfield 20, 3) := by decide +kernel
theorem dX10_layFar_100 : decode cX10_layFar 100 = .ok (.iconst 3, 1) := by decide +kernel
theorem dX10_layFar_101 : decode cX10_layFar 101 = .ok (.iload_n 1, 1) := by decide +kernel
theorem dX10_layFar_102 : decode cX10_layFar 102 = .ok (.imul, 1) := by decide +kernel
theorem dX10_layFar_103 : decode cX10_layFar 103 = .ok (.iaload, 1) := by decide +kernel
theorem dX10_layFar_104 : decode cX10_layFar 104 = .ok (.istore_n 2, 1) := by decide +kernel
theorem dX10_layFar_105 : decode cX10_layFar 105 = .ok (.aload_n 0, 1) := by decide +kernel
theorem dX10_layFar_106 : decode cX10_layFar 106 = .ok (.getfield 20, 3) := by decide +kernel
theorem dX10_layFar_109 : decode cX10_layFar 109 = .ok (.iconst 3, 1) := by decide +kernel
theorem dX10_layFar_110 : decode cX10_layFar 110 = .ok (.iload_n 1, 1) := by decide +kernel
theorem dX10_layFar_111 : decode cX10_layFar 111 = .ok (.imul, 1) := by decide +kernel
theorem dX10_layFar_112 : decode cX10_layFar 112 = .ok (.iconst 1, 1) := by decide +kernel
theorem dX10_layFar_113 : decode cX10_layFar 113 = .ok (.iadd, 1) := by decide +kernel
theorem dX10_layFar_114 : decode cX10_layFar 114 = .ok (.iaload, 1) := by decide +kernel
theorem dX10_layFar_115 : decode cX10_layFar 115 = .ok (.istore_n 3, 1) := by decide +kernel
theorem dX10_layFar_116 : decode cX10_layFar 116 = .ok (.aload_n 0, 1) := by decide +kernel
theorem dX10_layFar_117 : decode cX10_layFar 117 = .ok (.getfield 20, 3) := by decide +kernel
theorem dX10_layFar_120 : decode cX10_layFar 120 = .ok (.iconst 3, 1) := by decide +kernel
theorem dX10_layFar_121 : decode cX10_layFar 121 = .ok (.iload_n 1, 1) := by decide +kernel
theorem dX10_layFar_122 : decode cX10_layFar 122 = .ok (.imul, 1) := by decide +kernel
theorem dX10_layFar_123 : decode cX10_layFar 123 = .ok (.iconst 2, 1) := by decide +kernel
theorem dX10_layFar_124 : decode cX10_layFar 124 = .ok (.iadd, 1) := by decide +kernel
theorem dX10_layFar_125 : decode cX10_layFar 125 = .ok (.iaload, 1) := by decide +kernel
theorem dX10_layFar_126 : decode cX10_layFar 126 = .ok (.aload_n 0, 1) := by decide +kernel
theorem dX10_layFar_127 : decode cX10_layFar 127 = .ok (.getfield 29, 3) := by decide +kernel
theorem dX10_layFar_130 : decode cX10_layFar 130 = .ok (.bipush 10, 2) := by decide +kernel
theorem dX10_layFar_132 : decode cX10_layFar 132 = .ok (.iload_n 2, 1) := by decide +kernel
theorem dX10_layFar_133 : decode cX10_layFar 133 = .ok (.imul, 1) := by decide +kernel
theorem dX10_layFar_134 : decode cX10_layFar 134 = .ok (.iload_n 3, 1) := by decide +kernel
theorem dX10_layFar_135 : decode cX10_layFar 135 = .ok (.iadd, 1) := by decide +kernel
theorem dX10_layFar_136 : decode cX10_layFar 136 = .ok (.iaload, 1) := by decide +kernel
theorem dX10_layFar_137 : decode cX10_layFar 137 = .ok (.if_icmp .ge 16, 3) := by decide +kernel
theorem dX10_layFar_140 : decode cX10_layFar 140 = .ok (.aload_n 0, 1) := by decide +kernel
theorem dX10_layFar_141 : decode cX10_layFar 141 = .ok (.getfield 20, 3) := by decide +kernel
theorem dX10_layFar_144 : decode cX10_layFar 144 = .ok (.iconst 3, 1) := by decide +kernel
theorem dX10_layFar_145 : decode cX10_layFar 145 = .ok (.iload_n 1, 1) := by decide +kernel
theorem dX10_layFar_146 : decode cX10_layFar 146 = .ok (.imul, 1) := by decide +kernel
theorem dX10_layFar_147 : decode cX10_layFar 147 = .ok (.iconst 2, 1) := by decide +kernel
theorem dX10_layFar_148 : decode cX10_layFar 148 = .ok (.iadd, 1) := by decide +kernel
theorem dX10_layFar_149 : decode cX10_layFar 149 = .ok (.iaload, 1) := by decide +kernel
theorem dX10_layFar_150 : decode cX10_layFar 150 = .ok (.goto 14, 3) := by decide +kernel
theorem dX10_layFar_153 : decode cX10_layFar 153 = .ok (.aload_n 0, 1) := by decide +kernel
theorem dX10_layFar_154 : decode cX10_layFar 154 = .ok (.getfield 29, 3) := by decide +kernel
theorem dX10_layFar_157 : decode cX10_layFar 157 = .ok (.bipush 10, 2) := by decide +kernel
theorem dX10_layFar_159 : decode cX10_layFar 159 = .ok (.iload_n 2, 1) := by decide +kernel
theorem dX10_layFar_160 : decode cX10_layFar 160 = .ok (.imul, 1) := by decide +kernel
theorem dX10_layFar_161 : decode cX10_layFar 161 = .ok (.iload_n 3, 1) := by decide +kernel
theorem dX10_layFar_162 : decode cX10_layFar 162 = .ok (.iadd, 1) := by decide +kernel
theorem dX10_layFar_163 : decode cX10_layFar 163 = .ok (.iaload, 1) := by decide +kernel
theorem dX10_layFar_164 : decode cX10_layFar 164 = .ok (.istore 4, 2) := by decide +kernel
theorem dX10_layFar_166 : decode cX10_layFar 166 = .ok (.aload_n 0, 1) := by decide +kernel
theorem dX10_layFar_167 : decode cX10_layFar 167 = .ok (.getfield 29, 3) := by decide +kernel
theorem dX10_layFar_170 : decode cX10_layFar 170 = .ok (.bipush 10, 2) := by decide +kernel
theorem dX10_layFar_172 : decode cX10_layFar 172 = .ok (.iload_n 2, 1) := by decide +kernel
theorem dX10_layFar_173 : decode cX10_layFar 173 = .ok (.imul, 1) := by decide +kernel
theorem dX10_layFar_174 : decode cX10_layFar 174 = .ok (.iload_n 3, 1) := by decide +kernel
theorem dX10_layFar_175 : decode cX10_layFar 175 = .ok (.iadd, 1) := by decide +kernel
theorem dX10_layFar_176 : decode cX10_layFar 176 = .ok (.iload 4, 2) := by decide +kernel
theorem dX10_layFar_178 : decode cX10_layFar 178 = .ok (.iastore, 1) := by decide +kernel
theorem dX10_layFar_179 : decode cX10_layFar 179 = .ok (.aload_n 0, 1) := by decide +kernel
theorem dX10_layFar_180 : decode cX10_layFar 180 = .ok (.getfield 29, 3) := by decide +kernel
theorem dX10_layFar_183 : decode cX10_layFar 183 = .ok (.bipush 10, 2) := by decide +kernel
theorem dX10_layFar_185 : decode cX10_layFar 185 = .ok (.iload_n 3, 1) := by decide +kernel
theorem dX10_layFar_186 : decode cX10_layFar 186 = .ok (.imul, 1) := by decide +kernel
theorem dX10_layFar_187 : decode cX10_layFar 187 = .ok (.iload_n 2, 1) := by decide +kernel
theorem dX10_layFar_188 : decode cX10_layFar 188 = .ok (.iadd, 1) := by decide +kernel
theorem dX10_layFar_189 : decode cX10_layFar 189 = .ok (.iload 4, 2) := by decide +kernel
theorem dX10_layFar_191 : decode cX10_layFar 191 = .ok (.iastore, 1) := by decide +kernel
theorem dX10_layFar_192 : decode cX10_layFar 192 = .ok (.iinc 1 1, 3) := by decide +kernel
theorem dX10_layFar_195 : decode cX10_layFar 195 = .ok (.goto (-107), 3) := by decide +kernel
theorem dX10_layFar_198 : decode cX10_layFar 198 = .ok (.iconst 0, 1) := by decide +kernel
theorem dX10_layFar_199 : decode cX10_layFar 199 = .ok (.istore_n 1, 1) := by decide +kernel
theorem dX10_layFar_200 : decode cX10_layFar 200 = .ok (.iload_n 1, 1) := by decide +kernel
theorem dX10_layFar_201 : decode cX10_layFar 201 = .ok (.aload_n 0, 1) := by decide +kernel
theorem dX10_layFar_202 : decode cX10_layFar 202 = .ok (.getfield 7, 3) := by decide +kernel
theorem dX10_layFar_205 : decode cX10_layFar 205 = .ok (.if_icmp .ge 109, 3) := by decide +kernel
theorem dX10_layFar_208 : decode cX10_layFar 208 = .ok (.iconst 0, 1) := by decide +kernel
theorem dX10_layFar_209 : decode cX10_layFar 209 = .ok (.istore_n 2, 1) := by decide +kernel
theorem dX10_layFar_210 : decode cX10_layFar 210 = .ok (.iload_n 2, 1) := by decide +kernel
theorem dX10_layFar_211 : decode cX10_layFar 211 = .ok (.aload_n 0, 1) := by decide +kernel
theorem dX10_layFar_212 : decode cX10_layFar 212 = .ok (.getfield 7, 3) := by decide +kernel
theorem dX10_layFar_215 : decode cX10_layFar 215 = .ok (.if_icmp .ge 93, 3) := by decide +kernel
theorem dX10_layFar_218 : decode cX10_layFar 218 = .ok (.iconst 0, 1) := by decide +kernel
theorem dX10_layFar_219 : decode cX10_layFar 219 = .ok (.istore_n 3, 1) := by decide +kernel
theorem dX10_layFar_220 : decode cX10_layFar 220 = .ok (.iload_n 3, 1) := by decide +kernel
theorem dX10_layFar_221 : decode cX10_layFar 221 = .ok (.aload_n 0, 1) := by decide +kernel
theorem dX10_layFar_222 : decode cX10_layFar 222 = .ok (.getfield 7, 3) := by decide +kernel
theorem dX10_layFar_225 : decode cX10_layFar 225 = .ok (.if_icmp .ge 77, 3) := by decide +kernel
theorem dX10_layFar_228 : decode cX10_layFar 228 = .ok (.aload_n 0, 1) := by decide +kernel
theorem dX10_layFar_229 : decode cX10_layFar 229 = .ok (.getfield 29, 3) := by decide +kernel
theorem dX10_layFar_232 : decode cX10_layFar 232 = .ok (.bipush 10, 2) := by decide +kernel
theorem dX10_layFar_234 : decode cX10_layFar 234 = .ok (.iload_n 2, 1) := by decide +kernel
theorem dX10_layFar_235 : decode cX10_layFar 235 = .ok (.imul, 1) := by decide +kernel
theorem dX10_layFar_236 : decode cX10_layFar 236 = .ok (.iload_n 1, 1) := by decide +kernel
theorem dX10_layFar_237 : decode cX10_layFar 237 = .ok (.iadd, 1) := by decide +kernel
theorem dX10_layFar_238 : decode cX10_layFar 238 = .ok (.iaload, 1) := by decide +kernel
theorem dX10_layFar_239 : decode cX10_layFar 239 = .ok (.aload_n 0, 1) := by decide +kernel
theorem dX10_layFar_240 : decode cX10_layFar 240 = .ok (.getfield 29, 3) := by decide +kernel
theorem dX10_layFar_243 : decode cX10_layFar 243 = .ok (.bipush 10, 2) := by decide +kernel
theorem dX10_layFar_245 : decode cX10_layFar 245 = .ok (.iload_n 1, 1) := by decide +kernel
theorem dX10_layFar_246 : decode cX10_layFar 246 = .ok (.imul, 1) := by decide +kernel
theorem dX10_layFar_247 : decode cX10_layFar 247 = .ok (.iload_n 3, 1) := by decide +kernel
theorem dX10_layFar_248 : decode cX10_layFar 248 = .ok (.iadd, 1) := by decide +kernel
theorem dX10_layFar_249 : decode cX10_layFar 249 = .ok (.iaload, 1) := by decide +kernel
theorem dX10_layFar_250 : decode cX10_layFar 250 = .ok (.iadd, 1) := by decide +kernel
theorem dX10_layFar_251 : decode cX10_layFar 251 = .ok (.istore 4, 2) := by decide +kernel
theorem dX10_layFar_253 : decode cX10_layFar 253 = .ok (.aload_n 0, 1) := by decide +kernel
theorem dX10_layFar_254 : decode cX10_layFar 254 = .ok (.getfield 29, 3) := by decide +kernel
theorem dX10_layFar_257 : decode cX10_layFar 257 = .ok (.bipush 10, 2) := by decide +kernel
theorem dX10_layFar_259 : decode cX10_layFar 259 = .ok (.iload_n 2, 1) := by decide +kernel
theorem dX10_layFar_260 : decode cX10_layFar 260 = .ok (.imul, 1) := by decide +kernel
theorem dX10_layFar_261 : decode cX10_layFar 261 = .ok (.iload_n 3, 1) := by decide +kernel
theorem dX10_layFar_262 : decode cX10_layFar 262 = .ok (.iadd, 1) := by decide +kernel
theorem dX10_layFar_263 : decode cX10_layFar 263 = .ok (.iload 4, 2) := by decide +kernel
theorem dX10_layFar_265 : decode cX10_layFar 265 = .ok (.aload_n 0, 1) := by decide +kernel
theorem dX10_layFar_266 : decode cX10_layFar 266 = .ok (.getfield 29, 3) := by decide +kernel
theorem dX10_layFar_269 : decode cX10_layFar 269 = .ok (.bipush 10, 2) := by decide +kernel
theorem dX10_layFar_271 : decode cX10_layFar 271 = .ok (.iload_n 2, 1) := by decide +kernel
theorem dX10_layFar_272 : decode cX10_layFar 272 = .ok (.imul, 1) := by decide +kernel
theorem dX10_layFar_273 : decode cX10_layFar 273 = .ok (.iload_n 3, 1) := by decide +kernel
theorem dX10_layFar_274 : decode cX10_layFar 274 = .ok (.iadd, 1) := by decide +kernel
theorem dX10_layFar_275 : decode cX10_layFar 275 = .ok (.iaload, 1) := by decide +kernel
theorem dX10_layFar_276 : decode cX10_layFar 276 = .ok (.if_icmp .ge 8, 3) := by decide +kernel
theorem dX10_layFar_279 : decode cX10_layFar 279 = .ok (.iload 4, 2) := by decide +kernel
theorem dX10_layFar_281 : decode cX10_layFar 281 = .ok (.goto 14, 3) := by decide +kernel
theorem dX10_layFar_284 : decode cX10_layFar 284 = .ok (.aload_n 0, 1) := by decide +kernel
theorem dX10_layFar_285 : decode cX10_layFar 285 = .ok (.getfield 29, 3) := by decide +kernel
theorem dX10_layFar_288 : decode cX10_layFar 288 = .ok (.bipush 10, 2) := by decide +kernel
theorem dX10_layFar_290 : decode cX10_layFar 290 = .ok (.iload_n 2, 1) := by decide +kernel
theorem dX10_layFar_291 : decode cX10_layFar 291 = .ok (.imul, 1) := by decide +kernel
theorem dX10_layFar_292 : decode cX10_layFar 292 = .ok (.iload_n 3, 1) := by decide +kernel
theorem dX10_layFar_293 : decode cX10_layFar 293 = .ok (.iadd, 1) := by decide +kernel
theorem dX10_layFar_294 : decode cX10_layFar 294 = .ok (.iaload, 1) := by decide +kernel
theorem dX10_layFar_295 : decode cX10_layFar 295 = .ok (.iastore, 1) := by decide +kernel
theorem dX10_layFar_296 : decode cX10_layFar 296 = .ok (.iinc 3 1, 3) := by decide +kernel
theorem dX10_layFar_299 : decode cX10_layFar 299 = .ok (.goto (-79), 3) := by decide +kernel
theorem dX10_layFar_302 : decode cX10_layFar 302 = .ok (.iinc 2 1, 3) := by decide +kernel
theorem dX10_layFar_305 : decode cX10_layFar 305 = .ok (.goto (-95), 3) := by decide +kernel
theorem dX10_layFar_308 : decode cX10_layFar 308 = .ok (.iinc 1 1, 3) := by decide +kernel
theorem dX10_layFar_311 : decode cX10_layFar 311 = .ok (.goto (-111), 3) := by decide +kernel
theorem dX10_layFar_314 : decode cX10_layFar 314 = .ok (.return_, 1) := by decide +kernel
theorem dX10_write_0 : decode cX10_write 0 = .ok (.iload_n 3, 1) := by decide +kernel
theorem dX10_write_1 : decode cX10_write 1 = .ok (.iconst 1, 1) := by decide +kernel
theorem dX10_write_2 : decode cX10_write 2 = .ok (.bipush 8, 2) := by decide +kernel
theorem dX10_write_4 : decode cX10_write 4 = .ok (.invokestatic 69, 3) := by decide +kernel
theorem dX10_write_7 : decode cX10_write 7 = .ok (.ifCond .ne 6, 3) := by decide +kernel
theorem dX10_write_10 : decode cX10_write 10 = .ok (.bipush (-3), 2) := by decide +kernel
theorem dX10_write_12 : decode cX10_write 12 = .ok (.ireturn, 1) := by decide +kernel
theorem dX10_write_13 : decode cX10_write 13 = .ok (.aload_n 0, 1) := by decide +kernel
theorem dX10_write_14 : decode cX10_write 14 = .ok (.getfield 83, 3) := by decide +kernel
theorem dX10_write_17 : decode cX10_write 17 = .ok (.iload_n 3, 1) := by decide +kernel
theorem dX10_write_18 : decode cX10_write 18 = .ok (.iadd, 1) := by decide +kernel
theorem dX10_write_19 : decode cX10_write 19 = .ok (.sipush 200, 3) := by decide +kernel
theorem dX10_write_22 : decode cX10_write 22 = .ok (.if_icmp .le 6, 3) := by decide +kernel
theorem dX10_write_25 : decode cX10_write 25 = .ok (.bipush (-5), 2) := by decide +kernel
theorem dX10_write_27 : decode cX10_write 27 = .ok (.ireturn, 1) := by decide +kernel
theorem dX10_write_28 : decode cX10_write 28 = .ok (.iconst 0, 1) := by decide +kernel
theorem dX10_write_29 : decode cX10_write 29 = .ok (.istore 4, 2) := by decide +kernel
theorem dX10_write_31 : decode cX10_write 31 = .ok (.iload 4, 2) := by decide +kernel
theorem dX10_write_33 : decode cX10_write 33 = .ok (.iload_n 3, 1) := by decide +kernel
theorem dX10_write_34 : decode cX10_write 34 = .ok (.if_icmp .ge 33, 3) := by decide +kernel
theorem dX10_write_37 : decode cX10_write 37 = .ok (.aload_n 0, 1) := by decide +kernel
theorem dX10_write_38 : decode cX10_write 38 = .ok (.getfield 32, 3) := by decide +kernel
theorem dX10_write_41 : decode cX10_write 41 = .ok (.aload_n 0, 1) := by decide +kernel
theorem dX10_write_42 : decode cX10_write 42 = .ok (.getfield 83, 3) := by decide +kernel
theorem dX10_write_45 : decode cX10_write 45 = .ok (.iload 4, 2) := by decide +kernel
theorem dX10_write_47 : decode cX10_write 47 = .ok (.iadd, 1) := by decide +kernel
theorem dX10_write_48 : decode cX10_write 48 = .ok (.lload_n 1, 1) := by decide +kernel
theorem dX10_write_49 : decode cX10_write 49 = .ok (.bipush 8, 2) := by decide +kernel
theorem dX10_write_51 : decode cX10_write 51 = .ok (.iload 4, 2) := by decide +kernel
theorem dX10_write_53 : decode cX10_write 53 = .ok (.imul, 1) := by decide +kernel
theorem dX10_write_54 : decode cX10_write 54 = .ok (.lshr, 1) := by decide +kernel
theorem dX10_write_55 : decode cX10_write 55 = .ok (.ldc2_w 86, 3) := by decide +kernel
theorem dX10_write_58 : decode cX10_write 58 = .ok (.land, 1) := by decide +kernel
theorem dX10_write_59 : decode cX10_write 59 = .ok (.l2i, 1) := by decide +kernel
theorem dX10_write_60 : decode cX10_write 60 = .ok (.iastore, 1) := by decide +kernel
theorem dX10_write_61 : decode cX10_write 61 = .ok (.iinc 4 1, 3) := by decide +kernel
theorem dX10_write_64 : decode cX10_write 64 = .ok (.goto (-33), 3) := by decide +kernel
theorem dX10_write_67 : decode cX10_write 67 = .ok (.aload_n 0, 1) := by decide +kernel
theorem dX10_write_68 : decode cX10_write 68 = .ok (.dup, 1) := by decide +kernel
theorem dX10_write_69 : decode cX10_write 69 = .ok (.getfield 83, 3) := by decide +kernel
theorem dX10_write_72 : decode cX10_write 72 = .ok (.iload_n 3, 1) := by decide +kernel
theorem dX10_write_73 : decode cX10_write 73 = .ok (.iadd, 1) := by decide +kernel
theorem dX10_write_74 : decode cX10_write 74 = .ok (.putfield 83, 3) := by decide +kernel
theorem dX10_write_77 : decode cX10_write 77 = .ok (.aload_n 0, 1) := by decide +kernel
theorem dX10_write_78 : decode cX10_write 78 = .ok (.getfield 83, 3) := by decide +kernel
theorem dX10_write_81 : decode cX10_write 81 = .ok (.ireturn, 1) := by decide +kernel
theorem dX10_erase_0 : decode cX10_erase 0 = .ok (.aload_n 0, 1) := by decide +kernel
theorem dX10_erase_1 : decode cX10_erase 1 = .ok (.getfield 83, 3) := by decide +kernel
theorem dX10_erase_4 : decode cX10_erase 4 = .ok (.istore_n 1, 1) := by decide +kernel
theorem dX10_erase_5 : decode cX10_erase 5 = .ok (.aload_n 0, 1) := by decide +kernel
theorem dX10_erase_6 : decode cX10_erase 6 = .ok (.iconst 0, 1) := by decide +kernel
theorem dX10_erase_7 : decode cX10_erase 7 = .ok (.putfield 83, 3) := by decide +kernel
theorem dX10_erase_10 : decode cX10_erase 10 = .ok (.iload_n 1, 1) := by decide +kernel
theorem dX10_erase_11 : decode cX10_erase 11 = .ok (.ireturn, 1) := by decide +kernel
theorem dX10_nextToken_0 : decode cX10_nextToken 0 = .ok (.aload_n 0, 1) := by decide +kernel
theorem dX10_nextToken_1 : decode cX10_nextToken 1 = .ok (.getfield 88, 3) := by decide +kernel
theorem dX10_nextToken_4 : decode cX10_nextToken 4 = .ok (.aload_n 0, 1) := by decide +kernel
theorem dX10_nextToken_5 : decode cX10_nextToken 5 = .ok (.getfield 83, 3) := by decide +kernel
theorem dX10_nextToken_8 : decode cX10_nextToken 8 = .ok (.if_icmp .ge 30, 3) := by decide +kernel
theorem dX10_nextToken_11 : decode cX10_nextToken 11 = .ok (.aload_n 0, 1) := by decide +kernel
theorem dX10_nextToken_12 : decode cX10_nextToken 12 = .ok (.getfield 32, 3) := by decide +kernel
theorem dX10_nextToken_15 : decode cX10_nextToken 15 = .ok (.aload_n 0, 1) := by decide +kernel
theorem dX10_nextToken_16 : decode cX10_nextToken 16 = .ok (.getfield 88, 3) := by decide +kernel
theorem dX10_nextToken_19 : decode cX10_nextToken 19 = .ok (.iaload, 1) := by decide +kernel
theorem dX10_nextToken_20 : decode cX10_nextToken 20 = .ok (.bipush 32, 2) := by decide +kernel
theorem dX10_nextToken_22 : decode cX10_nextToken 22 = .ok (.if_icmp .ne 16, 3) := by decide +kernel
theorem dX10_nextToken_25 : decode cX10_nextToken 25 = .ok (.aload_n 0, 1) := by decide +kernel
theorem dX10_nextToken_26 : decode cX10_nextToken 26 = .ok (.dup, 1) := by decide +kernel
theorem dX10_nextToken_27 : decode cX10_nextToken 27 = .ok (.getfield 88, 3) := by decide +kernel
theorem dX10_nextToken_30 : decode cX10_nextToken 30 = .ok (.iconst 1, 1) := by decide +kernel
theorem dX10_nextToken_31 : decode cX10_nextToken 31 = .ok (.iadd, 1) := by decide +kernel
theorem dX10_nextToken_32 : decode cX10_nextToken 32 = .ok (.putfield 88, 3) := by decide +kernel
theorem dX10_nextToken_35 : decode cX10_nextToken 35 = .ok (.goto (-35), 3) := by decide +kernel
theorem dX10_nextToken_38 : decode cX10_nextToken 38 = .ok (.aload_n 0, 1) := by decide +kernel
theorem dX10_nextToken_39 : decode cX10_nextToken 39 = .ok (.aload_n 0, 1) := by decide +kernel
theorem dX10_nextToken_40 : decode cX10_nextToken 40 = .ok (.getfield 88, 3) := by decide +kernel
theorem dX10_nextToken_43 : decode cX10_nextToken 43 = .ok (.putfield 91, 3) := by decide +kernel
theorem dX10_nextToken_46 : decode cX10_nextToken 46 = .ok (.aload_n 0, 1) := by decide +kernel
theorem dX10_nextToken_47 : decode cX10_nextToken 47 = .ok (.iconst 0, 1) := by decide +kernel
theorem dX10_nextToken_48 : decode cX10_nextToken 48 = .ok (.putfield 94, 3) := by decide +kernel
theorem dX10_nextToken_51 : decode cX10_nextToken 51 = .ok (.aload_n 0, 1) := by decide +kernel
theorem dX10_nextToken_52 : decode cX10_nextToken 52 = .ok (.iconst 0, 1) := by decide +kernel
theorem dX10_nextToken_53 : decode cX10_nextToken 53 = .ok (.putfield 97, 3) := by decide +kernel
theorem dX10_nextToken_56 : decode cX10_nextToken 56 = .ok (.aload_n 0, 1) := by decide +kernel
theorem dX10_nextToken_57 : decode cX10_nextToken 57 = .ok (.getfield 88, 3) := by decide +kernel
theorem dX10_nextToken_60 : decode cX10_nextToken 60 = .ok (.aload_n 0, 1) := by decide +kernel
theorem dX10_nextToken_61 : decode cX10_nextToken 61 = .ok (.getfield 83, 3) := by decide +kernel
theorem dX10_nextToken_64 : decode cX10_nextToken 64 = .ok (.if_icmp .ne 13, 3) := by decide +kernel
theorem dX10_nextToken_67 : decode cX10_nextToken 67 = .ok (.aload_n 0, 1) := by decide +kernel
theorem dX10_nextToken_68 : decode cX10_nextToken 68 = .ok (.ldc2_w 100, 3) := by decide +kernel
theorem dX10_nextToken_71 : decode cX10_nextToken 71 = .ok (.putfield 102, 3) := by decide +kernel
theorem dX10_nextToken_74 : decode cX10_nextToken 74 = .ok (.goto 320, 3) := by decide +kernel
theorem dX10_nextToken_77 : decode cX10_nextToken 77 = .ok (.aload_n 0, 1) := by decide +kernel
theorem dX10_nextToken_78 : decode cX10_nextToken 78 = .ok (.getfield 32, 3) := by decide +kernel
theorem dX10_nextToken_81 : decode cX10_nextToken 81 = .ok (.aload_n 0, 1) := by decide +kernel
theorem dX10_nextToken_82 : decode cX10_nextToken 82 = .ok (.getfield 88, 3) := by decide +kernel
theorem dX10_nextToken_85 : decode cX10_nextToken 85 = .ok (.iaload, 1) := by decide +kernel
theorem dX10_nextToken_86 : decode cX10_nextToken 86 = .ok (.bipush 97, 2) := by decide +kernel
theorem dX10_nextToken_88 : decode cX10_nextToken 88 = .ok (.bipush 122, 2) := by decide +kernel
theorem dX10_nextToken_90 : decode cX10_nextToken 90 = .ok (.invokestatic 69, 3) := by decide +kernel
theorem dX10_nextToken_93 : decode cX10_nextToken 93 = .ok (.ifCond .eq 129, 3) := by decide +kernel
theorem dX10_nextToken_96 : decode cX10_nextToken 96 = .ok (.aload_n 0, 1) := by decide +kernel
theorem dX10_nextToken_97 : decode cX10_nextToken 97 = .ok (.lconst 0, 1) := by decide +kernel
theorem dX10_nextToken_98 : decode cX10_nextToken 98 = .ok (.putfield 102, 3) := by decide +kernel
theorem dX10_nextToken_101 : decode cX10_nextToken 101 = .ok (.aload_n 0, 1) := by decide +kernel
theorem dX10_nextToken_102 : decode cX10_nextToken 102 = .ok (.getfield 88, 3) := by decide +kernel
theorem dX10_nextToken_105 : decode cX10_nextToken 105 = .ok (.aload_n 0, 1) := by decide +kernel
theorem dX10_nextToken_106 : decode cX10_nextToken 106 = .ok (.getfield 83, 3) := by decide +kernel
theorem dX10_nextToken_109 : decode cX10_nextToken 109 = .ok (.if_icmp .ge 82, 3) := by decide +kernel
theorem dX10_nextToken_112 : decode cX10_nextToken 112 = .ok (.aload_n 0, 1) := by decide +kernel
theorem dX10_nextToken_113 : decode cX10_nextToken 113 = .ok (.getfield 32, 3) := by decide +kernel
theorem dX10_nextToken_116 : decode cX10_nextToken 116 = .ok (.aload_n 0, 1) := by decide +kernel
theorem dX10_nextToken_117 : decode cX10_nextToken 117 = .ok (.getfield 88, 3) := by decide +kernel
theorem dX10_nextToken_120 : decode cX10_nextToken 120 = .ok (.iaload, 1) := by decide +kernel
theorem dX10_nextToken_121 : decode cX10_nextToken 121 = .ok (.bipush 97, 2) := by decide +kernel
theorem dX10_nextToken_123 : decode cX10_nextToken 123 = .ok (.bipush 122, 2) := by decide +kernel
theorem dX10_nextToken_125 : decode cX10_nextToken 125 = .ok (.invokestatic 69, 3) := by decide +kernel
theorem dX10_nextToken_128 : decode cX10_nextToken 128 = .ok (.ifCond .eq 63, 3) := by decide +kernel
theorem dX10_nextToken_131 : decode cX10_nextToken 131 = .ok (.aload_n 0, 1) := by decide +kernel
theorem dX10_nextToken_132 : decode cX10_nextToken 132 = .ok (.aload_n 0, 1) := by decide +kernel
theorem dX10_nextToken_133 : decode cX10_nextToken 133 = .ok (.getfield 88, 3) := by decide +kernel
theorem dX10_nextToken_136 : decode cX10_nextToken 136 = .ok (.aload_n 0, 1) := by decide +kernel
theorem dX10_nextToken_137 : decode cX10_nextToken 137 = .ok (.getfield 91, 3) := by decide +kernel
theorem dX10_nextToken_140 : decode cX10_nextToken 140 = .ok (.isub, 1) := by decide +kernel
theorem dX10_nextToken_141 : decode cX10_nextToken 141 = .ok (.bipush 9, 2) := by decide +kernel
theorem dX10_nextToken_143 : decode cX10_nextToken 143 = .ok (.if_icmp .ge 29, 3) := by decide +kernel
theorem dX10_nextToken_146 : decode cX10_nextToken 146 = .ok (.ldc2_w 106, 3) := by decide +kernel
theorem dX10_nextToken_149 : decode cX10_nextToken 149 = .ok (.aload_n 0, 1) := by decide +kernel
theorem dX10_nextToken_150 : decode cX10_nextToken 150 = .ok (.getfield 102, 3) := by decide +kernel
theorem dX10_nextToken_153 : decode cX10_nextToken 153 = .ok (.lmul, 1) := by decide +kernel
theorem dX10_nextToken_154 : decode cX10_nextToken 154 = .ok (.aload_n 0, 1) := by decide +kernel
theorem dX10_nextToken_155 : decode cX10_nextToken 155 = .ok (.getfield 32, 3) := by decide +kernel
theorem dX10_nextToken_158 : decode cX10_nextToken 158 = .ok (.aload_n 0, 1) := by decide +kernel
theorem dX10_nextToken_159 : decode cX10_nextToken 159 = .ok (.getfield 88, 3) := by decide +kernel
theorem dX10_nextToken_162 : decode cX10_nextToken 162 = .ok (.iaload, 1) := by decide +kernel
theorem dX10_nextToken_163 : decode cX10_nextToken 163 = .ok (.i2l, 1) := by decide +kernel
theorem dX10_nextToken_164 : decode cX10_nextToken 164 = .ok (.ladd, 1) := by decide +kernel
theorem dX10_nextToken_165 : decode cX10_nextToken 165 = .ok (.ldc2_w 108, 3) := by decide +kernel
theorem dX10_nextToken_168 : decode cX10_nextToken 168 = .ok (.lsub, 1) := by decide +kernel
theorem dX10_nextToken_169 : decode cX10_nextToken 169 = .ok (.goto 6, 3) := by decide +kernel
theorem dX10_nextToken_172 : decode cX10_nextToken 172 = .ok (.ldc2_w 110, 3) := by decide +kernel
theorem dX10_nextToken_175 : decode cX10_nextToken 175 = .ok (.putfield 102, 3) := by decide +kernel
theorem dX10_nextToken_178 : decode cX10_nextToken 178 = .ok (.aload_n 0, 1) := by decide +kernel
theorem dX10_nextToken_179 : decode cX10_nextToken 179 = .ok (.dup, 1) := by decide +kernel
theorem dX10_nextToken_180 : decode cX10_nextToken 180 = .ok (.getfield 88, 3) := by decide +kernel
theorem dX10_nextToken_183 : decode cX10_nextToken 183 = .ok (.iconst 1, 1) := by decide +kernel
theorem dX10_nextToken_184 : decode cX10_nextToken 184 = .ok (.iadd, 1) := by decide +kernel
theorem dX10_nextToken_185 : decode cX10_nextToken 185 = .ok (.putfield 88, 3) := by decide +kernel
theorem dX10_nextToken_188 : decode cX10_nextToken 188 = .ok (.goto (-87), 3) := by decide +kernel
theorem dX10_nextToken_191 : decode cX10_nextToken 191 = .ok (.aload_n 0, 1) := by decide +kernel
theorem dX10_nextToken_192 : decode cX10_nextToken 192 = .ok (.aload_n 0, 1) := by decide +kernel
theorem dX10_nextToken_193 : decode cX10_nextToken 193 = .ok (.getfield 88, 3) := by decide +kernel
theorem dX10_nextToken_196 : decode cX10_nextToken 196 = .ok (.aload_n 0, 1) := by decide +kernel
theorem dX10_nextToken_197 : decode cX10_nextToken 197 = .ok (.getfield 91, 3) := by decide +kernel
theorem dX10_nextToken_200 : decode cX10_nextToken 200 = .ok (.isub, 1) := by decide +kernel
theorem dX10_nextToken_201 : decode cX10_nextToken 201 = .ok (.bipush 9, 2) := by decide +kernel
theorem dX10_nextToken_203 : decode cX10_nextToken 203 = .ok (.if_icmp .le 9, 3) := by decide +kernel
theorem dX10_nextToken_206 : decode cX10_nextToken 206 = .ok (.ldc2_w 110, 3) := by decide +kernel
theorem dX10_nextToken_209 : decode cX10_nextToken 209 = .ok (.goto 7, 3) := by decide +kernel
theorem dX10_nextToken_212 : decode cX10_nextToken 212 = .ok (.aload_n 0, 1) := by decide +kernel
theorem dX10_nextToken_213 : decode cX10_nextToken 213 = .ok (.getfield 102, 3) := by decide +kernel
theorem dX10_nextToken_216 : decode cX10_nextToken 216 = .ok (.putfield 102, 3) := by decide +kernel
theorem dX10_nextToken_219 : decode cX10_nextToken 219 = .ok (.goto 175, 3) := by decide +kernel
theorem dX10_nextToken_222 : decode cX10_nextToken 222 = .ok (.aload_n 0, 1) := by decide +kernel
theorem dX10_nextToken_223 : decode cX10_nextToken 223 = .ok (.getfield 32, 3) := by decide +kernel
theorem dX10_nextToken_226 : decode cX10_nextToken 226 = .ok (.aload_n 0, 1) := by decide +kernel
theorem dX10_nextToken_227 : decode cX10_nextToken 227 = .ok (.getfield 88, 3) := by decide +kernel
theorem dX10_nextToken_230 : decode cX10_nextToken 230 = .ok (.iaload, 1) := by decide +kernel
theorem dX10_nextToken_231 : decode cX10_nextToken 231 = .ok (.bipush 48, 2) := by decide +kernel
theorem dX10_nextToken_233 : decode cX10_nextToken 233 = .ok (.bipush 57, 2) := by decide +kernel
theorem dX10_nextToken_235 : decode cX10_nextToken 235 = .ok (.invokestatic 69, 3) := by decide +kernel
theorem dX10_nextToken_238 : decode cX10_nextToken 238 = .ok (.ifCond .eq 119, 3) := by decide +kernel
theorem dX10_nextToken_241 : decode cX10_nextToken 241 = .ok (.aload_n 0, 1) := by decide +kernel
theorem dX10_nextToken_242 : decode cX10_nextToken 242 = .ok (.getfield 88, 3) := by decide +kernel
theorem dX10_nextToken_245 : decode cX10_nextToken 245 = .ok (.aload_n 0, 1) := by decide +kernel
theorem dX10_nextToken_246 : decode cX10_nextToken 246 = .ok (.getfield 83, 3) := by decide +kernel
theorem dX10_nextToken_249 : decode cX10_nextToken 249 = .ok (.if_icmp .ge 84, 3) := by decide +kernel
theorem dX10_nextToken_252 : decode cX10_nextToken 252 = .ok (.aload_n 0, 1) := by decide +kernel
theorem dX10_nextToken_253 : decode cX10_nextToken 253 = .ok (.getfield 32, 3) := by decide +kernel
theorem dX10_nextToken_256 : decode cX10_nextToken 256 = .ok (.aload_n 0, 1) := by decide +kernel
theorem dX10_nextToken_257 : decode cX10_nextToken 257 = .ok (.getfield 88, 3) := by decide +kernel
theorem dX10_nextToken_260 : decode cX10_nextToken 260 = .ok (.iaload, 1) := by decide +kernel
theorem dX10_nextToken_261 : decode cX10_nextToken 261 = .ok (.bipush 48, 2) := by decide +kernel
theorem dX10_nextToken_263 : decode cX10_nextToken 263 = .ok (.bipush 57, 2) := by decide +kernel
theorem dX10_nextToken_265 : decode cX10_nextToken 265 = .ok (.invokestatic 69, 3) := by decide +kernel
theorem dX10_nextToken_268 : decode cX10_nextToken 268 = .ok (.ifCond .eq 65, 3) := by decide +kernel
theorem dX10_nextToken_271 : decode cX10_nextToken 271 = .ok (.aload_n 0, 1) := by decide +kernel
theorem dX10_nextToken_272 : decode cX10_nextToken 272 = .ok (.aload_n 0, 1) := by decide +kernel
theorem dX10_nextToken_273 : decode cX10_nextToken 273 = .ok (.getfield 94, 3) := by decide +kernel
theorem dX10_nextToken_276 : decode cX10_nextToken 276 = .ok (.iconst 4, 1) := by decide +kernel
theorem dX10_nextToken_277 : decode cX10_nextToken 277 = .ok (.if_icmp .ge 26, 3) := by decide +kernel
theorem dX10_nextToken_280 : decode cX10_nextToken 280 = .ok (.bipush 10, 2) := by decide +kernel
theorem dX10_nextToken_282 : decode cX10_nextToken 282 = .ok (.aload_n 0, 1) := by decide +kernel
theorem dX10_nextToken_283 : decode cX10_nextToken 283 = .ok (.getfield 97, 3) := by decide +kernel
theorem dX10_nextToken_286 : decode cX10_nextToken 286 = .ok (.imul, 1) := by decide +kernel
theorem dX10_nextToken_287 : decode cX10_nextToken 287 = .ok (.aload_n 0, 1) := by decide +kernel
theorem dX10_nextToken_288 : decode cX10_nextToken 288 = .ok (.getfield 32, 3) := by decide +kernel
theorem dX10_nextToken_291 : decode cX10_nextToken 291 = .ok (.aload_n 0, 1) := by decide +kernel
theorem dX10_nextToken_292 : decode cX10_nextToken 292 = .ok (.getfield 88, 3) := by decide +kernel
theorem dX10_nextToken_295 : decode cX10_nextToken 295 = .ok (.iaload, 1) := by decide +kernel
theorem dX10_nextToken_296 : decode cX10_nextToken 296 = .ok (.iadd, 1) := by decide +kernel
theorem dX10_nextToken_297 : decode cX10_nextToken 297 = .ok (.bipush 48, 2) := by decide +kernel
theorem dX10_nextToken_299 : decode cX10_nextToken 299 = .ok (.isub, 1) := by decide +kernel
theorem dX10_nextToken_300 : decode cX10_nextToken 300 = .ok (.goto 7, 3) := by decide +kernel
theorem dX10_nextToken_303 : decode cX10_nextToken 303 = .ok (.aload_n 0, 1) := by decide +kernel
theorem dX10_nextToken_304 : decode cX10_nextToken 304 = .ok (.getfield 97, 3) := by decide +kernel
theorem dX10_nextToken_307 : decode cX10_nextToken 307 = .ok (.putfield 97, 3) := by decide +kernel
theorem dX10_nextToken_310 : decode cX10_nextToken 310 = .ok (.aload_n 0, 1) := by decide +kernel
theorem dX10_nextToken_311 : decode cX10_nextToken 311 = .ok (.dup, 1) := by decide +kernel
theorem dX10_nextToken_312 : decode cX10_nextToken 312 = .ok (.getfield 94, 3) := by decide +kernel
theorem dX10_nextToken_315 : decode cX10_nextToken 315 = .ok (.iconst 1, 1) := by decide +kernel
theorem dX10_nextToken_316 : decode cX10_nextToken 316 = .ok (.iadd, 1) := by decide +kernel
theorem dX10_nextToken_317 : decode cX10_nextToken 317 = .ok (.putfield 94, 3) := by decide +kernel
theorem dX10_nextToken_320 : decode cX10_nextToken 320 = .ok (.aload_n 0, 1) := by decide +kernel
theorem dX10_nextToken_321 : decode cX10_nextToken 321 = .ok (.dup, 1) := by decide +kernel
theorem dX10_nextToken_322 : decode cX10_nextToken 322 = .ok (.getfield 88, 3) := by decide +kernel
theorem dX10_nextToken_325 : decode cX10_nextToken 325 = .ok (.iconst 1, 1) := by decide +kernel
theorem dX10_nextToken_326 : decode cX10_nextToken 326 = .ok (.iadd, 1) := by decide +kernel
theorem dX10_nextToken_327 : decode cX10_nextToken 327 = .ok (.putfield 88, 3) := by decide +kernel
theorem dX10_nextToken_330 : decode cX10_nextToken 330 = .ok (.goto (-89), 3) := by decide +kernel
theorem dX10_nextToken_333 : decode cX10_nextToken 333 = .ok (.aload_n 0, 1) := by decide +kernel
theorem dX10_nextToken_334 : decode cX10_nextToken 334 = .ok (.aload_n 0, 1) := by decide +kernel
theorem dX10_nextToken_335 : decode cX10_nextToken 335 = .ok (.getfield 94, 3) := by decide +kernel
theorem dX10_nextToken_338 : decode cX10_nextToken 338 = .ok (.iconst 4, 1) := by decide +kernel
theorem dX10_nextToken_339 : decode cX10_nextToken 339 = .ok (.if_icmp .le 9, 3) := by decide +kernel
theorem dX10_nextToken_342 : decode cX10_nextToken 342 = .ok (.ldc2_w 110, 3) := by decide +kernel
theorem dX10_nextToken_345 : decode cX10_nextToken 345 = .ok (.goto 6, 3) := by decide +kernel
theorem dX10_nextToken_348 : decode cX10_nextToken 348 = .ok (.ldc2_w 112, 3) := by decide +kernel
theorem dX10_nextToken_351 : decode cX10_nextToken 351 = .ok (.putfield 102, 3) := by decide +kernel
theorem dX10_nextToken_354 : decode cX10_nextToken 354 = .ok (.goto 40, 3) := by decide +kernel
theorem dX10_nextToken_357 : decode cX10_nextToken 357 = .ok (.aload_n 0, 1) := by decide +kernel
theorem dX10_nextToken_358 : decode cX10_nextToken 358 = .ok (.aload_n 0, 1) := by decide +kernel
theorem dX10_nextToken_359 : decode cX10_nextToken 359 = .ok (.getfield 32, 3) := by decide +kernel
theorem dX10_nextToken_362 : decode cX10_nextToken 362 = .ok (.aload_n 0, 1) := by decide +kernel
theorem dX10_nextToken_363 : decode cX10_nextToken 363 = .ok (.getfield 88, 3) := by decide +kernel
theorem dX10_nextToken_366 : decode cX10_nextToken 366 = .ok (.iaload, 1) := by decide +kernel
theorem dX10_nextToken_367 : decode cX10_nextToken 367 = .ok (.bipush 59, 2) := by decide +kernel
theorem dX10_nextToken_369 : decode cX10_nextToken 369 = .ok (.if_icmp .ne 9, 3) := by decide +kernel
theorem dX10_nextToken_372 : decode cX10_nextToken 372 = .ok (.ldc2_w 114, 3) := by decide +kernel
theorem dX10_nextToken_375 : decode cX10_nextToken 375 = .ok (.goto 6, 3) := by decide +kernel
theorem dX10_nextToken_378 : decode cX10_nextToken 378 = .ok (.ldc2_w 110, 3) := by decide +kernel
theorem dX10_nextToken_381 : decode cX10_nextToken 381 = .ok (.putfield 102, 3) := by decide +kernel
theorem dX10_nextToken_384 : decode cX10_nextToken 384 = .ok (.aload_n 0, 1) := by decide +kernel
theorem dX10_nextToken_385 : decode cX10_nextToken 385 = .ok (.dup, 1) := by decide +kernel
theorem dX10_nextToken_386 : decode cX10_nextToken 386 = .ok (.getfield 88, 3) := by decide +kernel
theorem dX10_nextToken_389 : decode cX10_nextToken 389 = .ok (.iconst 1, 1) := by decide +kernel
theorem dX10_nextToken_390 : decode cX10_nextToken 390 = .ok (.iadd, 1) := by decide +kernel
theorem dX10_nextToken_391 : decode cX10_nextToken 391 = .ok (.putfield 88, 3) := by decide +kernel
theorem dX10_nextToken_394 : decode cX10_nextToken 394 = .ok (.return_, 1) := by decide +kernel
theorem dX10_fails_0 : decode cX10_fails 0 = .ok (.aload_n 0, 1) := by decide +kernel
theorem dX10_fails_1 : decode cX10_fails 1 = .ok (.aload_n 0, 1) := by decide +kernel
theorem dX10_fails_2 : decode cX10_fails 2 = .ok (.getfield 91, 3) := by decide +kernel
theorem dX10_fails_5 : decode cX10_fails 5 = .ok (.putfield 116, 3) := by decide +kernel
theorem dX10_fails_8 : decode cX10_fails 8 = .ok (.iconst 0, 1) := by decide +kernel
theorem dX10_fails_9 : decode cX10_fails 9 = .ok (.ireturn, 1) := by decide +kernel
theorem dX10_isNumber_0 : decode cX10_isNumber 0 = .ok (.aload_n 0, 1) := by decide +kernel
theorem dX10_isNumber_1 : decode cX10_isNumber 1 = .ok (.invokevirtual 119, 3) := by decide +kernel
theorem dX10_isNumber_4 : decode cX10_isNumber 4 = .ok (.aload_n 0, 1) := by decide +kernel
theorem dX10_isNumber_5 : decode cX10_isNumber 5 = .ok (.getfield 102, 3) := by decide +kernel
theorem dX10_isNumber_8 : decode cX10_isNumber 8 = .ok (.ldc2_w 112, 3) := by decide +kernel
theorem dX10_isNumber_11 : decode cX10_isNumber 11 = .ok (.lcmp, 1) := by decide +kernel
theorem dX10_isNumber_12 : decode cX10_isNumber 12 = .ok (.ifCond .ne 15, 3) := by decide +kernel
theorem dX10_isNumber_15 : decode cX10_isNumber 15 = .ok (.aload_n 0, 1) := by decide +kernel
theorem dX10_isNumber_16 : decode cX10_isNumber 16 = .ok (.getfield 97, 3) := by decide +kernel
theorem dX10_isNumber_19 : decode cX10_isNumber 19 = .ok (.iload_n 2, 1) := by decide +kernel
theorem dX10_isNumber_20 : decode cX10_isNumber 20 = .ok (.iload_n 3, 1) := by decide +kernel
theorem dX10_isNumber_21 : decode cX10_isNumber 21 = .ok (.invokestatic 69, 3) := by decide +kernel
theorem dX10_isNumber_24 : decode cX10_isNumber 24 = .ok (.ifCond .ne 8, 3) := by decide +kernel
theorem dX10_isNumber_27 : decode cX10_isNumber 27 = .ok (.aload_n 0, 1) := by decide +kernel
theorem dX10_isNumber_28 : decode cX10_isNumber 28 = .ok (.invokevirtual 122, 3) := by decide +kernel
theorem dX10_isNumber_31 : decode cX10_isNumber 31 = .ok (.ireturn, 1) := by decide +kernel
theorem dX10_isNumber_32 : decode cX10_isNumber 32 = .ok (.aload_n 0, 1) := by decide +kernel
theorem dX10_isNumber_33 : decode cX10_isNumber 33 = .ok (.getfield 35, 3) := by decide +kernel
theorem dX10_isNumber_36 : decode cX10_isNumber 36 = .ok (.iload_n 1, 1) := by decide +kernel
theorem dX10_isNumber_37 : decode cX10_isNumber 37 = .ok (.aload_n 0, 1) := by decide +kernel
theorem dX10_isNumber_38 : decode cX10_isNumber 38 = .ok (.getfield 97, 3) := by decide +kernel
theorem dX10_isNumber_41 : decode cX10_isNumber 41 = .ok (.iastore, 1) := by decide +kernel
theorem dX10_isNumber_42 : decode cX10_isNumber 42 = .ok (.iconst 1, 1) := by decide +kernel
theorem dX10_isNumber_43 : decode cX10_isNumber 43 = .ok (.ireturn, 1) := by decide +kernel
theorem dX10_isStreet_0 : decode cX10_isStreet 0 = .ok (.aload_n 0, 1) := by decide +kernel
theorem dX10_isStreet_1 : decode cX10_isStreet 1 = .ok (.iload_n 1, 1) := by decide +kernel
theorem dX10_isStreet_2 : decode cX10_isStreet 2 = .ok (.iconst 1, 1) := by decide +kernel
theorem dX10_isStreet_3 : decode cX10_isStreet 3 = .ok (.iadd, 1) := by decide +kernel
theorem dX10_isStreet_4 : decode cX10_isStreet 4 = .ok (.iconst 2, 1) := by decide +kernel
theorem dX10_isStreet_5 : decode cX10_isStreet 5 = .ok (.bipush 10, 2) := by decide +kernel
theorem dX10_isStreet_7 : decode cX10_isStreet 7 = .ok (.invokevirtual 126, 3) := by decide +kernel
theorem dX10_isStreet_10 : decode cX10_isStreet 10 = .ok (.ifCond .ne 5, 3) := by decide +kernel
theorem dX10_isStreet_13 : decode cX10_isStreet 13 = .ok (.iconst 0, 1) := by decide +kernel
theorem dX10_isStreet_14 : decode cX10_isStreet 14 = .ok (.ireturn, 1) := by decide +kernel
theorem dX10_isStreet_15 : decode cX10_isStreet 15 = .ok (.aload_n 0, 1) := by decide +kernel
theorem dX10_isStreet_16 : decode cX10_isStreet 16 = .ok (.aload_n 0, 1) := by decide +kernel
theorem dX10_isStreet_17 : decode cX10_isStreet 17 = .ok (.getfield 35, 3) := by decide +kernel
theorem dX10_isStreet_20 : decode cX10_isStreet 20 = .ok (.iload_n 1, 1) := by decide +kernel
theorem dX10_isStreet_21 : decode cX10_isStreet 21 = .ok (.iconst 1, 1) := by decide +kernel
theorem dX10_isStreet_22 : decode cX10_isStreet 22 = .ok (.iadd, 1) := by decide +kernel
theorem dX10_isStreet_23 : decode cX10_isStreet 23 = .ok (.iaload, 1) := by decide +kernel
theorem dX10_isStreet_24 : decode cX10_isStreet 24 = .ok (.putfield 129, 3) := by decide +kernel
theorem dX10_isStreet_27 : decode cX10_isStreet 27 = .ok (.aload_n 0, 1) := by decide +kernel
theorem dX10_isStreet_28 : decode cX10_isStreet 28 = .ok (.iconst 0, 1) := by decide +kernel
theorem dX10_isStreet_29 : decode cX10_isStreet 29 = .ok (.putfield 132, 3) := by decide +kernel
theorem dX10_isStreet_32 : decode cX10_isStreet 32 = .ok (.aload_n 0, 1) := by decide +kernel
theorem dX10_isStreet_33 : decode cX10_isStreet 33 = .ok (.iconst 0, 1) := by decide +kernel
theorem dX10_isStreet_34 : decode cX10_isStreet 34 = .ok (.putfield 135, 3) := by decide +kernel
theorem dX10_isStreet_37 : decode cX10_isStreet 37 = .ok (.aload_n 0, 1) := by decide +kernel
theorem dX10_isStreet_38 : decode cX10_isStreet 38 = .ok (.iconst 0, 1) := by decide +kernel
theorem dX10_isStreet_39 : decode cX10_isStreet 39 = .ok (.putfield 138, 3) := by decide +kernel
theorem dX10_isStreet_42 : decode cX10_isStreet 42 = .ok (.iconst 1, 1) := by decide +kernel
theorem dX10_isStreet_43 : decode cX10_isStreet 43 = .ok (.ireturn, 1) := by decide +kernel
theorem dX10_isWall_0 : decode cX10_isWall 0 = .ok (.aload_n 0, 1) := by decide +kernel
theorem dX10_isWall_1 : decode cX10_isWall 1 = .ok (.getfield 132, 3) := by decide +kernel
theorem dX10_isWall_4 : decode cX10_isWall 4 = .ok (.bipush 8, 2) := by decide +kernel
theorem dX10_isWall_6 : decode cX10_isWall 6 = .ok (.if_icmp .ne 8, 3) := by decide +kernel
theorem dX10_isWall_9 : decode cX10_isWall 9 = .ok (.aload_n 0, 1) := by decide +kernel
theorem dX10_isWall_10 : decode cX10_isWall 10 = .ok (.invokevirtual 122, 3) := by decide +kernel
theorem dX10_isWall_13 : decode cX10_isWall 13 = .ok (.ireturn, 1) := by decide +kernel
theorem dX10_isWall_14 : decode cX10_isWall 14 = .ok (.aload_n 0, 1) := by decide +kernel
theorem dX10_isWall_15 : decode cX10_isWall 15 = .ok (.dup, 1) := by decide +kernel
theorem dX10_isWall_16 : decode cX10_isWall 16 = .ok (.getfield 132, 3) := by decide +kernel
theorem dX10_isWall_19 : decode cX10_isWall 19 = .ok (.iconst 1, 1) := by decide +kernel
theorem dX10_isWall_20 : decode cX10_isWall 20 = .ok (.iadd, 1) := by decide +kernel
theorem dX10_isWall_21 : decode cX10_isWall 21 = .ok (.putfield 132, 3) := by decide +kernel
theorem dX10_isWall_24 : decode cX10_isWall 24 = .ok (.aload_n 0, 1) := by decide +kernel
theorem dX10_isWall_25 : decode cX10_isWall 25 = .ok (.iload_n 1, 1) := by decide +kernel
theorem dX10_isWall_26 : decode cX10_isWall 26 = .ok (.iconst 1, 1) := by decide +kernel
theorem dX10_isWall_27 : decode cX10_isWall 27 = .ok (.iadd, 1) := by decide +kernel
theorem dX10_isWall_28 : decode cX10_isWall 28 = .ok (.iconst 0, 1) := by decide +kernel
theorem dX10_isWall_29 : decode cX10_isWall 29 = .ok (.aload_n 0, 1) := by decide +kernel
theorem dX10_isWall_30 : decode cX10_isWall 30 = .ok (.getfield 129, 3) := by decide +kernel
theorem dX10_isWall_33 : decode cX10_isWall 33 = .ok (.iconst 1, 1) := by decide +kernel
theorem dX10_isWall_34 : decode cX10_isWall 34 = .ok (.isub, 1) := by decide +kernel
theorem dX10_isWall_35 : decode cX10_isWall 35 = .ok (.invokevirtual 126, 3) := by decide +kernel
theorem dX10_isWall_38 : decode cX10_isWall 38 = .ok (.ifCond .eq 20, 3) := by decide +kernel
theorem dX10_isWall_41 : decode cX10_isWall 41 = .ok (.aload_n 0, 1) := by decide +kernel
theorem dX10_isWall_42 : decode cX10_isWall 42 = .ok (.iload_n 1, 1) := by decide +kernel
theorem dX10_isWall_43 : decode cX10_isWall 43 = .ok (.iconst 2, 1) := by decide +kernel
theorem dX10_isWall_44 : decode cX10_isWall 44 = .ok (.iadd, 1) := by decide +kernel
theorem dX10_isWall_45 : decode cX10_isWall 45 = .ok (.iconst 0, 1) := by decide +kernel
theorem dX10_isWall_46 : decode cX10_isWall 46 = .ok (.aload_n 0, 1) := by decide +kernel
theorem dX10_isWall_47 : decode cX10_isWall 47 = .ok (.getfield 129, 3) := by decide +kernel
theorem dX10_isWall_50 : decode cX10_isWall 50 = .ok (.iconst 1, 1) := by decide +kernel
theorem dX10_isWall_51 : decode cX10_isWall 51 = .ok (.isub, 1) := by decide +kernel
theorem dX10_isWall_52 : decode cX10_isWall 52 = .ok (.invokevirtual 126, 3) := by decide +kernel
theorem dX10_isWall_55 : decode cX10_isWall 55 = .ok (.ifCond .ne 5, 3) := by decide +kernel
theorem dX10_isWall_58 : decode cX10_isWall 58 = .ok (.iconst 0, 1) := by decide +kernel
theorem dX10_isWall_59 : decode cX10_isWall 59 = .ok (.ireturn, 1) := by decide +kernel
theorem dX10_isWall_60 : decode cX10_isWall 60 = .ok (.aload_n 0, 1) := by decide +kernel
theorem dX10_isWall_61 : decode cX10_isWall 61 = .ok (.getfield 35, 3) := by decide +kernel
theorem dX10_isWall_64 : decode cX10_isWall 64 = .ok (.iload_n 1, 1) := by decide +kernel
theorem dX10_isWall_65 : decode cX10_isWall 65 = .ok (.iconst 1, 1) := by decide +kernel
theorem dX10_isWall_66 : decode cX10_isWall 66 = .ok (.iadd, 1) := by decide +kernel
theorem dX10_isWall_67 : decode cX10_isWall 67 = .ok (.iaload, 1) := by decide +kernel
theorem dX10_isWall_68 : decode cX10_isWall 68 = .ok (.aload_n 0, 1) := by decide +kernel
theorem dX10_isWall_69 : decode cX10_isWall 69 = .ok (.getfield 35, 3) := by decide +kernel
theorem dX10_isWall_72 : decode cX10_isWall 72 = .ok (.iload_n 1, 1) := by decide +kernel
theorem dX10_isWall_73 : decode cX10_isWall 73 = .ok (.iconst 2, 1) := by decide +kernel
theorem dX10_isWall_74 : decode cX10_isWall 74 = .ok (.iadd, 1) := by decide +kernel
theorem dX10_isWall_75 : decode cX10_isWall 75 = .ok (.iaload, 1) := by decide +kernel
theorem dX10_isWall_76 : decode cX10_isWall 76 = .ok (.if_icmp .ne 10, 3) := by decide +kernel
theorem dX10_isWall_79 : decode cX10_isWall 79 = .ok (.aload_n 0, 1) := by decide +kernel
theorem dX10_isWall_80 : decode cX10_isWall 80 = .ok (.invokevirtual 122, 3) := by decide +kernel
theorem dX10_isWall_83 : decode cX10_isWall 83 = .ok (.goto 13, 3) := by decide +kernel
theorem dX10_isWall_86 : decode cX10_isWall 86 = .ok (.aload_n 0, 1) := by decide +kernel
theorem dX10_isWall_87 : decode cX10_isWall 87 = .ok (.iload_n 1, 1) := by decide +kernel
theorem dX10_isWall_88 : decode cX10_isWall 88 = .ok (.iconst 3, 1) := by decide +kernel
theorem dX10_isWall_89 : decode cX10_isWall 89 = .ok (.iadd, 1) := by decide +kernel
theorem dX10_isWall_90 : decode cX10_isWall 90 = .ok (.iconst 1, 1) := by decide +kernel
theorem dX10_isWall_91 : decode cX10_isWall 91 = .ok (.bipush 99, 2) := by decide +kernel
theorem dX10_isWall_93 : decode cX10_isWall 93 = .ok (.invokevirtual 126, 3) := by decide +kernel
theorem dX10_isWall_96 : decode cX10_isWall 96 = .ok (.ireturn, 1) := by decide +kernel
theorem dX10_isDeedLine_0 : decode cX10_isDeedLine 0 = .ok (.aload_n 0, 1) := by decide +kernel
theorem dX10_isDeedLine_1 : decode cX10_isDeedLine 1 = .ok (.getfield 135, 3) := by decide +kernel
theorem dX10_isDeedLine_4 : decode cX10_isDeedLine 4 = .ok (.bipush 10, 2) := by decide +kernel
theorem dX10_isDeedLine_6 : decode cX10_isDeedLine 6 = .ok (.if_icmp .ne 8, 3) := by decide +kernel
theorem dX10_isDeedLine_9 : decode cX10_isDeedLine 9 = .ok (.aload_n 0, 1) := by decide +kernel
theorem dX10_isDeedLine_10 : decode cX10_isDeedLine 10 = .ok (.invokevirtual 122, 3) := by decide +kernel
theorem dX10_isDeedLine_13 : decode cX10_isDeedLine 13 = .ok (.ireturn, 1) := by decide +kernel
theorem dX10_isDeedLine_14 : decode cX10_isDeedLine 14 = .ok (.aload_n 0, 1) := by decide +kernel
theorem dX10_isDeedLine_15 : decode cX10_isDeedLine 15 = .ok (.dup, 1) := by decide +kernel
theorem dX10_isDeedLine_16 : decode cX10_isDeedLine 16 = .ok (.getfield 135, 3) := by decide +kernel
theorem dX10_isDeedLine_19 : decode cX10_isDeedLine 19 = .ok (.iconst 1, 1) := by decide +kernel
theorem dX10_isDeedLine_20 : decode cX10_isDeedLine 20 = .ok (.iadd, 1) := by decide +kernel
theorem dX10_isDeedLine_21 : decode cX10_isDeedLine 21 = .ok (.putfield 135, 3) := by decide +kernel
theorem dX10_isDeedLine_24 : decode cX10_isDeedLine 24 = .ok (.aload_n 0, 1) := by decide +kernel
theorem dX10_isDeedLine_25 : decode cX10_isDeedLine 25 = .ok (.iload_n 1, 1) := by decide +kernel
theorem dX10_isDeedLine_26 : decode cX10_isDeedLine 26 = .ok (.iconst 1, 1) := by decide +kernel
theorem dX10_isDeedLine_27 : decode cX10_isDeedLine 27 = .ok (.iadd, 1) := by decide +kernel
theorem dX10_isDeedLine_28 : decode cX10_isDeedLine 28 = .ok (.iconst 0, 1) := by decide +kernel
theorem dX10_isDeedLine_29 : decode cX10_isDeedLine 29 = .ok (.aload_n 0, 1) := by decide +kernel
theorem dX10_isDeedLine_30 : decode cX10_isDeedLine 30 = .ok (.getfield 129, 3) := by decide +kernel
theorem dX10_isDeedLine_33 : decode cX10_isDeedLine 33 = .ok (.iconst 1, 1) := by decide +kernel
theorem dX10_isDeedLine_34 : decode cX10_isDeedLine 34 = .ok (.isub, 1) := by decide +kernel
theorem dX10_isDeedLine_35 : decode cX10_isDeedLine 35 = .ok (.invokevirtual 126, 3) := by decide +kernel
theorem dX10_isDeedLine_38 : decode cX10_isDeedLine 38 = .ok (.ifCond .eq 34, 3) := by decide +kernel
theorem dX10_isDeedLine_41 : decode cX10_isDeedLine 41 = .ok (.aload_n 0, 1) := by decide +kernel
theorem dX10_isDeedLine_42 : decode cX10_isDeedLine 42 = .ok (.iload_n 1, 1) := by decide +kernel
theorem dX10_isDeedLine_43 : decode cX10_isDeedLine 43 = .ok (.iconst 2, 1) := by decide +kernel
theorem dX10_isDeedLine_44 : decode cX10_isDeedLine 44 = .ok (.iadd, 1) := by decide +kernel
theorem dX10_isDeedLine_45 : decode cX10_isDeedLine 45 = .ok (.iconst 0, 1) := by decide +kernel
theorem dX10_isDeedLine_46 : decode cX10_isDeedLine 46 = .ok (.sipush 1439, 3) := by decide +kernel
theorem dX10_isDeedLine_49 : decode cX10_isDeedLine 49 = .ok (.invokevirtual 126, 3) := by decide +kernel
theorem dX10_isDeedLine_52 : decode cX10_isDeedLine 52 = .ok (.ifCond .eq 20, 3) := by decide +kernel
theorem dX10_isDeedLine_55 : decode cX10_isDeedLine 55 = .ok (.aload_n 0, 1) := by decide +kernel
theorem dX10_isDeedLine_56 : decode cX10_isDeedLine 56 = .ok (.iload_n 1, 1) := by decide +kernel
theorem dX10_isDeedLine_57 : decode cX10_isDeedLine 57 = .ok (.iconst 3, 1) := by decide +kernel
theorem dX10_isDeedLine_58 : decode cX10_isDeedLine 58 = .ok (.iadd, 1) := by decide +kernel
theorem dX10_isDeedLine_59 : decode cX10_isDeedLine 59 = .ok (.iconst 0, 1) := by decide +kernel
theorem dX10_isDeedLine_60 : decode cX10_isDeedLine 60 = .ok (.bipush 99, 2) := by decide +kernel
theorem dX10_isDeedLine_62 : decode cX10_isDeedLine 62 = .ok (.invokevirtual 126, 3) := by decide +kernel
theorem dX10_isDeedLine_65 : decode cX10_isDeedLine 65 = .ok (.ifCond .eq 7, 3) := by decide +kernel
theorem dX10_isDeedLine_68 : decode cX10_isDeedLine 68 = .ok (.iconst 1, 1) := by decide +kernel
theorem dX10_isDeedLine_69 : decode cX10_isDeedLine 69 = .ok (.goto 4, 3) := by decide +kernel
theorem dX10_isDeedLine_72 : decode cX10_isDeedLine 72 = .ok (.iconst 0, 1) := by decide +kernel
theorem dX10_isDeedLine_73 : decode cX10_isDeedLine 73 = .ok (.ireturn, 1) := by decide +kernel
theorem dX10_isShop_0 : decode cX10_isShop 0 = .ok (.aload_n 0, 1) := by decide +kernel
theorem dX10_isShop_1 : decode cX10_isShop 1 = .ok (.getfield 138, 3) := by decide +kernel
theorem dX10_isShop_4 : decode cX10_isShop 4 = .ok (.bipush 6, 2) := by decide +kernel
theorem dX10_isShop_6 : decode cX10_isShop 6 = .ok (.if_icmp .ne 8, 3) := by decide +kernel
theorem dX10_isShop_9 : decode cX10_isShop 9 = .ok (.aload_n 0, 1) := by decide +kernel
theorem dX10_isShop_10 : decode cX10_isShop 10 = .ok (.invokevirtual 122, 3) := by decide +kernel
theorem dX10_isShop_13 : decode cX10_isShop 13 = .ok (.ireturn, 1) := by decide +kernel
theorem dX10_isShop_14 : decode cX10_isShop 14 = .ok (.aload_n 0, 1) := by decide +kernel
theorem dX10_isShop_15 : decode cX10_isShop 15 = .ok (.dup, 1) := by decide +kernel
theorem dX10_isShop_16 : decode cX10_isShop 16 = .ok (.getfield 138, 3) := by decide +kernel
theorem dX10_isShop_19 : decode cX10_isShop 19 = .ok (.iconst 1, 1) := by decide +kernel
theorem dX10_isShop_20 : decode cX10_isShop 20 = .ok (.iadd, 1) := by decide +kernel
theorem dX10_isShop_21 : decode cX10_isShop 21 = .ok (.putfield 138, 3) := by decide +kernel
theorem dX10_isShop_24 : decode cX10_isShop 24 = .ok (.aload_n 0, 1) := by decide +kernel
theorem dX10_isShop_25 : decode cX10_isShop 25 = .ok (.iload_n 1, 1) := by decide +kernel
theorem dX10_isShop_26 : decode cX10_isShop 26 = .ok (.iconst 1, 1) := by decide +kernel
theorem dX10_isShop_27 : decode cX10_isShop 27 = .ok (.iadd, 1) := by decide +kernel
theorem dX10_isShop_28 : decode cX10_isShop 28 = .ok (.iconst 0, 1) := by decide +kernel
theorem dX10_isShop_29 : decode cX10_isShop 29 = .ok (.aload_n 0, 1) := by decide +kernel
theorem dX10_isShop_30 : decode cX10_isShop 30 = .ok (.getfield 129, 3) := by decide +kernel
theorem dX10_isShop_33 : decode cX10_isShop 33 = .ok (.iconst 1, 1) := by decide +kernel
theorem dX10_isShop_34 : decode cX10_isShop 34 = .ok (.isub, 1) := by decide +kernel
theorem dX10_isShop_35 : decode cX10_isShop 35 = .ok (.invokevirtual 126, 3) := by decide +kernel
theorem dX10_isShop_38 : decode cX10_isShop 38 = .ok (.ifCond .eq 70, 3) := by decide +kernel
theorem dX10_isShop_41 : decode cX10_isShop 41 = .ok (.aload_n 0, 1) := by decide +kernel
theorem dX10_isShop_42 : decode cX10_isShop 42 = .ok (.iload_n 1, 1) := by decide +kernel
theorem dX10_isShop_43 : decode cX10_isShop 43 = .ok (.iconst 2, 1) := by decide +kernel
theorem dX10_isShop_44 : decode cX10_isShop 44 = .ok (.iadd, 1) := by decide +kernel
theorem dX10_isShop_45 : decode cX10_isShop 45 = .ok (.iconst 0, 1) := by decide +kernel
theorem dX10_isShop_46 : decode cX10_isShop 46 = .ok (.sipush 1439, 3) := by decide +kernel
theorem dX10_isShop_49 : decode cX10_isShop 49 = .ok (.invokevirtual 126, 3) := by decide +kernel
theorem dX10_isShop_52 : decode cX10_isShop 52 = .ok (.ifCond .eq 56, 3) := by decide +kernel
theorem dX10_isShop_55 : decode cX10_isShop 55 = .ok (.aload_n 0, 1) := by decide +kernel
theorem dX10_isShop_56 : decode cX10_isShop 56 = .ok (.iload_n 1, 1) := by decide +kernel
theorem dX10_isShop_57 : decode cX10_isShop 57 = .ok (.iconst 3, 1) := by decide +kernel
theorem dX10_isShop_58 : decode cX10_isShop 58 = .ok (.iadd, 1) := by decide +kernel
theorem dX10_isShop_59 : decode cX10_isShop 59 = .ok (.aload_n 0, 1) := by decide +kernel
theorem dX10_isShop_60 : decode cX10_isShop 60 = .ok (.getfield 35, 3) := by decide +kernel
theorem dX10_isShop_63 : decode cX10_isShop 63 = .ok (.iload_n 1, 1) := by decide +kernel
theorem dX10_isShop_64 : decode cX10_isShop 64 = .ok (.iconst 2, 1) := by decide +kernel
theorem dX10_isShop_65 : decode cX10_isShop 65 = .ok (.iadd, 1) := by decide +kernel
theorem dX10_isShop_66 : decode cX10_isShop 66 = .ok (.iaload, 1) := by decide +kernel
theorem dX10_isShop_67 : decode cX10_isShop 67 = .ok (.iconst 1, 1) := by decide +kernel
theorem dX10_isShop_68 : decode cX10_isShop 68 = .ok (.iadd, 1) := by decide +kernel
theorem dX10_isShop_69 : decode cX10_isShop 69 = .ok (.sipush 1439, 3) := by decide +kernel
theorem dX10_isShop_72 : decode cX10_isShop 72 = .ok (.invokevirtual 126, 3) := by decide +kernel
theorem dX10_isShop_75 : decode cX10_isShop 75 = .ok (.ifCond .eq 33, 3) := by decide +kernel
theorem dX10_isShop_78 : decode cX10_isShop 78 = .ok (.aload_n 0, 1) := by decide +kernel
theorem dX10_isShop_79 : decode cX10_isShop 79 = .ok (.iload_n 1, 1) := by decide +kernel
theorem dX10_isShop_80 : decode cX10_isShop 80 = .ok (.iconst 4, 1) := by decide +kernel
theorem dX10_isShop_81 : decode cX10_isShop 81 = .ok (.iadd, 1) := by decide +kernel
theorem dX10_isShop_82 : decode cX10_isShop 82 = .ok (.iconst 0, 1) := by decide +kernel
theorem dX10_isShop_83 : decode cX10_isShop 83 = .ok (.bipush 99, 2) := by decide +kernel
theorem dX10_isShop_85 : decode cX10_isShop 85 = .ok (.invokevirtual 126, 3) := by decide +kernel
theorem dX10_isShop_88 : decode cX10_isShop 88 = .ok (.ifCond .eq 20, 3) := by decide +kernel
theorem dX10_isShop_91 : decode cX10_isShop 91 = .ok (.aload_n 0, 1) := by decide +kernel
theorem dX10_isShop_92 : decode cX10_isShop 92 = .ok (.iload_n 1, 1) := by decide +kernel
theorem dX10_isShop_93 : decode cX10_isShop 93 = .ok (.iconst 5, 1) := by decide +kernel
theorem dX10_isShop_94 : decode cX10_isShop 94 = .ok (.iadd, 1) := by decide +kernel
theorem dX10_isShop_95 : decode cX10_isShop 95 = .ok (.iconst 0, 1) := by decide +kernel
theorem dX10_isShop_96 : decode cX10_isShop 96 = .ok (.bipush 99, 2) := by decide +kernel
theorem dX10_isShop_98 : decode cX10_isShop 98 = .ok (.invokevirtual 126, 3) := by decide +kernel
theorem dX10_isShop_101 : decode cX10_isShop 101 = .ok (.ifCond .eq 7, 3) := by decide +kernel
theorem dX10_isShop_104 : decode cX10_isShop 104 = .ok (.iconst 1, 1) := by decide +kernel
theorem dX10_isShop_105 : decode cX10_isShop 105 = .ok (.goto 4, 3) := by decide +kernel
theorem dX10_isShop_108 : decode cX10_isShop 108 = .ok (.iconst 0, 1) := by decide +kernel
theorem dX10_isShop_109 : decode cX10_isShop 109 = .ok (.ireturn, 1) := by decide +kernel
theorem dX10_isLine_0 : decode cX10_isLine 0 = .ok (.aload_n 0, 1) := by decide +kernel
theorem dX10_isLine_1 : decode cX10_isLine 1 = .ok (.invokevirtual 119, 3) := by decide +kernel
theorem dX10_isLine_4 : decode cX10_isLine 4 = .ok (.aload_n 0, 1) := by decide +kernel
theorem dX10_isLine_5 : decode cX10_isLine 5 = .ok (.getfield 35, 3) := by decide +kernel
theorem dX10_isLine_8 : decode cX10_isLine 8 = .ok (.iload_n 1, 1) := by decide +kernel
theorem dX10_isLine_9 : decode cX10_isLine 9 = .ok (.aload_n 0, 1) := by decide +kernel
theorem dX10_isLine_10 : decode cX10_isLine 10 = .ok (.getfield 102, 3) := by decide +kernel
theorem dX10_isLine_13 : decode cX10_isLine 13 = .ok (.ldc2_w 141, 3) := by decide +kernel
theorem dX10_isLine_16 : decode cX10_isLine 16 = .ok (.lcmp, 1) := by decide +kernel
theorem dX10_isLine_17 : decode cX10_isLine 17 = .ok (.ifCond .ne 7, 3) := by decide +kernel
theorem dX10_isLine_20 : decode cX10_isLine 20 = .ok (.iconst 0, 1) := by decide +kernel
theorem dX10_isLine_21 : decode cX10_isLine 21 = .ok (.goto 95, 3) := by decide +kernel
theorem dX10_isLine_24 : decode cX10_isLine 24 = .ok (.aload_n 0, 1) := by decide +kernel
theorem dX10_isLine_25 : decode cX10_isLine 25 = .ok (.getfield 102, 3) := by decide +kernel
theorem dX10_isLine_28 : decode cX10_isLine 28 = .ok (.ldc2_w 143, 3) := by decide +kernel
theorem dX10_isLine_31 : decode cX10_isLine 31 = .ok (.lcmp, 1) := by decide +kernel
theorem dX10_isLine_32 : decode cX10_isLine 32 = .ok (.ifCond .ne 7, 3) := by decide +kernel
theorem dX10_isLine_35 : decode cX10_isLine 35 = .ok (.iconst 1, 1) := by decide +kernel
theorem dX10_isLine_36 : decode cX10_isLine 36 = .ok (.goto 80, 3) := by decide +kernel
theorem dX10_isLine_39 : decode cX10_isLine 39 = .ok (.aload_n 0, 1) := by decide +kernel
theorem dX10_isLine_40 : decode cX10_isLine 40 = .ok (.getfield 102, 3) := by decide +kernel
theorem dX10_isLine_43 : decode cX10_isLine 43 = .ok (.ldc2_w 145, 3) := by decide +kernel
theorem dX10_isLine_46 : decode cX10_isLine 46 = .ok (.lcmp, 1) := by decide +kernel
theorem dX10_isLine_47 : decode cX10_isLine 47 = .ok (.ifCond .ne 7, 3) := by decide +kernel
theorem dX10_isLine_50 : decode cX10_isLine 50 = .ok (.iconst 2, 1) := by decide +kernel
theorem dX10_isLine_51 : decode cX10_isLine 51 = .ok (.goto 65, 3) := by decide +kernel
theorem dX10_isLine_54 : decode cX10_isLine 54 = .ok (.aload_n 0, 1) := by decide +kernel
theorem dX10_isLine_55 : decode cX10_isLine 55 = .ok (.getfield 102, 3) := by decide +kernel
theorem dX10_isLine_58 : decode cX10_isLine 58 = .ok (.ldc2_w 147, 3) := by decide +kernel
theorem dX10_isLine_61 : decode cX10_isLine 61 = .ok (.lcmp, 1) := by decide +kernel
theorem dX10_isLine_62 : decode cX10_isLine 62 = .ok (.ifCond .ne 7, 3) := by decide +kernel
theorem dX10_isLine_65 : decode cX10_isLine 65 = .ok (.iconst 3, 1) := by decide +kernel
theorem dX10_isLine_66 : decode cX10_isLine 66 = .ok (.goto 50, 3) := by decide +kernel
theorem dX10_isLine_69 : decode cX10_isLine 69 = .ok (.aload_n 0, 1) := by decide +kernel
theorem dX10_isLine_70 : decode cX10_isLine 70 = .ok (.getfield 102, 3) := by decide +kernel
theorem dX10_isLine_73 : decode cX10_isLine 73 = .ok (.ldc2_w 149, 3) := by decide +kernel
theorem dX10_isLine_76 : decode cX10_isLine 76 = .ok (.lcmp, 1) := by decide +kernel
theorem dX10_isLine_77 : decode cX10_isLine 77 = .ok (.ifCond .ne 7, 3) := by decide +kernel
theorem dX10_isLine_80 : decode cX10_isLine 80 = .ok (.iconst 4, 1) := by decide +kernel
theorem dX10_isLine_81 : decode cX10_isLine 81 = .ok (.goto 35, 3) := by decide +kernel
theorem dX10_isLine_84 : decode cX10_isLine 84 = .ok (.aload_n 0, 1) := by decide +kernel
theorem dX10_isLine_85 : decode cX10_isLine 85 = .ok (.getfield 102, 3) := by decide +kernel
theorem dX10_isLine_88 : decode cX10_isLine 88 = .ok (.ldc2_w 151, 3) := by decide +kernel
theorem dX10_isLine_91 : decode cX10_isLine 91 = .ok (.lcmp, 1) := by decide +kernel
theorem dX10_isLine_92 : decode cX10_isLine 92 = .ok (.ifCond .ne 7, 3) := by decide +kernel
theorem dX10_isLine_95 : decode cX10_isLine 95 = .ok (.iconst 5, 1) := by decide +kernel
theorem dX10_isLine_96 : decode cX10_isLine 96 = .ok (.goto 20, 3) := by decide +kernel
theorem dX10_isLine_99 : decode cX10_isLine 99 = .ok (.aload_n 0, 1) := by decide +kernel
theorem dX10_isLine_100 : decode cX10_isLine 100 = .ok (.getfield 102, 3) := by decide +kernel
theorem dX10_isLine_103 : decode cX10_isLine 103 = .ok (.ldc2_w 153, 3) := by decide +kernel
theorem dX10_isLine_106 : decode cX10_isLine 106 = .ok (.lcmp, 1) := by decide +kernel
theorem dX10_isLine_107 : decode cX10_isLine 107 = .ok (.ifCond .ne 8, 3) := by decide +kernel
theorem dX10_isLine_110 : decode cX10_isLine 110 = .ok (.bipush 6, 2) := by decide +kernel
theorem dX10_isLine_112 : decode cX10_isLine 112 = .ok (.goto 4, 3) := by decide +kernel
theorem dX10_isLine_115 : decode cX10_isLine 115 = .ok (.iconst (-1), 1) := by decide +kernel
theorem dX10_isLine_116 : decode cX10_isLine 116 = .ok (.iastore, 1) := by decide +kernel
theorem dX10_isLine_117 : decode cX10_isLine 117 = .ok (.aload_n 0, 1) := by decide +kernel
theorem dX10_isLine_118 : decode cX10_isLine 118 = .ok (.getfield 35, 3) := by decide +kernel
theorem dX10_isLine_121 : decode cX10_isLine 121 = .ok (.iload_n 1, 1) := by decide +kernel
theorem dX10_isLine_122 : decode cX10_isLine 122 = .ok (.iaload, 1) := by decide +kernel
theorem dX10_isLine_123 : decode cX10_isLine 123 = .ok (.tableswitch 150 0 6 #[41, 47, 84, 120, 126, 132, 138], 41) := by decide +kernel
theorem dX10_isLine_164 : decode cX10_isLine 164 = .ok (.aload_n 0, 1) := by decide +kernel
theorem dX10_isLine_165 : decode cX10_isLine 165 = .ok (.iload_n 1, 1) := by decide +kernel
theorem dX10_isLine_166 : decode cX10_isLine 166 = .ok (.invokevirtual 155, 3) := by decide +kernel
theorem dX10_isLine_169 : decode cX10_isLine 169 = .ok (.ireturn, 1) := by decide +kernel
theorem dX10_isLine_170 : decode cX10_isLine 170 = .ok (.aload_n 0, 1) := by decide +kernel
theorem dX10_isLine_171 : decode cX10_isLine 171 = .ok (.iload_n 1, 1) := by decide +kernel
theorem dX10_isLine_172 : decode cX10_isLine 172 = .ok (.iconst 1, 1) := by decide +kernel
theorem dX10_isLine_173 : decode cX10_isLine 173 = .ok (.iadd, 1) := by decide +kernel
theorem dX10_isLine_174 : decode cX10_isLine 174 = .ok (.iconst 1, 1) := by decide +kernel
theorem dX10_isLine_175 : decode cX10_isLine 175 = .ok (.aload_n 0, 1) := by decide +kernel
theorem dX10_isLine_176 : decode cX10_isLine 176 = .ok (.getfield 129, 3) := by decide +kernel
theorem dX10_isLine_179 : decode cX10_isLine 179 = .ok (.iconst 1, 1) := by decide +kernel
theorem dX10_isLine_180 : decode cX10_isLine 180 = .ok (.isub, 1) := by decide +kernel
theorem dX10_isLine_181 : decode cX10_isLine 181 = .ok (.invokevirtual 126, 3) := by decide +kernel
theorem dX10_isLine_184 : decode cX10_isLine 184 = .ok (.ifCond .eq 21, 3) := by decide +kernel
theorem dX10_isLine_187 : decode cX10_isLine 187 = .ok (.aload_n 0, 1) := by decide +kernel
theorem dX10_isLine_188 : decode cX10_isLine 188 = .ok (.iload_n 1, 1) := by decide +kernel
theorem dX10_isLine_189 : decode cX10_isLine 189 = .ok (.iconst 2, 1) := by decide +kernel
theorem dX10_isLine_190 : decode cX10_isLine 190 = .ok (.iadd, 1) := by decide +kernel
theorem dX10_isLine_191 : decode cX10_isLine 191 = .ok (.iconst 0, 1) := by decide +kernel
theorem dX10_isLine_192 : decode cX10_isLine 192 = .ok (.sipush 999, 3) := by decide +kernel
theorem dX10_isLine_195 : decode cX10_isLine 195 = .ok (.invokevirtual 126, 3) := by decide +kernel
theorem dX10_isLine_198 : decode cX10_isLine 198 = .ok (.ifCond .eq 7, 3) := by decide +kernel
theorem dX10_isLine_201 : decode cX10_isLine 201 = .ok (.iconst 1, 1) := by decide +kernel
theorem dX10_isLine_202 : decode cX10_isLine 202 = .ok (.goto 4, 3) := by decide +kernel
theorem dX10_isLine_205 : decode cX10_isLine 205 = .ok (.iconst 0, 1) := by decide +kernel
theorem dX10_isLine_206 : decode cX10_isLine 206 = .ok (.ireturn, 1) := by decide +kernel
theorem dX10_isLine_207 : decode cX10_isLine 207 = .ok (.aload_n 0, 1) := by decide +kernel
theorem dX10_isLine_208 : decode cX10_isLine 208 = .ok (.iload_n 1, 1) := by decide +kernel
theorem dX10_isLine_209 : decode cX10_isLine 209 = .ok (.iconst 1, 1) := by decide +kernel
theorem dX10_isLine_210 : decode cX10_isLine 210 = .ok (.iadd, 1) := by decide +kernel
theorem dX10_isLine_211 : decode cX10_isLine 211 = .ok (.iconst 0, 1) := by decide +kernel
theorem dX10_isLine_212 : decode cX10_isLine 212 = .ok (.aload_n 0, 1) := by decide +kernel
theorem dX10_isLine_213 : decode cX10_isLine 213 = .ok (.getfield 129, 3) := by decide +kernel
theorem dX10_isLine_216 : decode cX10_isLine 216 = .ok (.iconst 2, 1) := by decide +kernel
theorem dX10_isLine_217 : decode cX10_isLine 217 = .ok (.isub, 1) := by decide +kernel
theorem dX10_isLine_218 : decode cX10_isLine 218 = .ok (.invokevirtual 126, 3) := by decide +kernel
theorem dX10_isLine_221 : decode cX10_isLine 221 = .ok (.ifCond .eq 20, 3) := by decide +kernel
theorem dX10_isLine_224 : decode cX10_isLine 224 = .ok (.aload_n 0, 1) := by decide +kernel
theorem dX10_isLine_225 : decode cX10_isLine 225 = .ok (.iload_n 1, 1) := by decide +kernel
theorem dX10_isLine_226 : decode cX10_isLine 226 = .ok (.iconst 2, 1) := by decide +kernel
theorem dX10_isLine_227 : decode cX10_isLine 227 = .ok (.iadd, 1) := by decide +kernel
theorem dX10_isLine_228 : decode cX10_isLine 228 = .ok (.iconst 1, 1) := by decide +kernel
theorem dX10_isLine_229 : decode cX10_isLine 229 = .ok (.bipush 99, 2) := by decide +kernel
theorem dX10_isLine_231 : decode cX10_isLine 231 = .ok (.invokevirtual 126, 3) := by decide +kernel
theorem dX10_isLine_234 : decode cX10_isLine 234 = .ok (.ifCond .eq 7, 3) := by decide +kernel
theorem dX10_isLine_237 : decode cX10_isLine 237 = .ok (.iconst 1, 1) := by decide +kernel
theorem dX10_isLine_238 : decode cX10_isLine 238 = .ok (.goto 4, 3) := by decide +kernel
theorem dX10_isLine_241 : decode cX10_isLine 241 = .ok (.iconst 0, 1) := by decide +kernel
theorem dX10_isLine_242 : decode cX10_isLine 242 = .ok (.ireturn, 1) := by decide +kernel
theorem dX10_isLine_243 : decode cX10_isLine 243 = .ok (.aload_n 0, 1) := by decide +kernel
theorem dX10_isLine_244 : decode cX10_isLine 244 = .ok (.iload_n 1, 1) := by decide +kernel
theorem dX10_isLine_245 : decode cX10_isLine 245 = .ok (.invokevirtual 159, 3) := by decide +kernel
theorem dX10_isLine_248 : decode cX10_isLine 248 = .ok (.ireturn, 1) := by decide +kernel
theorem dX10_isLine_249 : decode cX10_isLine 249 = .ok (.aload_n 0, 1) := by decide +kernel
theorem dX10_isLine_250 : decode cX10_isLine 250 = .ok (.iload_n 1, 1) := by decide +kernel
theorem dX10_isLine_251 : decode cX10_isLine 251 = .ok (.invokevirtual 162, 3) := by decide +kernel
theorem dX10_isLine_254 : decode cX10_isLine 254 = .ok (.ireturn, 1) := by decide +kernel
theorem dX10_isLine_255 : decode cX10_isLine 255 = .ok (.aload_n 0, 1) := by decide +kernel
theorem dX10_isLine_256 : decode cX10_isLine 256 = .ok (.iload_n 1, 1) := by decide +kernel
theorem dX10_isLine_257 : decode cX10_isLine 257 = .ok (.invokevirtual 165, 3) := by decide +kernel
theorem dX10_isLine_260 : decode cX10_isLine 260 = .ok (.ireturn, 1) := by decide +kernel
theorem dX10_isLine_261 : decode cX10_isLine 261 = .ok (.aload_n 0, 1) := by decide +kernel
theorem dX10_isLine_262 : decode cX10_isLine 262 = .ok (.iconst 0, 1) := by decide +kernel
theorem dX10_isLine_263 : decode cX10_isLine 263 = .ok (.putfield 135, 3) := by decide +kernel
theorem dX10_isLine_266 : decode cX10_isLine 266 = .ok (.aload_n 0, 1) := by decide +kernel
theorem dX10_isLine_267 : decode cX10_isLine 267 = .ok (.iconst 0, 1) := by decide +kernel
theorem dX10_isLine_268 : decode cX10_isLine 268 = .ok (.putfield 138, 3) := by decide +kernel
theorem dX10_isLine_271 : decode cX10_isLine 271 = .ok (.iconst 1, 1) := by decide +kernel
theorem dX10_isLine_272 : decode cX10_isLine 272 = .ok (.ireturn, 1) := by decide +kernel
theorem dX10_isLine_273 : decode cX10_isLine 273 = .ok (.aload_n 0, 1) := by decide +kernel
theorem dX10_isLine_274 : decode cX10_isLine 274 = .ok (.invokevirtual 122, 3) := by decide +kernel
theorem dX10_isLine_277 : decode cX10_isLine 277 = .ok (.ireturn, 1) := by decide +kernel
theorem dX10_isRead_0 : decode cX10_isRead 0 = .ok (.aload_n 0, 1) := by decide +kernel
theorem dX10_isRead_1 : decode cX10_isRead 1 = .ok (.iconst 0, 1) := by decide +kernel
theorem dX10_isRead_2 : decode cX10_isRead 2 = .ok (.putfield 88, 3) := by decide +kernel
theorem dX10_isRead_5 : decode cX10_isRead 5 = .ok (.aload_n 0, 1) := by decide +kernel
theorem dX10_isRead_6 : decode cX10_isRead 6 = .ok (.iconst 0, 1) := by decide +kernel
theorem dX10_isRead_7 : decode cX10_isRead 7 = .ok (.putfield 168, 3) := by decide +kernel
theorem dX10_isRead_10 : decode cX10_isRead 10 = .ok (.aload_n 0, 1) := by decide +kernel
theorem dX10_isRead_11 : decode cX10_isRead 11 = .ok (.aload_n 0, 1) := by decide +kernel
theorem dX10_isRead_12 : decode cX10_isRead 12 = .ok (.getfield 7, 3) := by decide +kernel
theorem dX10_isRead_15 : decode cX10_isRead 15 = .ok (.putfield 129, 3) := by decide +kernel
theorem dX10_isRead_18 : decode cX10_isRead 18 = .ok (.aload_n 0, 1) := by decide +kernel
theorem dX10_isRead_19 : decode cX10_isRead 19 = .ok (.aload_n 0, 1) := by decide +kernel
theorem dX10_isRead_20 : decode cX10_isRead 20 = .ok (.getfield 76, 3) := by decide +kernel
theorem dX10_isRead_23 : decode cX10_isRead 23 = .ok (.putfield 132, 3) := by decide +kernel
theorem dX10_isRead_26 : decode cX10_isRead 26 = .ok (.aload_n 0, 1) := by decide +kernel
theorem dX10_isRead_27 : decode cX10_isRead 27 = .ok (.aload_n 0, 1) := by decide +kernel
theorem dX10_isRead_28 : decode cX10_isRead 28 = .ok (.getfield 73, 3) := by decide +kernel
theorem dX10_isRead_31 : decode cX10_isRead 31 = .ok (.putfield 135, 3) := by decide +kernel
theorem dX10_isRead_34 : decode cX10_isRead 34 = .ok (.aload_n 0, 1) := by decide +kernel
theorem dX10_isRead_35 : decode cX10_isRead 35 = .ok (.aload_n 0, 1) := by decide +kernel
theorem dX10_isRead_36 : decode cX10_isRead 36 = .ok (.getfield 79, 3) := by decide +kernel
theorem dX10_isRead_39 : decode cX10_isRead 39 = .ok (.putfield 138, 3) := by decide +kernel
theorem dX10_isRead_42 : decode cX10_isRead 42 = .ok (.iconst 1, 1) := by decide +kernel
theorem dX10_isRead_43 : decode cX10_isRead 43 = .ok (.istore_n 1, 1) := by decide +kernel
theorem dX10_isRead_44 : decode cX10_isRead 44 = .ok (.iload_n 1, 1) := by decide +kernel
theorem dX10_isRead_45 : decode cX10_isRead 45 = .ok (.ifCond .eq 62, 3) := by decide +kernel
theorem dX10_isRead_48 : decode cX10_isRead 48 = .ok (.aload_n 0, 1) := by decide +kernel
theorem dX10_isRead_49 : decode cX10_isRead 49 = .ok (.bipush 6, 2) := by decide +kernel
theorem dX10_isRead_51 : decode cX10_isRead 51 = .ok (.aload_n 0, 1) := by decide +kernel
theorem dX10_isRead_52 : decode cX10_isRead 52 = .ok (.getfield 168, 3) := by decide +kernel
theorem dX10_isRead_55 : decode cX10_isRead 55 = .ok (.imul, 1) := by decide +kernel
theorem dX10_isRead_56 : decode cX10_isRead 56 = .ok (.invokevirtual 171, 3) := by decide +kernel
theorem dX10_isRead_59 : decode cX10_isRead 59 = .ok (.ifCond .ne 5, 3) := by decide +kernel
theorem dX10_isRead_62 : decode cX10_isRead 62 = .ok (.iconst 0, 1) := by decide +kernel
theorem dX10_isRead_63 : decode cX10_isRead 63 = .ok (.ireturn, 1) := by decide +kernel
theorem dX10_isRead_64 : decode cX10_isRead 64 = .ok (.aload_n 0, 1) := by decide +kernel
theorem dX10_isRead_65 : decode cX10_isRead 65 = .ok (.dup, 1) := by decide +kernel
theorem dX10_isRead_66 : decode cX10_isRead 66 = .ok (.getfield 168, 3) := by decide +kernel
theorem dX10_isRead_69 : decode cX10_isRead 69 = .ok (.iconst 1, 1) := by decide +kernel
theorem dX10_isRead_70 : decode cX10_isRead 70 = .ok (.iadd, 1) := by decide +kernel
theorem dX10_isRead_71 : decode cX10_isRead 71 = .ok (.putfield 168, 3) := by decide +kernel
theorem dX10_isRead_74 : decode cX10_isRead 74 = .ok (.aload_n 0, 1) := by decide +kernel
theorem dX10_isRead_75 : decode cX10_isRead 75 = .ok (.invokevirtual 119, 3) := by decide +kernel
theorem dX10_isRead_78 : decode cX10_isRead 78 = .ok (.aload_n 0, 1) := by decide +kernel
theorem dX10_isRead_79 : decode cX10_isRead 79 = .ok (.getfield 102, 3) := by decide +kernel
theorem dX10_isRead_82 : decode cX10_isRead 82 = .ok (.ldc2_w 114, 3) := by decide +kernel
theorem dX10_isRead_85 : decode cX10_isRead 85 = .ok (.lcmp, 1) := by decide +kernel
theorem dX10_isRead_86 : decode cX10_isRead 86 = .ok (.ifCond .ne 16, 3) := by decide +kernel
theorem dX10_isRead_89 : decode cX10_isRead 89 = .ok (.aload_n 0, 1) := by decide +kernel
theorem dX10_isRead_90 : decode cX10_isRead 90 = .ok (.getfield 168, 3) := by decide +kernel
theorem dX10_isRead_93 : decode cX10_isRead 93 = .ok (.bipush 10, 2) := by decide +kernel
theorem dX10_isRead_95 : decode cX10_isRead 95 = .ok (.if_icmp .ge 7, 3) := by decide +kernel
theorem dX10_isRead_98 : decode cX10_isRead 98 = .ok (.iconst 1, 1) := by decide +kernel
theorem dX10_isRead_99 : decode cX10_isRead 99 = .ok (.goto 4, 3) := by decide +kernel
theorem dX10_isRead_102 : decode cX10_isRead 102 = .ok (.iconst 0, 1) := by decide +kernel
theorem dX10_isRead_103 : decode cX10_isRead 103 = .ok (.istore_n 1, 1) := by decide +kernel
theorem dX10_isRead_104 : decode cX10_isRead 104 = .ok (.goto (-60), 3) := by decide +kernel
theorem dX10_isRead_107 : decode cX10_isRead 107 = .ok (.aload_n 0, 1) := by decide +kernel
theorem dX10_isRead_108 : decode cX10_isRead 108 = .ok (.getfield 102, 3) := by decide +kernel
theorem dX10_isRead_111 : decode cX10_isRead 111 = .ok (.ldc2_w 100, 3) := by decide +kernel
theorem dX10_isRead_114 : decode cX10_isRead 114 = .ok (.lcmp, 1) := by decide +kernel
theorem dX10_isRead_115 : decode cX10_isRead 115 = .ok (.ifCond .eq 10, 3) := by decide +kernel
theorem dX10_isRead_118 : decode cX10_isRead 118 = .ok (.aload_n 0, 1) := by decide +kernel
theorem dX10_isRead_119 : decode cX10_isRead 119 = .ok (.invokevirtual 122, 3) := by decide +kernel
theorem dX10_isRead_122 : decode cX10_isRead 122 = .ok (.ifCond .eq 7, 3) := by decide +kernel
theorem dX10_isRead_125 : decode cX10_isRead 125 = .ok (.iconst 1, 1) := by decide +kernel
theorem dX10_isRead_126 : decode cX10_isRead 126 = .ok (.goto 4, 3) := by decide +kernel
theorem dX10_isRead_129 : decode cX10_isRead 129 = .ok (.iconst 0, 1) := by decide +kernel
theorem dX10_isRead_130 : decode cX10_isRead 130 = .ok (.ireturn, 1) := by decide +kernel
theorem dX10_fault_0 : decode cX10_fault 0 = .ok (.aload_n 0, 1) := by decide +kernel
theorem dX10_fault_1 : decode cX10_fault 1 = .ok (.invokevirtual 174, 3) := by decide +kernel
theorem dX10_fault_4 : decode cX10_fault 4 = .ok (.ifCond .eq 7, 3) := by decide +kernel
theorem dX10_fault_7 : decode cX10_fault 7 = .ok (.iconst (-1), 1) := by decide +kernel
theorem dX10_fault_8 : decode cX10_fault 8 = .ok (.goto 7, 3) := by decide +kernel
theorem dX10_fault_11 : decode cX10_fault 11 = .ok (.aload_n 0, 1) := by decide +kernel
theorem dX10_fault_12 : decode cX10_fault 12 = .ok (.getfield 116, 3) := by decide +kernel
theorem dX10_fault_15 : decode cX10_fault 15 = .ok (.ireturn, 1) := by decide +kernel
theorem dX10_doLine_0 : decode cX10_doLine 0 = .ok (.aload_n 0, 1) := by decide +kernel
theorem dX10_doLine_1 : decode cX10_doLine 1 = .ok (.getfield 35, 3) := by decide +kernel
theorem dX10_doLine_4 : decode cX10_doLine 4 = .ok (.iload_n 1, 1) := by decide +kernel
theorem dX10_doLine_5 : decode cX10_doLine 5 = .ok (.iconst 1, 1) := by decide +kernel
theorem dX10_doLine_6 : decode cX10_doLine 6 = .ok (.iadd, 1) := by decide +kernel
theorem dX10_doLine_7 : decode cX10_doLine 7 = .ok (.iaload, 1) := by decide +kernel
theorem dX10_doLine_8 : decode cX10_doLine 8 = .ok (.istore_n 2, 1) := by decide +kernel
theorem dX10_doLine_9 : decode cX10_doLine 9 = .ok (.aload_n 0, 1) := by decide +kernel
theorem dX10_doLine_10 : decode cX10_doLine 10 = .ok (.getfield 35, 3) := by decide +kernel
theorem dX10_doLine_13 : decode cX10_doLine 13 = .ok (.iload_n 1, 1) := by decide +kernel
theorem dX10_doLine_14 : decode cX10_doLine 14 = .ok (.iconst 2, 1) := by decide +kernel
theorem dX10_doLine_15 : decode cX10_doLine 15 = .ok (.iadd, 1) := by decide +kernel
theorem dX10_doLine_16 : decode cX10_doLine 16 = .ok (.iaload, 1) := by decide +kernel
theorem dX10_doLine_17 : decode cX10_doLine 17 = .ok (.istore_n 3, 1) := by decide +kernel
theorem dX10_doLine_18 : decode cX10_doLine 18 = .ok (.aload_n 0, 1) := by decide +kernel
theorem dX10_doLine_19 : decode cX10_doLine 19 = .ok (.getfield 35, 3) := by decide +kernel
theorem dX10_doLine_22 : decode cX10_doLine 22 = .ok (.iload_n 1, 1) := by decide +kernel
theorem dX10_doLine_23 : decode cX10_doLine 23 = .ok (.iaload, 1) := by decide +kernel
theorem dX10_doLine_24 : decode cX10_doLine 24 = .ok (.tableswitch 245 0 5 #[40, 52, 62, 72, 132, 192], 40) := by decide +kernel
theorem dX10_doLine_64 : decode cX10_doLine 64 = .ok (.aload_n 0, 1) := by decide +kernel
theorem dX10_doLine_65 : decode cX10_doLine 65 = .ok (.invokevirtual 63, 3) := by decide +kernel
theorem dX10_doLine_68 : decode cX10_doLine 68 = .ok (.aload_n 0, 1) := by decide +kernel
theorem dX10_doLine_69 : decode cX10_doLine 69 = .ok (.iload_n 2, 1) := by decide +kernel
theorem dX10_doLine_70 : decode cX10_doLine 70 = .ok (.putfield 7, 3) := by decide +kernel
theorem dX10_doLine_73 : decode cX10_doLine 73 = .ok (.goto 206, 3) := by decide +kernel
theorem dX10_doLine_76 : decode cX10_doLine 76 = .ok (.aload_n 0, 1) := by decide +kernel
theorem dX10_doLine_77 : decode cX10_doLine 77 = .ok (.getfield 13, 3) := by decide +kernel
theorem dX10_doLine_80 : decode cX10_doLine 80 = .ok (.iload_n 2, 1) := by decide +kernel
theorem dX10_doLine_81 : decode cX10_doLine 81 = .ok (.iload_n 3, 1) := by decide +kernel
theorem dX10_doLine_82 : decode cX10_doLine 82 = .ok (.iastore, 1) := by decide +kernel
theorem dX10_doLine_83 : decode cX10_doLine 83 = .ok (.goto 196, 3) := by decide +kernel
theorem dX10_doLine_86 : decode cX10_doLine 86 = .ok (.aload_n 0, 1) := by decide +kernel
theorem dX10_doLine_87 : decode cX10_doLine 87 = .ok (.getfield 17, 3) := by decide +kernel
theorem dX10_doLine_90 : decode cX10_doLine 90 = .ok (.iload_n 2, 1) := by decide +kernel
theorem dX10_doLine_91 : decode cX10_doLine 91 = .ok (.iload_n 3, 1) := by decide +kernel
theorem dX10_doLine_92 : decode cX10_doLine 92 = .ok (.iastore, 1) := by decide +kernel
theorem dX10_doLine_93 : decode cX10_doLine 93 = .ok (.goto 186, 3) := by decide +kernel
theorem dX10_doLine_96 : decode cX10_doLine 96 = .ok (.aload_n 0, 1) := by decide +kernel
theorem dX10_doLine_97 : decode cX10_doLine 97 = .ok (.getfield 20, 3) := by decide +kernel
theorem dX10_doLine_100 : decode cX10_doLine 100 = .ok (.iconst 3, 1) := by decide +kernel
theorem dX10_doLine_101 : decode cX10_doLine 101 = .ok (.aload_n 0, 1) := by decide +kernel
theorem dX10_doLine_102 : decode cX10_doLine 102 = .ok (.getfield 76, 3) := by decide +kernel
theorem dX10_doLine_105 : decode cX10_doLine 105 = .ok (.imul, 1) := by decide +kernel
theorem dX10_doLine_106 : decode cX10_doLine 106 = .ok (.iload_n 2, 1) := by decide +kernel
theorem dX10_doLine_107 : decode cX10_doLine 107 = .ok (.iastore, 1) := by decide +kernel
theorem dX10_doLine_108 : decode cX10_doLine 108 = .ok (.aload_n 0, 1) := by decide +kernel
theorem dX10_doLine_109 : decode cX10_doLine 109 = .ok (.getfield 20, 3) := by decide +kernel
theorem dX10_doLine_112 : decode cX10_doLine 112 = .ok (.iconst 3, 1) := by decide +kernel
theorem dX10_doLine_113 : decode cX10_doLine 113 = .ok (.aload_n 0, 1) := by decide +kernel
theorem dX10_doLine_114 : decode cX10_doLine 114 = .ok (.getfield 76, 3) := by decide +kernel
theorem dX10_doLine_117 : decode cX10_doLine 117 = .ok (.imul, 1) := by decide +kernel
theorem dX10_doLine_118 : decode cX10_doLine 118 = .ok (.iconst 1, 1) := by decide +kernel
theorem dX10_doLine_119 : decode cX10_doLine 119 = .ok (.iadd, 1) := by decide +kernel
theorem dX10_doLine_120 : decode cX10_doLine 120 = .ok (.iload_n 3, 1) := by decide +kernel
theorem dX10_doLine_121 : decode cX10_doLine 121 = .ok (.iastore, 1) := by decide +kernel
theorem dX10_doLine_122 : decode cX10_doLine 122 = .ok (.aload_n 0, 1) := by decide +kernel
theorem dX10_doLine_123 : decode cX10_doLine 123 = .ok (.getfield 20, 3) := by decide +kernel
theorem dX10_doLine_126 : decode cX10_doLine 126 = .ok (.iconst 3, 1) := by decide +kernel
theorem dX10_doLine_127 : decode cX10_doLine 127 = .ok (.aload_n 0, 1) := by decide +kernel
theorem dX10_doLine_128 : decode cX10_doLine 128 = .ok (.getfield 76, 3) := by decide +kernel
theorem dX10_doLine_131 : decode cX10_doLine 131 = .ok (.imul, 1) := by decide +kernel
theorem dX10_doLine_132 : decode cX10_doLine 132 = .ok (.iconst 2, 1) := by decide +kernel
theorem dX10_doLine_133 : decode cX10_doLine 133 = .ok (.iadd, 1) := by decide +kernel
theorem dX10_doLine_134 : decode cX10_doLine 134 = .ok (.aload_n 0, 1) := by decide +kernel
theorem dX10_doLine_135 : decode cX10_doLine 135 = .ok (.getfield 35, 3) := by decide +kernel
theorem dX10_doLine_138 : decode cX10_doLine 138 = .ok (.iload_n 1, 1) := by decide +kernel
theorem dX10_doLine_139 : decode cX10_doLine 139 = .ok (.iconst 3, 1) := by decide +kernel
theorem dX10_doLine_140 : decode cX10_doLine 140 = .ok (.iadd, 1) := by decide +kernel
theorem dX10_doLine_141 : decode cX10_doLine 141 = .ok (.iaload, 1) := by decide +kernel
theorem dX10_doLine_142 : decode cX10_doLine 142 = .ok (.iastore, 1) := by decide +kernel
theorem dX10_doLine_143 : decode cX10_doLine 143 = .ok (.aload_n 0, 1) := by decide +kernel
theorem dX10_doLine_144 : decode cX10_doLine 144 = .ok (.dup, 1) := by decide +kernel
theorem dX10_doLine_145 : decode cX10_doLine 145 = .ok (.getfield 76, 3) := by decide +kernel
theorem dX10_doLine_148 : decode cX10_doLine 148 = .ok (.iconst 1, 1) := by decide +kernel
theorem dX10_doLine_149 : decode cX10_doLine 149 = .ok (.iadd, 1) := by decide +kernel
theorem dX10_doLine_150 : decode cX10_doLine 150 = .ok (.putfield 76, 3) := by decide +kernel
theorem dX10_doLine_153 : decode cX10_doLine 153 = .ok (.goto 126, 3) := by decide +kernel
theorem dX10_doLine_156 : decode cX10_doLine 156 = .ok (.aload_n 0, 1) := by decide +kernel
theorem dX10_doLine_157 : decode cX10_doLine 157 = .ok (.getfield 23, 3) := by decide +kernel
theorem dX10_doLine_160 : decode cX10_doLine 160 = .ok (.iconst 3, 1) := by decide +kernel
theorem dX10_doLine_161 : decode cX10_doLine 161 = .ok (.aload_n 0, 1) := by decide +kernel
theorem dX10_doLine_162 : decode cX10_doLine 162 = .ok (.getfield 73, 3) := by decide +kernel
theorem dX10_doLine_165 : decode cX10_doLine 165 = .ok (.imul, 1) := by decide +kernel
theorem dX10_doLine_166 : decode cX10_doLine 166 = .ok (.iload_n 2, 1) := by decide +kernel
theorem dX10_doLine_167 : decode cX10_doLine 167 = .ok (.iastore, 1) := by decide +kernel
theorem dX10_doLine_168 : decode cX10_doLine 168 = .ok (.aload_n 0, 1) := by decide +kernel
theorem dX10_doLine_169 : decode cX10_doLine 169 = .ok (.getfield 23, 3) := by decide +kernel
theorem dX10_doLine_172 : decode cX10_doLine 172 = .ok (.iconst 3, 1) := by decide +kernel
theorem dX10_doLine_173 : decode cX10_doLine 173 = .ok (.aload_n 0, 1) := by decide +kernel
theorem dX10_doLine_174 : decode cX10_doLine 174 = .ok (.getfield 73, 3) := by decide +kernel
theorem dX10_doLine_177 : decode cX10_doLine 177 = .ok (.imul, 1) := by decide +kernel
theorem dX10_doLine_178 : decode cX10_doLine 178 = .ok (.iconst 1, 1) := by decide +kernel
theorem dX10_doLine_179 : decode cX10_doLine 179 = .ok (.iadd, 1) := by decide +kernel
theorem dX10_doLine_180 : decode cX10_doLine 180 = .ok (.iload_n 3, 1) := by decide +kernel
theorem dX10_doLine_181 : decode cX10_doLine 181 = .ok (.iastore, 1) := by decide +kernel
theorem dX10_doLine_182 : decode cX10_doLine 182 = .ok (.aload_n 0, 1) := by decide +kernel
theorem dX10_doLine_183 : decode cX10_doLine 183 = .ok (.getfield 23, 3) := by decide +kernel
theorem dX10_doLine_186 : decode cX10_doLine 186 = .ok (.iconst 3, 1) := by decide +kernel
theorem dX10_doLine_187 : decode cX10_doLine 187 = .ok (.aload_n 0, 1) := by decide +kernel
theorem dX10_doLine_188 : decode cX10_doLine 188 = .ok (.getfield 73, 3) := by decide +kernel
theorem dX10_doLine_191 : decode cX10_doLine 191 = .ok (.imul, 1) := by decide +kernel
theorem dX10_doLine_192 : decode cX10_doLine 192 = .ok (.iconst 2, 1) := by decide +kernel
theorem dX10_doLine_193 : decode cX10_doLine 193 = .ok (.iadd, 1) := by decide +kernel
theorem dX10_doLine_194 : decode cX10_doLine 194 = .ok (.aload_n 0, 1) := by decide +kernel
theorem dX10_doLine_195 : decode cX10_doLine 195 = .ok (.getfield 35, 3) := by decide +kernel
theorem dX10_doLine_198 : decode cX10_doLine 198 = .ok (.iload_n 1, 1) := by decide +kernel
theorem dX10_doLine_199 : decode cX10_doLine 199 = .ok (.iconst 3, 1) := by decide +kernel
theorem dX10_doLine_200 : decode cX10_doLine 200 = .ok (.iadd, 1) := by decide +kernel
theorem dX10_doLine_201 : decode cX10_doLine 201 = .ok (.iaload, 1) := by decide +kernel
theorem dX10_doLine_202 : decode cX10_doLine 202 = .ok (.iastore, 1) := by decide +kernel
theorem dX10_doLine_203 : decode cX10_doLine 203 = .ok (.aload_n 0, 1) := by decide +kernel
theorem dX10_doLine_204 : decode cX10_doLine 204 = .ok (.dup, 1) := by decide +kernel
theorem dX10_doLine_205 : decode cX10_doLine 205 = .ok (.getfield 73, 3) := by decide +kernel
theorem dX10_doLine_208 : decode cX10_doLine 208 = .ok (.iconst 1, 1) := by decide +kernel
theorem dX10_doLine_209 : decode cX10_doLine 209 = .ok (.iadd, 1) := by decide +kernel
theorem dX10_doLine_210 : decode cX10_doLine 210 = .ok (.putfield 73, 3) := by decide +kernel
theorem dX10_doLine_213 : decode cX10_doLine 213 = .ok (.goto 66, 3) := by decide +kernel
theorem dX10_doLine_216 : decode cX10_doLine 216 = .ok (.iconst 0, 1) := by decide +kernel
theorem dX10_doLine_217 : decode cX10_doLine 217 = .ok (.istore 4, 2) := by decide +kernel
theorem dX10_doLine_219 : decode cX10_doLine 219 = .ok (.iload 4, 2) := by decide +kernel
theorem dX10_doLine_221 : decode cX10_doLine 221 = .ok (.iconst 5, 1) := by decide +kernel
theorem dX10_doLine_222 : decode cX10_doLine 222 = .ok (.if_icmp .ge 34, 3) := by decide +kernel
theorem dX10_doLine_225 : decode cX10_doLine 225 = .ok (.aload_n 0, 1) := by decide +kernel
theorem dX10_doLine_226 : decode cX10_doLine 226 = .ok (.getfield 26, 3) := by decide +kernel
theorem dX10_doLine_229 : decode cX10_doLine 229 = .ok (.iconst 5, 1) := by decide +kernel
theorem dX10_doLine_230 : decode cX10_doLine 230 = .ok (.aload_n 0, 1) := by decide +kernel
theorem dX10_doLine_231 : decode cX10_doLine 231 = .ok (.getfield 79, 3) := by decide +kernel
theorem dX10_doLine_234 : decode cX10_doLine 234 = .ok (.imul, 1) := by decide +kernel
theorem dX10_doLine_235 : decode cX10_doLine 235 = .ok (.iload 4, 2) := by decide +kernel
theorem dX10_doLine_237 : decode cX10_doLine 237 = .ok (.iadd, 1) := by decide +kernel
theorem dX10_doLine_238 : decode cX10_doLine 238 = .ok (.aload_n 0, 1) := by decide +kernel
theorem dX10_doLine_239 : decode cX10_doLine 239 = .ok (.getfield 35, 3) := by decide +kernel
theorem dX10_doLine_242 : decode cX10_doLine 242 = .ok (.iload_n 1, 1) := by decide +kernel
theorem dX10_doLine_243 : decode cX10_doLine 243 = .ok (.iconst 1, 1) := by decide +kernel
theorem dX10_doLine_244 : decode cX10_doLine 244 = .ok (.iadd, 1) := by decide +kernel
theorem dX10_doLine_245 : decode cX10_doLine 245 = .ok (.iload 4, 2) := by decide +kernel
theorem dX10_doLine_247 : decode cX10_doLine 247 = .ok (.iadd, 1) := by decide +kernel
theorem dX10_doLine_248 : decode cX10_doLine 248 = .ok (.iaload, 1) := by decide +kernel
theorem dX10_doLine_249 : decode cX10_doLine 249 = .ok (.iastore, 1) := by decide +kernel
theorem dX10_doLine_250 : decode cX10_doLine 250 = .ok (.iinc 4 1, 3) := by decide +kernel
theorem dX10_doLine_253 : decode cX10_doLine 253 = .ok (.goto (-34), 3) := by decide +kernel
theorem dX10_doLine_256 : decode cX10_doLine 256 = .ok (.aload_n 0, 1) := by decide +kernel
theorem dX10_doLine_257 : decode cX10_doLine 257 = .ok (.dup, 1) := by decide +kernel
theorem dX10_doLine_258 : decode cX10_doLine 258 = .ok (.getfield 79, 3) := by decide +kernel
theorem dX10_doLine_261 : decode cX10_doLine 261 = .ok (.iconst 1, 1) := by decide +kernel
theorem dX10_doLine_262 : decode cX10_doLine 262 = .ok (.iadd, 1) := by decide +kernel
theorem dX10_doLine_263 : decode cX10_doLine 263 = .ok (.putfield 79, 3) := by decide +kernel
theorem dX10_doLine_266 : decode cX10_doLine 266 = .ok (.goto 13, 3) := by decide +kernel
theorem dX10_doLine_269 : decode cX10_doLine 269 = .ok (.aload_n 0, 1) := by decide +kernel
theorem dX10_doLine_270 : decode cX10_doLine 270 = .ok (.iconst 0, 1) := by decide +kernel
theorem dX10_doLine_271 : decode cX10_doLine 271 = .ok (.putfield 73, 3) := by decide +kernel
theorem dX10_doLine_274 : decode cX10_doLine 274 = .ok (.aload_n 0, 1) := by decide +kernel
theorem dX10_doLine_275 : decode cX10_doLine 275 = .ok (.iconst 0, 1) := by decide +kernel
theorem dX10_doLine_276 : decode cX10_doLine 276 = .ok (.putfield 79, 3) := by decide +kernel
theorem dX10_doLine_279 : decode cX10_doLine 279 = .ok (.return_, 1) := by decide +kernel
theorem dX10_street_0 : decode cX10_street 0 = .ok (.aload_n 0, 1) := by decide +kernel
theorem dX10_street_1 : decode cX10_street 1 = .ok (.invokevirtual 174, 3) := by decide +kernel
theorem dX10_street_4 : decode cX10_street 4 = .ok (.ifCond .ne 6, 3) := by decide +kernel
theorem dX10_street_7 : decode cX10_street 7 = .ok (.bipush (-4), 2) := by decide +kernel
theorem dX10_street_9 : decode cX10_street 9 = .ok (.ireturn, 1) := by decide +kernel
theorem dX10_street_10 : decode cX10_street 10 = .ok (.iconst 0, 1) := by decide +kernel
theorem dX10_street_11 : decode cX10_street 11 = .ok (.istore_n 1, 1) := by decide +kernel
theorem dX10_street_12 : decode cX10_street 12 = .ok (.iload_n 1, 1) := by decide +kernel
theorem dX10_street_13 : decode cX10_street 13 = .ok (.aload_n 0, 1) := by decide +kernel
theorem dX10_street_14 : decode cX10_street 14 = .ok (.getfield 168, 3) := by decide +kernel
theorem dX10_street_17 : decode cX10_street 17 = .ok (.if_icmp .ge 17, 3) := by decide +kernel
theorem dX10_street_20 : decode cX10_street 20 = .ok (.aload_n 0, 1) := by decide +kernel
theorem dX10_street_21 : decode cX10_street 21 = .ok (.bipush 6, 2) := by decide +kernel
theorem dX10_street_23 : decode cX10_street 23 = .ok (.iload_n 1, 1) := by decide +kernel
theorem dX10_street_24 : decode cX10_street 24 = .ok (.imul, 1) := by decide +kernel
theorem dX10_street_25 : decode cX10_street 25 = .ok (.invokevirtual 177, 3) := by decide +kernel
theorem dX10_street_28 : decode cX10_street 28 = .ok (.iinc 1 1, 3) := by decide +kernel
theorem dX10_street_31 : decode cX10_street 31 = .ok (.goto (-19), 3) := by decide +kernel
theorem dX10_street_34 : decode cX10_street 34 = .ok (.aload_n 0, 1) := by decide +kernel
theorem dX10_street_35 : decode cX10_street 35 = .ok (.invokevirtual 66, 3) := by decide +kernel
theorem dX10_street_38 : decode cX10_street 38 = .ok (.aload_n 0, 1) := by decide +kernel
theorem dX10_street_39 : decode cX10_street 39 = .ok (.iconst 0, 1) := by decide +kernel
theorem dX10_street_40 : decode cX10_street 40 = .ok (.putfield 83, 3) := by decide +kernel
theorem dX10_street_43 : decode cX10_street 43 = .ok (.aload_n 0, 1) := by decide +kernel
theorem dX10_street_44 : decode cX10_street 44 = .ok (.iconst 0, 1) := by decide +kernel
theorem dX10_street_45 : decode cX10_street 45 = .ok (.putfield 181, 3) := by decide +kernel
theorem dX10_street_48 : decode cX10_street 48 = .ok (.aload_n 0, 1) := by decide +kernel
theorem dX10_street_49 : decode cX10_street 49 = .ok (.iconst 0, 1) := by decide +kernel
theorem dX10_street_50 : decode cX10_street 50 = .ok (.putfield 184, 3) := by decide +kernel
theorem dX10_street_53 : decode cX10_street 53 = .ok (.aload_n 0, 1) := by decide +kernel
theorem dX10_street_54 : decode cX10_street 54 = .ok (.iconst 0, 1) := by decide +kernel
theorem dX10_street_55 : decode cX10_street 55 = .ok (.putfield 187, 3) := by decide +kernel
theorem dX10_street_58 : decode cX10_street 58 = .ok (.aload_n 0, 1) := by decide +kernel
theorem dX10_street_59 : decode cX10_street 59 = .ok (.iconst 0, 1) := by decide +kernel
theorem dX10_street_60 : decode cX10_street 60 = .ok (.putfield 190, 3) := by decide +kernel
theorem dX10_street_63 : decode cX10_street 63 = .ok (.aload_n 0, 1) := by decide +kernel
theorem dX10_street_64 : decode cX10_street 64 = .ok (.iconst 0, 1) := by decide +kernel
theorem dX10_street_65 : decode cX10_street 65 = .ok (.putfield 193, 3) := by decide +kernel
theorem dX10_street_68 : decode cX10_street 68 = .ok (.aload_n 0, 1) := by decide +kernel
theorem dX10_street_69 : decode cX10_street 69 = .ok (.getfield 41, 3) := by decide +kernel
theorem dX10_street_72 : decode cX10_street 72 = .ok (.iconst 0, 1) := by decide +kernel
theorem dX10_street_73 : decode cX10_street 73 = .ok (.iconst 0, 1) := by decide +kernel
theorem dX10_street_74 : decode cX10_street 74 = .ok (.bastore, 1) := by decide +kernel
theorem dX10_street_75 : decode cX10_street 75 = .ok (.aload_n 0, 1) := by decide +kernel
theorem dX10_street_76 : decode cX10_street 76 = .ok (.getfield 41, 3) := by decide +kernel
theorem dX10_street_79 : decode cX10_street 79 = .ok (.iconst 1, 1) := by decide +kernel
theorem dX10_street_80 : decode cX10_street 80 = .ok (.iconst 0, 1) := by decide +kernel
theorem dX10_street_81 : decode cX10_street 81 = .ok (.bastore, 1) := by decide +kernel
theorem dX10_street_82 : decode cX10_street 82 = .ok (.aload_n 0, 1) := by decide +kernel
theorem dX10_street_83 : decode cX10_street 83 = .ok (.getfield 168, 3) := by decide +kernel
theorem dX10_street_86 : decode cX10_street 86 = .ok (.ireturn, 1) := by decide +kernel
theorem dX10_offOf_0 : decode cX10_offOf 0 = .ok (.iconst 0, 1) := by decide +kernel
theorem dX10_offOf_1 : decode cX10_offOf 1 = .ok (.istore_n 2, 1) := by decide +kernel
theorem dX10_offOf_2 : decode cX10_offOf 2 = .ok (.iconst 1, 1) := by decide +kernel
theorem dX10_offOf_3 : decode cX10_offOf 3 = .ok (.istore_n 3, 1) := by decide +kernel
theorem dX10_offOf_4 : decode cX10_offOf 4 = .ok (.iload_n 3, 1) := by decide +kernel
theorem dX10_offOf_5 : decode cX10_offOf 5 = .ok (.iload_n 1, 1) := by decide +kernel
theorem dX10_offOf_6 : decode cX10_offOf 6 = .ok (.if_icmp .gt 18, 3) := by decide +kernel
theorem dX10_offOf_9 : decode cX10_offOf 9 = .ok (.iload_n 2, 1) := by decide +kernel
theorem dX10_offOf_10 : decode cX10_offOf 10 = .ok (.aload_n 0, 1) := by decide +kernel
theorem dX10_offOf_11 : decode cX10_offOf 11 = .ok (.getfield 13, 3) := by decide +kernel
theorem dX10_offOf_14 : decode cX10_offOf 14 = .ok (.iload_n 3, 1) := by decide +kernel
theorem dX10_offOf_15 : decode cX10_offOf 15 = .ok (.iaload, 1) := by decide +kernel
theorem dX10_offOf_16 : decode cX10_offOf 16 = .ok (.iadd, 1) := by decide +kernel
theorem dX10_offOf_17 : decode cX10_offOf 17 = .ok (.istore_n 2, 1) := by decide +kernel
theorem dX10_offOf_18 : decode cX10_offOf 18 = .ok (.iinc 3 1, 3) := by decide +kernel
theorem dX10_offOf_21 : decode cX10_offOf 21 = .ok (.goto (-17), 3) := by decide +kernel
theorem dX10_offOf_24 : decode cX10_offOf 24 = .ok (.iload_n 2, 1) := by decide +kernel
theorem dX10_offOf_25 : decode cX10_offOf 25 = .ok (.ireturn, 1) := by decide +kernel
theorem dX10_off_0 : decode cX10_off 0 = .ok (.aload_n 0, 1) := by decide +kernel
theorem dX10_off_1 : decode cX10_off 1 = .ok (.iload_n 1, 1) := by decide +kernel
theorem dX10_off_2 : decode cX10_off 2 = .ok (.invokevirtual 196, 3) := by decide +kernel
theorem dX10_off_5 : decode cX10_off 5 = .ok (.ifCond .eq 11, 3) := by decide +kernel
theorem dX10_off_8 : decode cX10_off 8 = .ok (.aload_n 0, 1) := by decide +kernel
theorem dX10_off_9 : decode cX10_off 9 = .ok (.iload_n 1, 1) := by decide +kernel
theorem dX10_off_10 : decode cX10_off 10 = .ok (.invokevirtual 199, 3) := by decide +kernel
theorem dX10_off_13 : decode cX10_off 13 = .ok (.goto 5, 3) := by decide +kernel
theorem dX10_off_16 : decode cX10_off 16 = .ok (.bipush (-2), 2) := by decide +kernel
theorem dX10_off_18 : decode cX10_off 18 = .ok (.ireturn, 1) := by decide +kernel
theorem dX10_far_0 : decode cX10_far 0 = .ok (.aload_n 0, 1) := by decide +kernel
theorem dX10_far_1 : decode cX10_far 1 = .ok (.iload_n 1, 1) := by decide +kernel
theorem dX10_far_2 : decode cX10_far 2 = .ok (.invokevirtual 196, 3) := by decide +kernel
theorem dX10_far_5 : decode cX10_far 5 = .ok (.ifCond .eq 25, 3) := by decide +kernel
theorem dX10_far_8 : decode cX10_far 8 = .ok (.aload_n 0, 1) := by decide +kernel
theorem dX10_far_9 : decode cX10_far 9 = .ok (.iload_n 2, 1) := by decide +kernel
theorem dX10_far_10 : decode cX10_far 10 = .ok (.invokevirtual 196, 3) := by decide +kernel
theorem dX10_far_13 : decode cX10_far 13 = .ok (.ifCond .eq 17, 3) := by decide +kernel
theorem dX10_far_16 : decode cX10_far 16 = .ok (.aload_n 0, 1) := by decide +kernel
theorem dX10_far_17 : decode cX10_far 17 = .ok (.getfield 29, 3) := by decide +kernel
theorem dX10_far_20 : decode cX10_far 20 = .ok (.bipush 10, 2) := by decide +kernel
theorem dX10_far_22 : decode cX10_far 22 = .ok (.iload_n 1, 1) := by decide +kernel
theorem dX10_far_23 : decode cX10_far 23 = .ok (.imul, 1) := by decide +kernel
theorem dX10_far_24 : decode cX10_far 24 = .ok (.iload_n 2, 1) := by decide +kernel
theorem dX10_far_25 : decode cX10_far 25 = .ok (.iadd, 1) := by decide +kernel
theorem dX10_far_26 : decode cX10_far 26 = .ok (.iaload, 1) := by decide +kernel
theorem dX10_far_27 : decode cX10_far 27 = .ok (.goto 5, 3) := by decide +kernel
theorem dX10_far_30 : decode cX10_far 30 = .ok (.bipush (-2), 2) := by decide +kernel
theorem dX10_far_32 : decode cX10_far 32 = .ok (.ireturn, 1) := by decide +kernel
theorem dX10_dateOf_0 : decode cX10_dateOf 0 = .ok (.iload_n 2, 1) := by decide +kernel
theorem dX10_dateOf_1 : decode cX10_dateOf 1 = .ok (.aload_n 0, 1) := by decide +kernel
theorem dX10_dateOf_2 : decode cX10_dateOf 2 = .ok (.iload_n 1, 1) := by decide +kernel
theorem dX10_dateOf_3 : decode cX10_dateOf 3 = .ok (.invokevirtual 199, 3) := by decide +kernel
theorem dX10_dateOf_6 : decode cX10_dateOf 6 = .ok (.isub, 1) := by decide +kernel
theorem dX10_dateOf_7 : decode cX10_dateOf 7 = .ok (.ldc 203, 2) := by decide +kernel
theorem dX10_dateOf_9 : decode cX10_dateOf 9 = .ok (.iadd, 1) := by decide +kernel
theorem dX10_dateOf_10 : decode cX10_dateOf 10 = .ok (.sipush 1440, 3) := by decide +kernel
theorem dX10_dateOf_13 : decode cX10_dateOf 13 = .ok (.idiv, 1) := by decide +kernel
theorem dX10_dateOf_14 : decode cX10_dateOf 14 = .ok (.ireturn, 1) := by decide +kernel
theorem dX10_clockOf_0 : decode cX10_clockOf 0 = .ok (.iload_n 2, 1) := by decide +kernel
theorem dX10_clockOf_1 : decode cX10_clockOf 1 = .ok (.aload_n 0, 1) := by decide +kernel
theorem dX10_clockOf_2 : decode cX10_clockOf 2 = .ok (.iload_n 1, 1) := by decide +kernel
theorem dX10_clockOf_3 : decode cX10_clockOf 3 = .ok (.invokevirtual 199, 3) := by decide +kernel
theorem dX10_clockOf_6 : decode cX10_clockOf 6 = .ok (.isub, 1) := by decide +kernel
theorem dX10_clockOf_7 : decode cX10_clockOf 7 = .ok (.ldc 203, 2) := by decide +kernel
theorem dX10_clockOf_9 : decode cX10_clockOf 9 = .ok (.iadd, 1) := by decide +kernel
theorem dX10_clockOf_10 : decode cX10_clockOf 10 = .ok (.sipush 1440, 3) := by decide +kernel
theorem dX10_clockOf_13 : decode cX10_clockOf 13 = .ok (.irem, 1) := by decide +kernel
theorem dX10_clockOf_14 : decode cX10_clockOf 14 = .ok (.ireturn, 1) := by decide +kernel
theorem dX10_shows_0 : decode cX10_shows 0 = .ok (.aload_n 0, 1) := by decide +kernel
theorem dX10_shows_1 : decode cX10_shows 1 = .ok (.iload_n 1, 1) := by decide +kernel
theorem dX10_shows_2 : decode cX10_shows 2 = .ok (.invokevirtual 196, 3) := by decide +kernel
theorem dX10_shows_5 : decode cX10_shows 5 = .ok (.ifCond .ne 6, 3) := by decide +kernel
theorem dX10_shows_8 : decode cX10_shows 8 = .ok (.bipush (-2), 2) := by decide +kernel
theorem dX10_shows_10 : decode cX10_shows 10 = .ok (.ireturn, 1) := by decide +kernel
theorem dX10_shows_11 : decode cX10_shows 11 = .ok (.iload_n 2, 1) := by decide +kernel
theorem dX10_shows_12 : decode cX10_shows 12 = .ok (.iconst 0, 1) := by decide +kernel
theorem dX10_shows_13 : decode cX10_shows 13 = .ok (.ldc 204, 2) := by decide +kernel
theorem dX10_shows_15 : decode cX10_shows 15 = .ok (.invokestatic 69, 3) := by decide +kernel
theorem dX10_shows_18 : decode cX10_shows 18 = .ok (.ifCond .ne 6, 3) := by decide +kernel
theorem dX10_shows_21 : decode cX10_shows 21 = .ok (.bipush (-3), 2) := by decide +kernel
theorem dX10_shows_23 : decode cX10_shows 23 = .ok (.ireturn, 1) := by decide +kernel
theorem dX10_shows_24 : decode cX10_shows 24 = .ok (.iload_n 3, 1) := by decide +kernel
theorem dX10_shows_25 : decode cX10_shows 25 = .ok (.ifCond .ne 12, 3) := by decide +kernel
theorem dX10_shows_28 : decode cX10_shows 28 = .ok (.aload_n 0, 1) := by decide +kernel
theorem dX10_shows_29 : decode cX10_shows 29 = .ok (.iload_n 1, 1) := by decide +kernel
theorem dX10_shows_30 : decode cX10_shows 30 = .ok (.iload_n 2, 1) := by decide +kernel
theorem dX10_shows_31 : decode cX10_shows 31 = .ok (.invokevirtual 205, 3) := by decide +kernel
theorem dX10_shows_34 : decode cX10_shows 34 = .ok (.goto 19, 3) := by decide +kernel
theorem dX10_shows_37 : decode cX10_shows 37 = .ok (.iload_n 3, 1) := by decide +kernel
theorem dX10_shows_38 : decode cX10_shows 38 = .ok (.iconst 1, 1) := by decide +kernel
theorem dX10_shows_39 : decode cX10_shows 39 = .ok (.if_icmp .ne 12, 3) := by decide +kernel
theorem dX10_shows_42 : decode cX10_shows 42 = .ok (.aload_n 0, 1) := by decide +kernel
theorem dX10_shows_43 : decode cX10_shows 43 = .ok (.iload_n 1, 1) := by decide +kernel
theorem dX10_shows_44 : decode cX10_shows 44 = .ok (.iload_n 2, 1) := by decide +kernel
theorem dX10_shows_45 : decode cX10_shows 45 = .ok (.invokevirtual 209, 3) := by decide +kernel
theorem dX10_shows_48 : decode cX10_shows 48 = .ok (.goto 5, 3) := by decide +kernel
theorem dX10_shows_51 : decode cX10_shows 51 = .ok (.bipush (-3), 2) := by decide +kernel
theorem dX10_shows_53 : decode cX10_shows 53 = .ok (.ireturn, 1) := by decide +kernel
theorem dX10_backOf_0 : decode cX10_backOf 0 = .ok (.aload_n 0, 1) := by decide +kernel
theorem dX10_backOf_1 : decode cX10_backOf 1 = .ok (.getfield 29, 3) := by decide +kernel
theorem dX10_backOf_4 : decode cX10_backOf 4 = .ok (.bipush 10, 2) := by decide +kernel
theorem dX10_backOf_6 : decode cX10_backOf 6 = .ok (.iload_n 1, 1) := by decide +kernel
theorem dX10_backOf_7 : decode cX10_backOf 7 = .ok (.imul, 1) := by decide +kernel
theorem dX10_backOf_8 : decode cX10_backOf 8 = .ok (.iload_n 2, 1) := by decide +kernel
theorem dX10_backOf_9 : decode cX10_backOf 9 = .ok (.iadd, 1) := by decide +kernel
theorem dX10_backOf_10 : decode cX10_backOf 10 = .ok (.iaload, 1) := by decide +kernel
theorem dX10_backOf_11 : decode cX10_backOf 11 = .ok (.aload_n 0, 1) := by decide +kernel
theorem dX10_backOf_12 : decode cX10_backOf 12 = .ok (.iload_n 2, 1) := by decide +kernel
theorem dX10_backOf_13 : decode cX10_backOf 13 = .ok (.invokevirtual 199, 3) := by decide +kernel
theorem dX10_backOf_16 : decode cX10_backOf 16 = .ok (.isub, 1) := by decide +kernel
theorem dX10_backOf_17 : decode cX10_backOf 17 = .ok (.aload_n 0, 1) := by decide +kernel
theorem dX10_backOf_18 : decode cX10_backOf 18 = .ok (.iload_n 1, 1) := by decide +kernel
theorem dX10_backOf_19 : decode cX10_backOf 19 = .ok (.invokevirtual 199, 3) := by decide +kernel
theorem dX10_backOf_22 : decode cX10_backOf 22 = .ok (.iadd, 1) := by decide +kernel
theorem dX10_backOf_23 : decode cX10_backOf 23 = .ok (.ireturn, 1) := by decide +kernel
theorem dX10_byClocks_0 : decode cX10_byClocks 0 = .ok (.aload_n 0, 1) := by decide +kernel
theorem dX10_byClocks_1 : decode cX10_byClocks 1 = .ok (.iload_n 1, 1) := by decide +kernel
theorem dX10_byClocks_2 : decode cX10_byClocks 2 = .ok (.invokevirtual 196, 3) := by decide +kernel
theorem dX10_byClocks_5 : decode cX10_byClocks 5 = .ok (.ifCond .eq 23, 3) := by decide +kernel
theorem dX10_byClocks_8 : decode cX10_byClocks 8 = .ok (.aload_n 0, 1) := by decide +kernel
theorem dX10_byClocks_9 : decode cX10_byClocks 9 = .ok (.iload_n 2, 1) := by decide +kernel
theorem dX10_byClocks_10 : decode cX10_byClocks 10 = .ok (.invokevirtual 196, 3) := by decide +kernel
theorem dX10_byClocks_13 : decode cX10_byClocks 13 = .ok (.ifCond .eq 15, 3) := by decide +kernel
theorem dX10_byClocks_16 : decode cX10_byClocks 16 = .ok (.aload_n 0, 1) := by decide +kernel
theorem dX10_byClocks_17 : decode cX10_byClocks 17 = .ok (.iload_n 1, 1) := by decide +kernel
theorem dX10_byClocks_18 : decode cX10_byClocks 18 = .ok (.iload_n 2, 1) := by decide +kernel
theorem dX10_byClocks_19 : decode cX10_byClocks 19 = .ok (.invokevirtual 212, 3) := by decide +kernel
theorem dX10_byClocks_22 : decode cX10_byClocks 22 = .ok (.ldc 82, 2) := by decide +kernel
theorem dX10_byClocks_24 : decode cX10_byClocks 24 = .ok (.iadd, 1) := by decide +kernel
theorem dX10_byClocks_25 : decode cX10_byClocks 25 = .ok (.goto 5, 3) := by decide +kernel
theorem dX10_byClocks_28 : decode cX10_byClocks 28 = .ok (.bipush (-2), 2) := by decide +kernel
theorem dX10_byClocks_30 : decode cX10_byClocks 30 = .ok (.ireturn, 1) := by decide +kernel
theorem dX10_gaining_0 : decode cX10_gaining 0 = .ok (.iload_n 1, 1) := by decide +kernel
theorem dX10_gaining_1 : decode cX10_gaining 1 = .ok (.iconst 0, 1) := by decide +kernel
theorem dX10_gaining_2 : decode cX10_gaining 2 = .ok (.iconst 1, 1) := by decide +kernel
theorem dX10_gaining_3 : decode cX10_gaining 3 = .ok (.invokestatic 69, 3) := by decide +kernel
theorem dX10_gaining_6 : decode cX10_gaining 6 = .ok (.ifCond .ne 6, 3) := by decide +kernel
theorem dX10_gaining_9 : decode cX10_gaining 9 = .ok (.bipush (-3), 2) := by decide +kernel
theorem dX10_gaining_11 : decode cX10_gaining 11 = .ok (.ireturn, 1) := by decide +kernel
theorem dX10_gaining_12 : decode cX10_gaining 12 = .ok (.iconst 0, 1) := by decide +kernel
theorem dX10_gaining_13 : decode cX10_gaining 13 = .ok (.istore_n 2, 1) := by decide +kernel
theorem dX10_gaining_14 : decode cX10_gaining 14 = .ok (.iconst (-1), 1) := by decide +kernel
theorem dX10_gaining_15 : decode cX10_gaining 15 = .ok (.istore_n 3, 1) := by decide +kernel
theorem dX10_gaining_16 : decode cX10_gaining 16 = .ok (.iconst 0, 1) := by decide +kernel
theorem dX10_gaining_17 : decode cX10_gaining 17 = .ok (.istore 4, 2) := by decide +kernel
theorem dX10_gaining_19 : decode cX10_gaining 19 = .ok (.iconst 0, 1) := by decide +kernel
theorem dX10_gaining_20 : decode cX10_gaining 20 = .ok (.istore 5, 2) := by decide +kernel
theorem dX10_gaining_22 : decode cX10_gaining 22 = .ok (.iload 5, 2) := by decide +kernel
theorem dX10_gaining_24 : decode cX10_gaining 24 = .ok (.aload_n 0, 1) := by decide +kernel
theorem dX10_gaining_25 : decode cX10_gaining 25 = .ok (.getfield 7, 3) := by decide +kernel
theorem dX10_gaining_28 : decode cX10_gaining 28 = .ok (.if_icmp .ge 86, 3) := by decide +kernel
theorem dX10_gaining_31 : decode cX10_gaining 31 = .ok (.iconst 0, 1) := by decide +kernel
theorem dX10_gaining_32 : decode cX10_gaining 32 = .ok (.istore 6, 2) := by decide +kernel
theorem dX10_gaining_34 : decode cX10_gaining 34 = .ok (.iload 6, 2) := by decide +kernel
theorem dX10_gaining_36 : decode cX10_gaining 36 = .ok (.aload_n 0, 1) := by decide +kernel
theorem dX10_gaining_37 : decode cX10_gaining 37 = .ok (.getfield 7, 3) := by decide +kernel
theorem dX10_gaining_40 : decode cX10_gaining 40 = .ok (.if_icmp .ge 68, 3) := by decide +kernel
theorem dX10_gaining_43 : decode cX10_gaining 43 = .ok (.aload_n 0, 1) := by decide +kernel
theorem dX10_gaining_44 : decode cX10_gaining 44 = .ok (.iload 5, 2) := by decide +kernel
theorem dX10_gaining_46 : decode cX10_gaining 46 = .ok (.iload 6, 2) := by decide +kernel
theorem dX10_gaining_48 : decode cX10_gaining 48 = .ok (.invokevirtual 212, 3) := by decide +kernel
theorem dX10_gaining_51 : decode cX10_gaining 51 = .ok (.istore 7, 2) := by decide +kernel
theorem dX10_gaining_53 : decode cX10_gaining 53 = .ok (.iload_n 2, 1) := by decide +kernel
theorem dX10_gaining_54 : decode cX10_gaining 54 = .ok (.iload 7, 2) := by decide +kernel
theorem dX10_gaining_56 : decode cX10_gaining 56 = .ok (.ifCond .ge 7, 3) := by decide +kernel
theorem dX10_gaining_59 : decode cX10_gaining 59 = .ok (.iconst 1, 1) := by decide +kernel
theorem dX10_gaining_60 : decode cX10_gaining 60 = .ok (.goto 4, 3) := by decide +kernel
theorem dX10_gaining_63 : decode cX10_gaining 63 = .ok (.iconst 0, 1) := by decide +kernel
theorem dX10_gaining_64 : decode cX10_gaining 64 = .ok (.iadd, 1) := by decide +kernel
theorem dX10_gaining_65 : decode cX10_gaining 65 = .ok (.istore_n 2, 1) := by decide +kernel
theorem dX10_gaining_66 : decode cX10_gaining 66 = .ok (.iload 7, 2) := by decide +kernel
theorem dX10_gaining_68 : decode cX10_gaining 68 = .ok (.iload 4, 2) := by decide +kernel
theorem dX10_gaining_70 : decode cX10_gaining 70 = .ok (.if_icmp .ge 14, 3) := by decide +kernel
theorem dX10_gaining_73 : decode cX10_gaining 73 = .ok (.bipush 20, 2) := by decide +kernel
theorem dX10_gaining_75 : decode cX10_gaining 75 = .ok (.iload 5, 2) := by decide +kernel
theorem dX10_gaining_77 : decode cX10_gaining 77 = .ok (.imul, 1) := by decide +kernel
theorem dX10_gaining_78 : decode cX10_gaining 78 = .ok (.iload 6, 2) := by decide +kernel
theorem dX10_gaining_80 : decode cX10_gaining 80 = .ok (.iadd, 1) := by decide +kernel
theorem dX10_gaining_81 : decode cX10_gaining 81 = .ok (.goto 4, 3) := by decide +kernel
theorem dX10_gaining_84 : decode cX10_gaining 84 = .ok (.iload_n 3, 1) := by decide +kernel
theorem dX10_gaining_85 : decode cX10_gaining 85 = .ok (.istore_n 3, 1) := by decide +kernel
theorem dX10_gaining_86 : decode cX10_gaining 86 = .ok (.iload 7, 2) := by decide +kernel
theorem dX10_gaining_88 : decode cX10_gaining 88 = .ok (.iload 4, 2) := by decide +kernel
theorem dX10_gaining_90 : decode cX10_gaining 90 = .ok (.if_icmp .ge 8, 3) := by decide +kernel
theorem dX10_gaining_93 : decode cX10_gaining 93 = .ok (.iload 7, 2) := by decide +kernel
theorem dX10_gaining_95 : decode cX10_gaining 95 = .ok (.goto 5, 3) := by decide +kernel
theorem dX10_gaining_98 : decode cX10_gaining 98 = .ok (.iload 4, 2) := by decide +kernel
theorem dX10_gaining_100 : decode cX10_gaining 100 = .ok (.istore 4, 2) := by decide +kernel
theorem dX10_gaining_102 : decode cX10_gaining 102 = .ok (.iinc 6 1, 3) := by decide +kernel
theorem dX10_gaining_105 : decode cX10_gaining 105 = .ok (.goto (-71), 3) := by decide +kernel
theorem dX10_gaining_108 : decode cX10_gaining 108 = .ok (.iinc 5 1, 3) := by decide +kernel
theorem dX10_gaining_111 : decode cX10_gaining 111 = .ok (.goto (-89), 3) := by decide +kernel
theorem dX10_gaining_114 : decode cX10_gaining 114 = .ok (.iload_n 1, 1) := by decide +kernel
theorem dX10_gaining_115 : decode cX10_gaining 115 = .ok (.ifCond .ne 7, 3) := by decide +kernel
theorem dX10_gaining_118 : decode cX10_gaining 118 = .ok (.iload_n 2, 1) := by decide +kernel
theorem dX10_gaining_119 : decode cX10_gaining 119 = .ok (.goto 4, 3) := by decide +kernel
theorem dX10_gaining_122 : decode cX10_gaining 122 = .ok (.iload_n 3, 1) := by decide +kernel
theorem dX10_gaining_123 : decode cX10_gaining 123 = .ok (.ireturn, 1) := by decide +kernel
theorem dX10_beginOf_0 : decode cX10_beginOf 0 = .ok (.aload_n 0, 1) := by decide +kernel
theorem dX10_beginOf_1 : decode cX10_beginOf 1 = .ok (.getfield 23, 3) := by decide +kernel
theorem dX10_beginOf_4 : decode cX10_beginOf 4 = .ok (.iconst 3, 1) := by decide +kernel
theorem dX10_beginOf_5 : decode cX10_beginOf 5 = .ok (.iload_n 1, 1) := by decide +kernel
theorem dX10_beginOf_6 : decode cX10_beginOf 6 = .ok (.imul, 1) := by decide +kernel
theorem dX10_beginOf_7 : decode cX10_beginOf 7 = .ok (.iconst 1, 1) := by decide +kernel
theorem dX10_beginOf_8 : decode cX10_beginOf 8 = .ok (.iadd, 1) := by decide +kernel
theorem dX10_beginOf_9 : decode cX10_beginOf 9 = .ok (.iaload, 1) := by decide +kernel
theorem dX10_beginOf_10 : decode cX10_beginOf 10 = .ok (.aload_n 0, 1) := by decide +kernel
theorem dX10_beginOf_11 : decode cX10_beginOf 11 = .ok (.aload_n 0, 1) := by decide +kernel
theorem dX10_beginOf_12 : decode cX10_beginOf 12 = .ok (.getfield 23, 3) := by decide +kernel
theorem dX10_beginOf_15 : decode cX10_beginOf 15 = .ok (.iconst 3, 1) := by decide +kernel
theorem dX10_beginOf_16 : decode cX10_beginOf 16 = .ok (.iload_n 1, 1) := by decide +kernel
theorem dX10_beginOf_17 : decode cX10_beginOf 17 = .ok (.imul, 1) := by decide +kernel
theorem dX10_beginOf_18 : decode cX10_beginOf 18 = .ok (.iaload, 1) := by decide +kernel
theorem dX10_beginOf_19 : decode cX10_beginOf 19 = .ok (.invokevirtual 199, 3) := by decide +kernel
theorem dX10_beginOf_22 : decode cX10_beginOf 22 = .ok (.iadd, 1) := by decide +kernel
theorem dX10_beginOf_23 : decode cX10_beginOf 23 = .ok (.ireturn, 1) := by decide +kernel
theorem dX10_deed_0 : decode cX10_deed 0 = .ok (.aload_n 0, 1) := by decide +kernel
theorem dX10_deed_1 : decode cX10_deed 1 = .ok (.iload_n 1, 1) := by decide +kernel
theorem dX10_deed_2 : decode cX10_deed 2 = .ok (.invokevirtual 215, 3) := by decide +kernel
theorem dX10_deed_5 : decode cX10_deed 5 = .ok (.ifCond .ne 6, 3) := by decide +kernel
theorem dX10_deed_8 : decode cX10_deed 8 = .ok (.bipush (-2), 2) := by decide +kernel
theorem dX10_deed_10 : decode cX10_deed 10 = .ok (.ireturn, 1) := by decide +kernel
theorem dX10_deed_11 : decode cX10_deed 11 = .ok (.iload_n 2, 1) := by decide +kernel
theorem dX10_deed_12 : decode cX10_deed 12 = .ok (.iconst 0, 1) := by decide +kernel
theorem dX10_deed_13 : decode cX10_deed 13 = .ok (.iconst 2, 1) := by decide +kernel
theorem dX10_deed_14 : decode cX10_deed 14 = .ok (.invokestatic 69, 3) := by decide +kernel
theorem dX10_deed_17 : decode cX10_deed 17 = .ok (.ifCond .eq 16, 3) := by decide +kernel
theorem dX10_deed_20 : decode cX10_deed 20 = .ok (.aload_n 0, 1) := by decide +kernel
theorem dX10_deed_21 : decode cX10_deed 21 = .ok (.getfield 23, 3) := by decide +kernel
theorem dX10_deed_24 : decode cX10_deed 24 = .ok (.iconst 3, 1) := by decide +kernel
theorem dX10_deed_25 : decode cX10_deed 25 = .ok (.iload_n 1, 1) := by decide +kernel
theorem dX10_deed_26 : decode cX10_deed 26 = .ok (.imul, 1) := by decide +kernel
theorem dX10_deed_27 : decode cX10_deed 27 = .ok (.iload_n 2, 1) := by decide +kernel
theorem dX10_deed_28 : decode cX10_deed 28 = .ok (.iadd, 1) := by decide +kernel
theorem dX10_deed_29 : decode cX10_deed 29 = .ok (.iaload, 1) := by decide +kernel
theorem dX10_deed_30 : decode cX10_deed 30 = .ok (.goto 18, 3) := by decide +kernel
theorem dX10_deed_33 : decode cX10_deed 33 = .ok (.iload_n 2, 1) := by decide +kernel
theorem dX10_deed_34 : decode cX10_deed 34 = .ok (.iconst 3, 1) := by decide +kernel
theorem dX10_deed_35 : decode cX10_deed 35 = .ok (.if_icmp .ne 11, 3) := by decide +kernel
theorem dX10_deed_38 : decode cX10_deed 38 = .ok (.aload_n 0, 1) := by decide +kernel
theorem dX10_deed_39 : decode cX10_deed 39 = .ok (.iload_n 1, 1) := by decide +kernel
theorem dX10_deed_40 : decode cX10_deed 40 = .ok (.invokevirtual 218, 3) := by decide +kernel
theorem dX10_deed_43 : decode cX10_deed 43 = .ok (.goto 5, 3) := by decide +kernel
theorem dX10_deed_46 : decode cX10_deed 46 = .ok (.bipush (-3), 2) := by decide +kernel
theorem dX10_deed_48 : decode cX10_deed 48 = .ok (.ireturn, 1) := by decide +kernel
theorem dX10_go_0 : decode cX10_go 0 = .ok (.aload_n 0, 1) := by decide +kernel
theorem dX10_go_1 : decode cX10_go 1 = .ok (.iload_n 1, 1) := by decide +kernel
theorem dX10_go_2 : decode cX10_go 2 = .ok (.invokevirtual 196, 3) := by decide +kernel
theorem dX10_go_5 : decode cX10_go 5 = .ok (.ifCond .ne 6, 3) := by decide +kernel
theorem dX10_go_8 : decode cX10_go 8 = .ok (.bipush (-2), 2) := by decide +kernel
theorem dX10_go_10 : decode cX10_go 10 = .ok (.ireturn, 1) := by decide +kernel
theorem dX10_go_11 : decode cX10_go 11 = .ok (.iload_n 1, 1) := by decide +kernel
theorem dX10_go_12 : decode cX10_go 12 = .ok (.aload_n 0, 1) := by decide +kernel
theorem dX10_go_13 : decode cX10_go 13 = .ok (.getfield 181, 3) := by decide +kernel
theorem dX10_go_16 : decode cX10_go 16 = .ok (.if_icmp .ne 6, 3) := by decide +kernel
theorem dX10_go_19 : decode cX10_go 19 = .ok (.bipush (-4), 2) := by decide +kernel
theorem dX10_go_21 : decode cX10_go 21 = .ok (.ireturn, 1) := by decide +kernel
theorem dX10_go_22 : decode cX10_go 22 = .ok (.aload_n 0, 1) := by decide +kernel
theorem dX10_go_23 : decode cX10_go 23 = .ok (.getfield 184, 3) := by decide +kernel
theorem dX10_go_26 : decode cX10_go 26 = .ok (.aload_n 0, 1) := by decide +kernel
theorem dX10_go_27 : decode cX10_go 27 = .ok (.getfield 29, 3) := by decide +kernel
theorem dX10_go_30 : decode cX10_go 30 = .ok (.bipush 10, 2) := by decide +kernel
theorem dX10_go_32 : decode cX10_go 32 = .ok (.aload_n 0, 1) := by decide +kernel
theorem dX10_go_33 : decode cX10_go 33 = .ok (.getfield 181, 3) := by decide +kernel
theorem dX10_go_36 : decode cX10_go 36 = .ok (.imul, 1) := by decide +kernel
theorem dX10_go_37 : decode cX10_go 37 = .ok (.iload_n 1, 1) := by decide +kernel
theorem dX10_go_38 : decode cX10_go 38 = .ok (.iadd, 1) := by decide +kernel
theorem dX10_go_39 : decode cX10_go 39 = .ok (.iaload, 1) := by decide +kernel
theorem dX10_go_40 : decode cX10_go 40 = .ok (.iadd, 1) := by decide +kernel
theorem dX10_go_41 : decode cX10_go 41 = .ok (.ldc 204, 2) := by decide +kernel
theorem dX10_go_43 : decode cX10_go 43 = .ok (.if_icmp .le 6, 3) := by decide +kernel
theorem dX10_go_46 : decode cX10_go 46 = .ok (.bipush (-5), 2) := by decide +kernel
theorem dX10_go_48 : decode cX10_go 48 = .ok (.ireturn, 1) := by decide +kernel
theorem dX10_go_49 : decode cX10_go 49 = .ok (.aload_n 0, 1) := by decide +kernel
theorem dX10_go_50 : decode cX10_go 50 = .ok (.dup, 1) := by decide +kernel
theorem dX10_go_51 : decode cX10_go 51 = .ok (.getfield 184, 3) := by decide +kernel
theorem dX10_go_54 : decode cX10_go 54 = .ok (.aload_n 0, 1) := by decide +kernel
theorem dX10_go_55 : decode cX10_go 55 = .ok (.getfield 29, 3) := by decide +kernel
theorem dX10_go_58 : decode cX10_go 58 = .ok (.bipush 10, 2) := by decide +kernel
theorem dX10_go_60 : decode cX10_go 60 = .ok (.aload_n 0, 1) := by decide +kernel
theorem dX10_go_61 : decode cX10_go 61 = .ok (.getfield 181, 3) := by decide +kernel
theorem dX10_go_64 : decode cX10_go 64 = .ok (.imul, 1) := by decide +kernel
theorem dX10_go_65 : decode cX10_go 65 = .ok (.iload_n 1, 1) := by decide +kernel
theorem dX10_go_66 : decode cX10_go 66 = .ok (.iadd, 1) := by decide +kernel
theorem dX10_go_67 : decode cX10_go 67 = .ok (.iaload, 1) := by decide +kernel
theorem dX10_go_68 : decode cX10_go 68 = .ok (.iadd, 1) := by decide +kernel
theorem dX10_go_69 : decode cX10_go 69 = .ok (.putfield 184, 3) := by decide +kernel
theorem dX10_go_72 : decode cX10_go 72 = .ok (.aload_n 0, 1) := by decide +kernel
theorem dX10_go_73 : decode cX10_go 73 = .ok (.iload_n 1, 1) := by decide +kernel
theorem dX10_go_74 : decode cX10_go 74 = .ok (.putfield 181, 3) := by decide +kernel
theorem dX10_go_77 : decode cX10_go 77 = .ok (.aload_n 0, 1) := by decide +kernel
theorem dX10_go_78 : decode cX10_go 78 = .ok (.getfield 184, 3) := by decide +kernel
theorem dX10_go_81 : decode cX10_go 81 = .ok (.ireturn, 1) := by decide +kernel
theorem dX10_await_0 : decode cX10_await 0 = .ok (.iload_n 1, 1) := by decide +kernel
theorem dX10_await_1 : decode cX10_await 1 = .ok (.iconst 1, 1) := by decide +kernel
theorem dX10_await_2 : decode cX10_await 2 = .ok (.sipush 9999, 3) := by decide +kernel
theorem dX10_await_5 : decode cX10_await 5 = .ok (.invokestatic 69, 3) := by decide +kernel
theorem dX10_await_8 : decode cX10_await 8 = .ok (.ifCond .ne 6, 3) := by decide +kernel
theorem dX10_await_11 : decode cX10_await 11 = .ok (.bipush (-3), 2) := by decide +kernel
theorem dX10_await_13 : decode cX10_await 13 = .ok (.ireturn, 1) := by decide +kernel
theorem dX10_await_14 : decode cX10_await 14 = .ok (.aload_n 0, 1) := by decide +kernel
theorem dX10_await_15 : decode cX10_await 15 = .ok (.getfield 184, 3) := by decide +kernel
theorem dX10_await_18 : decode cX10_await 18 = .ok (.iload_n 1, 1) := by decide +kernel
theorem dX10_await_19 : decode cX10_await 19 = .ok (.iadd, 1) := by decide +kernel
theorem dX10_await_20 : decode cX10_await 20 = .ok (.ldc 204, 2) := by decide +kernel
theorem dX10_await_22 : decode cX10_await 22 = .ok (.if_icmp .le 6, 3) := by decide +kernel
theorem dX10_await_25 : decode cX10_await 25 = .ok (.bipush (-5), 2) := by decide +kernel
theorem dX10_await_27 : decode cX10_await 27 = .ok (.ireturn, 1) := by decide +kernel
theorem dX10_await_28 : decode cX10_await 28 = .ok (.aload_n 0, 1) := by decide +kernel
theorem dX10_await_29 : decode cX10_await 29 = .ok (.dup, 1) := by decide +kernel
theorem dX10_await_30 : decode cX10_await 30 = .ok (.getfield 184, 3) := by decide +kernel
theorem dX10_await_33 : decode cX10_await 33 = .ok (.iload_n 1, 1) := by decide +kernel
theorem dX10_await_34 : decode cX10_await 34 = .ok (.iadd, 1) := by decide +kernel
theorem dX10_await_35 : decode cX10_await 35 = .ok (.putfield 184, 3) := by decide +kernel
theorem dX10_await_38 : decode cX10_await 38 = .ok (.aload_n 0, 1) := by decide +kernel
theorem dX10_await_39 : decode cX10_await 39 = .ok (.getfield 184, 3) := by decide +kernel
theorem dX10_await_42 : decode cX10_await 42 = .ok (.ireturn, 1) := by decide +kernel
theorem dX10_here_0 : decode cX10_here 0 = .ok (.iload_n 1, 1) := by decide +kernel
theorem dX10_here_1 : decode cX10_here 1 = .ok (.tableswitch 67 0 3 #[31, 36, 41, 54], 31) := by decide +kernel
theorem dX10_here_32 : decode cX10_here 32 = .ok (.aload_n 0, 1) := by decide +kernel
theorem dX10_here_33 : decode cX10_here 33 = .ok (.getfield 181, 3) := by decide +kernel
theorem dX10_here_36 : decode cX10_here 36 = .ok (.ireturn, 1) := by decide +kernel
theorem dX10_here_37 : decode cX10_here 37 = .ok (.aload_n 0, 1) := by decide +kernel
theorem dX10_here_38 : decode cX10_here 38 = .ok (.getfield 184, 3) := by decide +kernel
theorem dX10_here_41 : decode cX10_here 41 = .ok (.ireturn, 1) := by decide +kernel
theorem dX10_here_42 : decode cX10_here 42 = .ok (.aload_n 0, 1) := by decide +kernel
theorem dX10_here_43 : decode cX10_here 43 = .ok (.aload_n 0, 1) := by decide +kernel
theorem dX10_here_44 : decode cX10_here 44 = .ok (.getfield 181, 3) := by decide +kernel
theorem dX10_here_47 : decode cX10_here 47 = .ok (.aload_n 0, 1) := by decide +kernel
theorem dX10_here_48 : decode cX10_here 48 = .ok (.getfield 184, 3) := by decide +kernel
theorem dX10_here_51 : decode cX10_here 51 = .ok (.invokevirtual 205, 3) := by decide +kernel
theorem dX10_here_54 : decode cX10_here 54 = .ok (.ireturn, 1) := by decide +kernel
theorem dX10_here_55 : decode cX10_here 55 = .ok (.aload_n 0, 1) := by decide +kernel
theorem dX10_here_56 : decode cX10_here 56 = .ok (.aload_n 0, 1) := by decide +kernel
theorem dX10_here_57 : decode cX10_here 57 = .ok (.getfield 181, 3) := by decide +kernel
theorem dX10_here_60 : decode cX10_here 60 = .ok (.aload_n 0, 1) := by decide +kernel
theorem dX10_here_61 : decode cX10_here 61 = .ok (.getfield 184, 3) := by decide +kernel
theorem dX10_here_64 : decode cX10_here 64 = .ok (.invokevirtual 209, 3) := by decide +kernel
theorem dX10_here_67 : decode cX10_here 67 = .ok (.ireturn, 1) := by decide +kernel
theorem dX10_here_68 : decode cX10_here 68 = .ok (.bipush (-3), 2) := by decide +kernel
theorem dX10_here_70 : decode cX10_here 70 = .ok (.ireturn, 1) := by decide +kernel
theorem dX10_keep_0 : decode cX10_keep 0 = .ok (.iload_n 1, 1) := by decide +kernel
theorem dX10_keep_1 : decode cX10_keep 1 = .ok (.iconst 0, 1) := by decide +kernel
theorem dX10_keep_2 : decode cX10_keep 2 = .ok (.iconst 1, 1) := by decide +kernel
theorem dX10_keep_3 : decode cX10_keep 3 = .ok (.invokestatic 69, 3) := by decide +kernel
theorem dX10_keep_6 : decode cX10_keep 6 = .ok (.ifCond .ne 6, 3) := by decide +kernel
theorem dX10_keep_9 : decode cX10_keep 9 = .ok (.bipush (-2), 2) := by decide +kernel
theorem dX10_keep_11 : decode cX10_keep 11 = .ok (.ireturn, 1) := by decide +kernel
theorem dX10_keep_12 : decode cX10_keep 12 = .ok (.aload_n 0, 1) := by decide +kernel
theorem dX10_keep_13 : decode cX10_keep 13 = .ok (.getfield 38, 3) := by decide +kernel
theorem dX10_keep_16 : decode cX10_keep 16 = .ok (.iconst 2, 1) := by decide +kernel
theorem dX10_keep_17 : decode cX10_keep 17 = .ok (.iload_n 1, 1) := by decide +kernel
theorem dX10_keep_18 : decode cX10_keep 18 = .ok (.imul, 1) := by decide +kernel
theorem dX10_keep_19 : decode cX10_keep 19 = .ok (.aload_n 0, 1) := by decide +kernel
theorem dX10_keep_20 : decode cX10_keep 20 = .ok (.getfield 181, 3) := by decide +kernel
theorem dX10_keep_23 : decode cX10_keep 23 = .ok (.iastore, 1) := by decide +kernel
theorem dX10_keep_24 : decode cX10_keep 24 = .ok (.aload_n 0, 1) := by decide +kernel
theorem dX10_keep_25 : decode cX10_keep 25 = .ok (.getfield 38, 3) := by decide +kernel
theorem dX10_keep_28 : decode cX10_keep 28 = .ok (.iconst 2, 1) := by decide +kernel
theorem dX10_keep_29 : decode cX10_keep 29 = .ok (.iload_n 1, 1) := by decide +kernel
theorem dX10_keep_30 : decode cX10_keep 30 = .ok (.imul, 1) := by decide +kernel
theorem dX10_keep_31 : decode cX10_keep 31 = .ok (.iconst 1, 1) := by decide +kernel
theorem dX10_keep_32 : decode cX10_keep 32 = .ok (.iadd, 1) := by decide +kernel
theorem dX10_keep_33 : decode cX10_keep 33 = .ok (.aload_n 0, 1) := by decide +kernel
theorem dX10_keep_34 : decode cX10_keep 34 = .ok (.getfield 184, 3) := by decide +kernel
theorem dX10_keep_37 : decode cX10_keep 37 = .ok (.iastore, 1) := by decide +kernel
theorem dX10_keep_38 : decode cX10_keep 38 = .ok (.aload_n 0, 1) := by decide +kernel
theorem dX10_keep_39 : decode cX10_keep 39 = .ok (.getfield 41, 3) := by decide +kernel
theorem dX10_keep_42 : decode cX10_keep 42 = .ok (.iload_n 1, 1) := by decide +kernel
theorem dX10_keep_43 : decode cX10_keep 43 = .ok (.iconst 1, 1) := by decide +kernel
theorem dX10_keep_44 : decode cX10_keep 44 = .ok (.bastore, 1) := by decide +kernel
theorem dX10_keep_45 : decode cX10_keep 45 = .ok (.aload_n 0, 1) := by decide +kernel
theorem dX10_keep_46 : decode cX10_keep 46 = .ok (.getfield 184, 3) := by decide +kernel
theorem dX10_keep_49 : decode cX10_keep 49 = .ok (.ireturn, 1) := by decide +kernel
theorem dX10_back_0 : decode cX10_back 0 = .ok (.iload_n 1, 1) := by decide +kernel
theorem dX10_back_1 : decode cX10_back 1 = .ok (.iconst 0, 1) := by decide +kernel
theorem dX10_back_2 : decode cX10_back 2 = .ok (.iconst 1, 1) := by decide +kernel
theorem dX10_back_3 : decode cX10_back 3 = .ok (.invokestatic 69, 3) := by decide +kernel
theorem dX10_back_6 : decode cX10_back 6 = .ok (.ifCond .ne 6, 3) := by decide +kernel
theorem dX10_back_9 : decode cX10_back 9 = .ok (.bipush (-2), 2) := by decide +kernel
theorem dX10_back_11 : decode cX10_back 11 = .ok (.ireturn, 1) := by decide +kernel
theorem dX10_back_12 : decode cX10_back 12 = .ok (.aload_n 0, 1) := by decide +kernel
theorem dX10_back_13 : decode cX10_back 13 = .ok (.getfield 41, 3) := by decide +kernel
theorem dX10_back_16 : decode cX10_back 16 = .ok (.iload_n 1, 1) := by decide +kernel
theorem dX10_back_17 : decode cX10_back 17 = .ok (.baload, 1) := by decide +kernel
theorem dX10_back_18 : decode cX10_back 18 = .ok (.ifCond .ne 6, 3) := by decide +kernel
theorem dX10_back_21 : decode cX10_back 21 = .ok (.bipush (-4), 2) := by decide +kernel
theorem dX10_back_23 : decode cX10_back 23 = .ok (.ireturn, 1) := by decide +kernel
theorem dX10_back_24 : decode cX10_back 24 = .ok (.aload_n 0, 1) := by decide +kernel
theorem dX10_back_25 : decode cX10_back 25 = .ok (.aload_n 0, 1) := by decide +kernel
theorem dX10_back_26 : decode cX10_back 26 = .ok (.getfield 38, 3) := by decide +kernel
theorem dX10_back_29 : decode cX10_back 29 = .ok (.iconst 2, 1) := by decide +kernel
theorem dX10_back_30 : decode cX10_back 30 = .ok (.iload_n 1, 1) := by decide +kernel
theorem dX10_back_31 : decode cX10_back 31 = .ok (.imul, 1) := by decide +kernel
theorem dX10_back_32 : decode cX10_back 32 = .ok (.iaload, 1) := by decide +kernel
theorem dX10_back_33 : decode cX10_back 33 = .ok (.putfield 181, 3) := by decide +kernel
theorem dX10_back_36 : decode cX10_back 36 = .ok (.aload_n 0, 1) := by decide +kernel
theorem dX10_back_37 : decode cX10_back 37 = .ok (.aload_n 0, 1) := by decide +kernel
theorem dX10_back_38 : decode cX10_back 38 = .ok (.getfield 38, 3) := by decide +kernel
theorem dX10_back_41 : decode cX10_back 41 = .ok (.iconst 2, 1) := by decide +kernel
theorem dX10_back_42 : decode cX10_back 42 = .ok (.iload_n 1, 1) := by decide +kernel
theorem dX10_back_43 : decode cX10_back 43 = .ok (.imul, 1) := by decide +kernel
theorem dX10_back_44 : decode cX10_back 44 = .ok (.iconst 1, 1) := by decide +kernel
theorem dX10_back_45 : decode cX10_back 45 = .ok (.iadd, 1) := by decide +kernel
theorem dX10_back_46 : decode cX10_back 46 = .ok (.iaload, 1) := by decide +kernel
theorem dX10_back_47 : decode cX10_back 47 = .ok (.putfield 184, 3) := by decide +kernel
theorem dX10_back_50 : decode cX10_back 50 = .ok (.aload_n 0, 1) := by decide +kernel
theorem dX10_back_51 : decode cX10_back 51 = .ok (.getfield 184, 3) := by decide +kernel
theorem dX10_back_54 : decode cX10_back 54 = .ok (.ireturn, 1) := by decide +kernel
theorem dX10_isAhead_0 : decode cX10_isAhead 0 = .ok (.aload_n 0, 1) := by decide +kernel
theorem dX10_isAhead_1 : decode cX10_isAhead 1 = .ok (.iload_n 1, 1) := by decide +kernel
theorem dX10_isAhead_2 : decode cX10_isAhead 2 = .ok (.invokevirtual 218, 3) := by decide +kernel
theorem dX10_isAhead_5 : decode cX10_isAhead 5 = .ok (.aload_n 0, 1) := by decide +kernel
theorem dX10_isAhead_6 : decode cX10_isAhead 6 = .ok (.iload_n 2, 1) := by decide +kernel
theorem dX10_isAhead_7 : decode cX10_isAhead 7 = .ok (.invokevirtual 218, 3) := by decide +kernel
theorem dX10_isAhead_10 : decode cX10_isAhead 10 = .ok (.if_icmp .lt 21, 3) := by decide +kernel
theorem dX10_isAhead_13 : decode cX10_isAhead 13 = .ok (.aload_n 0, 1) := by decide +kernel
theorem dX10_isAhead_14 : decode cX10_isAhead 14 = .ok (.iload_n 1, 1) := by decide +kernel
theorem dX10_isAhead_15 : decode cX10_isAhead 15 = .ok (.invokevirtual 218, 3) := by decide +kernel
theorem dX10_isAhead_18 : decode cX10_isAhead 18 = .ok (.aload_n 0, 1) := by decide +kernel
theorem dX10_isAhead_19 : decode cX10_isAhead 19 = .ok (.iload_n 2, 1) := by decide +kernel
theorem dX10_isAhead_20 : decode cX10_isAhead 20 = .ok (.invokevirtual 218, 3) := by decide +kernel
theorem dX10_isAhead_23 : decode cX10_isAhead 23 = .ok (.if_icmp .ne 12, 3) := by decide +kernel
theorem dX10_isAhead_26 : decode cX10_isAhead 26 = .ok (.iload_n 1, 1) := by decide +kernel
theorem dX10_isAhead_27 : decode cX10_isAhead 27 = .ok (.iload_n 2, 1) := by decide +kernel
theorem dX10_isAhead_28 : decode cX10_isAhead 28 = .ok (.if_icmp .ge 7, 3) := by decide +kernel
theorem dX10_isAhead_31 : decode cX10_isAhead 31 = .ok (.iconst 1, 1) := by decide +kernel
theorem dX10_isAhead_32 : decode cX10_isAhead 32 = .ok (.goto 4, 3) := by decide +kernel
theorem dX10_isAhead_35 : decode cX10_isAhead 35 = .ok (.iconst 0, 1) := by decide +kernel
theorem dX10_isAhead_36 : decode cX10_isAhead 36 = .ok (.ireturn, 1) := by decide +kernel
theorem dX10_order_0 : decode cX10_order 0 = .ok (.iload_n 1, 1) := by decide +kernel
theorem dX10_order_1 : decode cX10_order 1 = .ok (.ifCond .ge 6, 3) := by decide +kernel
theorem dX10_order_4 : decode cX10_order 4 = .ok (.bipush (-3), 2) := by decide +kernel
theorem dX10_order_6 : decode cX10_order 6 = .ok (.ireturn, 1) := by decide +kernel
theorem dX10_order_7 : decode cX10_order 7 = .ok (.iconst 0, 1) := by decide +kernel
theorem dX10_order_8 : decode cX10_order 8 = .ok (.istore_n 2, 1) := by decide +kernel
theorem dX10_order_9 : decode cX10_order 9 = .ok (.iload_n 2, 1) := by decide +kernel
theorem dX10_order_10 : decode cX10_order 10 = .ok (.aload_n 0, 1) := by decide +kernel
theorem dX10_order_11 : decode cX10_order 11 = .ok (.getfield 73, 3) := by decide +kernel
theorem dX10_order_14 : decode cX10_order 14 = .ok (.if_icmp .ge 54, 3) := by decide +kernel
theorem dX10_order_17 : decode cX10_order 17 = .ok (.iconst 0, 1) := by decide +kernel
theorem dX10_order_18 : decode cX10_order 18 = .ok (.istore_n 3, 1) := by decide +kernel
theorem dX10_order_19 : decode cX10_order 19 = .ok (.iconst 0, 1) := by decide +kernel
theorem dX10_order_20 : decode cX10_order 20 = .ok (.istore 4, 2) := by decide +kernel
theorem dX10_order_22 : decode cX10_order 22 = .ok (.iload 4, 2) := by decide +kernel
theorem dX10_order_24 : decode cX10_order 24 = .ok (.aload_n 0, 1) := by decide +kernel
theorem dX10_order_25 : decode cX10_order 25 = .ok (.getfield 73, 3) := by decide +kernel
theorem dX10_order_28 : decode cX10_order 28 = .ok (.if_icmp .ge 27, 3) := by decide +kernel
theorem dX10_order_31 : decode cX10_order 31 = .ok (.iload_n 3, 1) := by decide +kernel
theorem dX10_order_32 : decode cX10_order 32 = .ok (.aload_n 0, 1) := by decide +kernel
theorem dX10_order_33 : decode cX10_order 33 = .ok (.iload 4, 2) := by decide +kernel
theorem dX10_order_35 : decode cX10_order 35 = .ok (.iload_n 2, 1) := by decide +kernel
theorem dX10_order_36 : decode cX10_order 36 = .ok (.invokevirtual 221, 3) := by decide +kernel
theorem dX10_order_39 : decode cX10_order 39 = .ok (.ifCond .eq 7, 3) := by decide +kernel
theorem dX10_order_42 : decode cX10_order 42 = .ok (.iconst 1, 1) := by decide +kernel
theorem dX10_order_43 : decode cX10_order 43 = .ok (.goto 4, 3) := by decide +kernel
theorem dX10_order_46 : decode cX10_order 46 = .ok (.iconst 0, 1) := by decide +kernel
theorem dX10_order_47 : decode cX10_order 47 = .ok (.iadd, 1) := by decide +kernel
theorem dX10_order_48 : decode cX10_order 48 = .ok (.istore_n 3, 1) := by decide +kernel
theorem dX10_order_49 : decode cX10_order 49 = .ok (.iinc 4 1, 3) := by decide +kernel
theorem dX10_order_52 : decode cX10_order 52 = .ok (.goto (-30), 3) := by decide +kernel
theorem dX10_order_55 : decode cX10_order 55 = .ok (.iload_n 3, 1) := by decide +kernel
theorem dX10_order_56 : decode cX10_order 56 = .ok (.iload_n 1, 1) := by decide +kernel
theorem dX10_order_57 : decode cX10_order 57 = .ok (.if_icmp .ne 5, 3) := by decide +kernel
theorem dX10_order_60 : decode cX10_order 60 = .ok (.iload_n 2, 1) := by decide +kernel
theorem dX10_order_61 : decode cX10_order 61 = .ok (.ireturn, 1) := by decide +kernel
theorem dX10_order_62 : decode cX10_order 62 = .ok (.iinc 2 1, 3) := by decide +kernel
theorem dX10_order_65 : decode cX10_order 65 = .ok (.goto (-56), 3) := by decide +kernel
theorem dX10_order_68 : decode cX10_order 68 = .ok (.iconst (-1), 1) := by decide +kernel
theorem dX10_order_69 : decode cX10_order 69 = .ok (.ireturn, 1) := by decide +kernel
theorem dX10_leftBehind_0 : decode cX10_leftBehind 0 = .ok (.aload_n 0, 1) := by decide +kernel
theorem dX10_leftBehind_1 : decode cX10_leftBehind 1 = .ok (.iload_n 2, 1) := by decide +kernel
theorem dX10_leftBehind_2 : decode cX10_leftBehind 2 = .ok (.invokevirtual 218, 3) := by decide +kernel
theorem dX10_leftBehind_5 : decode cX10_leftBehind 5 = .ok (.aload_n 0, 1) := by decide +kernel
theorem dX10_leftBehind_6 : decode cX10_leftBehind 6 = .ok (.iload_n 1, 1) := by decide +kernel
theorem dX10_leftBehind_7 : decode cX10_leftBehind 7 = .ok (.invokevirtual 218, 3) := by decide +kernel
theorem dX10_leftBehind_10 : decode cX10_leftBehind 10 = .ok (.isub, 1) := by decide +kernel
theorem dX10_leftBehind_11 : decode cX10_leftBehind 11 = .ok (.aload_n 0, 1) := by decide +kernel
theorem dX10_leftBehind_12 : decode cX10_leftBehind 12 = .ok (.getfield 23, 3) := by decide +kernel
theorem dX10_leftBehind_15 : decode cX10_leftBehind 15 = .ok (.iconst 3, 1) := by decide +kernel
theorem dX10_leftBehind_16 : decode cX10_leftBehind 16 = .ok (.iload_n 1, 1) := by decide +kernel
theorem dX10_leftBehind_17 : decode cX10_leftBehind 17 = .ok (.imul, 1) := by decide +kernel
theorem dX10_leftBehind_18 : decode cX10_leftBehind 18 = .ok (.iconst 2, 1) := by decide +kernel
theorem dX10_leftBehind_19 : decode cX10_leftBehind 19 = .ok (.iadd, 1) := by decide +kernel
theorem dX10_leftBehind_20 : decode cX10_leftBehind 20 = .ok (.iaload, 1) := by decide +kernel
theorem dX10_leftBehind_21 : decode cX10_leftBehind 21 = .ok (.isub, 1) := by decide +kernel
theorem dX10_leftBehind_22 : decode cX10_leftBehind 22 = .ok (.aload_n 0, 1) := by decide +kernel
theorem dX10_leftBehind_23 : decode cX10_leftBehind 23 = .ok (.getfield 29, 3) := by decide +kernel
theorem dX10_leftBehind_26 : decode cX10_leftBehind 26 = .ok (.bipush 10, 2) := by decide +kernel
theorem dX10_leftBehind_28 : decode cX10_leftBehind 28 = .ok (.aload_n 0, 1) := by decide +kernel
theorem dX10_leftBehind_29 : decode cX10_leftBehind 29 = .ok (.getfield 23, 3) := by decide +kernel
theorem dX10_leftBehind_32 : decode cX10_leftBehind 32 = .ok (.iconst 3, 1) := by decide +kernel
theorem dX10_leftBehind_33 : decode cX10_leftBehind 33 = .ok (.iload_n 1, 1) := by decide +kernel
theorem dX10_leftBehind_34 : decode cX10_leftBehind 34 = .ok (.imul, 1) := by decide +kernel
theorem dX10_leftBehind_35 : decode cX10_leftBehind 35 = .ok (.iaload, 1) := by decide +kernel
theorem dX10_leftBehind_36 : decode cX10_leftBehind 36 = .ok (.imul, 1) := by decide +kernel
theorem dX10_leftBehind_37 : decode cX10_leftBehind 37 = .ok (.aload_n 0, 1) := by decide +kernel
theorem dX10_leftBehind_38 : decode cX10_leftBehind 38 = .ok (.getfield 23, 3) := by decide +kernel
theorem dX10_leftBehind_41 : decode cX10_leftBehind 41 = .ok (.iconst 3, 1) := by decide +kernel
theorem dX10_leftBehind_42 : decode cX10_leftBehind 42 = .ok (.iload_n 2, 1) := by decide +kernel
theorem dX10_leftBehind_43 : decode cX10_leftBehind 43 = .ok (.imul, 1) := by decide +kernel
theorem dX10_leftBehind_44 : decode cX10_leftBehind 44 = .ok (.iaload, 1) := by decide +kernel
theorem dX10_leftBehind_45 : decode cX10_leftBehind 45 = .ok (.iadd, 1) := by decide +kernel
theorem dX10_leftBehind_46 : decode cX10_leftBehind 46 = .ok (.iaload, 1) := by decide +kernel
theorem dX10_leftBehind_47 : decode cX10_leftBehind 47 = .ok (.isub, 1) := by decide +kernel
theorem dX10_leftBehind_48 : decode cX10_leftBehind 48 = .ok (.ireturn, 1) := by decide +kernel
theorem dX10_can_0 : decode cX10_can 0 = .ok (.aload_n 0, 1) := by decide +kernel
theorem dX10_can_1 : decode cX10_can 1 = .ok (.iload_n 1, 1) := by decide +kernel
theorem dX10_can_2 : decode cX10_can 2 = .ok (.iload_n 2, 1) := by decide +kernel
theorem dX10_can_3 : decode cX10_can 3 = .ok (.invokevirtual 221, 3) := by decide +kernel
theorem dX10_can_6 : decode cX10_can 6 = .ok (.ifCond .eq 16, 3) := by decide +kernel
theorem dX10_can_9 : decode cX10_can 9 = .ok (.aload_n 0, 1) := by decide +kernel
theorem dX10_can_10 : decode cX10_can 10 = .ok (.iload_n 1, 1) := by decide +kernel
theorem dX10_can_11 : decode cX10_can 11 = .ok (.iload_n 2, 1) := by decide +kernel
theorem dX10_can_12 : decode cX10_can 12 = .ok (.invokevirtual 225, 3) := by decide +kernel
theorem dX10_can_15 : decode cX10_can 15 = .ok (.ifCond .lt 7, 3) := by decide +kernel
theorem dX10_can_18 : decode cX10_can 18 = .ok (.iconst 1, 1) := by decide +kernel
theorem dX10_can_19 : decode cX10_can 19 = .ok (.goto 4, 3) := by decide +kernel
theorem dX10_can_22 : decode cX10_can 22 = .ok (.iconst 0, 1) := by decide +kernel
theorem dX10_can_23 : decode cX10_can 23 = .ok (.ireturn, 1) := by decide +kernel
theorem dX10_behind_0 : decode cX10_behind 0 = .ok (.aload_n 0, 1) := by decide +kernel
theorem dX10_behind_1 : decode cX10_behind 1 = .ok (.iload_n 1, 1) := by decide +kernel
theorem dX10_behind_2 : decode cX10_behind 2 = .ok (.invokevirtual 215, 3) := by decide +kernel
theorem dX10_behind_5 : decode cX10_behind 5 = .ok (.ifCond .eq 11, 3) := by decide +kernel
theorem dX10_behind_8 : decode cX10_behind 8 = .ok (.aload_n 0, 1) := by decide +kernel
theorem dX10_behind_9 : decode cX10_behind 9 = .ok (.iload_n 2, 1) := by decide +kernel
theorem dX10_behind_10 : decode cX10_behind 10 = .ok (.invokevirtual 215, 3) := by decide +kernel
theorem dX10_behind_13 : decode cX10_behind 13 = .ok (.ifCond .ne 6, 3) := by decide +kernel
theorem dX10_behind_16 : decode cX10_behind 16 = .ok (.bipush (-2), 2) := by decide +kernel
theorem dX10_behind_18 : decode cX10_behind 18 = .ok (.ireturn, 1) := by decide +kernel
theorem dX10_behind_19 : decode cX10_behind 19 = .ok (.aload_n 0, 1) := by decide +kernel
theorem dX10_behind_20 : decode cX10_behind 20 = .ok (.iload_n 1, 1) := by decide +kernel
theorem dX10_behind_21 : decode cX10_behind 21 = .ok (.iload_n 2, 1) := by decide +kernel
theorem dX10_behind_22 : decode cX10_behind 22 = .ok (.invokevirtual 228, 3) := by decide +kernel
theorem dX10_behind_25 : decode cX10_behind 25 = .ok (.ifCond .eq 15, 3) := by decide +kernel
theorem dX10_behind_28 : decode cX10_behind 28 = .ok (.aload_n 0, 1) := by decide +kernel
theorem dX10_behind_29 : decode cX10_behind 29 = .ok (.iload_n 1, 1) := by decide +kernel
theorem dX10_behind_30 : decode cX10_behind 30 = .ok (.iload_n 2, 1) := by decide +kernel
theorem dX10_behind_31 : decode cX10_behind 31 = .ok (.invokevirtual 225, 3) := by decide +kernel
theorem dX10_behind_34 : decode cX10_behind 34 = .ok (.ldc 82, 2) := by decide +kernel
theorem dX10_behind_36 : decode cX10_behind 36 = .ok (.iadd, 1) := by decide +kernel
theorem dX10_behind_37 : decode cX10_behind 37 = .ok (.goto 4, 3) := by decide +kernel
theorem dX10_behind_40 : decode cX10_behind 40 = .ok (.iconst (-1), 1) := by decide +kernel
theorem dX10_behind_41 : decode cX10_behind 41 = .ok (.ireturn, 1) := by decide +kernel
theorem dX10_layFrom_0 : decode cX10_layFrom 0 = .ok (.iconst 0, 1) := by decide +kernel
theorem dX10_layFrom_1 : decode cX10_layFrom 1 = .ok (.istore_n 2, 1) := by decide +kernel
theorem dX10_layFrom_2 : decode cX10_layFrom 2 = .ok (.iload_n 2, 1) := by decide +kernel
theorem dX10_layFrom_3 : decode cX10_layFrom 3 = .ok (.aload_n 0, 1) := by decide +kernel
theorem dX10_layFrom_4 : decode cX10_layFrom 4 = .ok (.getfield 73, 3) := by decide +kernel
theorem dX10_layFrom_7 : decode cX10_layFrom 7 = .ok (.if_icmp .ge 30, 3) := by decide +kernel
theorem dX10_layFrom_10 : decode cX10_layFrom 10 = .ok (.aload_n 0, 1) := by decide +kernel
theorem dX10_layFrom_11 : decode cX10_layFrom 11 = .ok (.getfield 54, 3) := by decide +kernel
theorem dX10_layFrom_14 : decode cX10_layFrom 14 = .ok (.iload_n 2, 1) := by decide +kernel
theorem dX10_layFrom_15 : decode cX10_layFrom 15 = .ok (.iload_n 1, 1) := by decide +kernel
theorem dX10_layFrom_16 : decode cX10_layFrom 16 = .ok (.iconst (-1), 1) := by decide +kernel
theorem dX10_layFrom_17 : decode cX10_layFrom 17 = .ok (.if_icmp .eq 8, 3) := by decide +kernel
theorem dX10_layFrom_20 : decode cX10_layFrom 20 = .ok (.iload_n 2, 1) := by decide +kernel
theorem dX10_layFrom_21 : decode cX10_layFrom 21 = .ok (.iload_n 1, 1) := by decide +kernel
theorem dX10_layFrom_22 : decode cX10_layFrom 22 = .ok (.if_icmp .ne 7, 3) := by decide +kernel
theorem dX10_layFrom_25 : decode cX10_layFrom 25 = .ok (.iconst 1, 1) := by decide +kernel
theorem dX10_layFrom_26 : decode cX10_layFrom 26 = .ok (.goto 4, 3) := by decide +kernel
theorem dX10_layFrom_29 : decode cX10_layFrom 29 = .ok (.iconst (-1), 1) := by decide +kernel
theorem dX10_layFrom_30 : decode cX10_layFrom 30 = .ok (.iastore, 1) := by decide +kernel
theorem dX10_layFrom_31 : decode cX10_layFrom 31 = .ok (.iinc 2 1, 3) := by decide +kernel
theorem dX10_layFrom_34 : decode cX10_layFrom 34 = .ok (.goto (-32), 3) := by decide +kernel
theorem dX10_layFrom_37 : decode cX10_layFrom 37 = .ok (.iconst 0, 1) := by decide +kernel
theorem dX10_layFrom_38 : decode cX10_layFrom 38 = .ok (.istore_n 2, 1) := by decide +kernel
theorem dX10_layFrom_39 : decode cX10_layFrom 39 = .ok (.iload_n 2, 1) := by decide +kernel
theorem dX10_layFrom_40 : decode cX10_layFrom 40 = .ok (.aload_n 0, 1) := by decide +kernel
theorem dX10_layFrom_41 : decode cX10_layFrom 41 = .ok (.getfield 73, 3) := by decide +kernel
theorem dX10_layFrom_44 : decode cX10_layFrom 44 = .ok (.if_icmp .ge 101, 3) := by decide +kernel
theorem dX10_layFrom_47 : decode cX10_layFrom 47 = .ok (.iconst 0, 1) := by decide +kernel
theorem dX10_layFrom_48 : decode cX10_layFrom 48 = .ok (.istore_n 3, 1) := by decide +kernel
theorem dX10_layFrom_49 : decode cX10_layFrom 49 = .ok (.iload_n 3, 1) := by decide +kernel
theorem dX10_layFrom_50 : decode cX10_layFrom 50 = .ok (.aload_n 0, 1) := by decide +kernel
theorem dX10_layFrom_51 : decode cX10_layFrom 51 = .ok (.getfield 73, 3) := by decide +kernel
theorem dX10_layFrom_54 : decode cX10_layFrom 54 = .ok (.if_icmp .ge 85, 3) := by decide +kernel
theorem dX10_layFrom_57 : decode cX10_layFrom 57 = .ok (.iconst 0, 1) := by decide +kernel
theorem dX10_layFrom_58 : decode cX10_layFrom 58 = .ok (.istore 4, 2) := by decide +kernel
theorem dX10_layFrom_60 : decode cX10_layFrom 60 = .ok (.iload 4, 2) := by decide +kernel
theorem dX10_layFrom_62 : decode cX10_layFrom 62 = .ok (.aload_n 0, 1) := by decide +kernel
theorem dX10_layFrom_63 : decode cX10_layFrom 63 = .ok (.getfield 73, 3) := by decide +kernel
theorem dX10_layFrom_66 : decode cX10_layFrom 66 = .ok (.if_icmp .ge 67, 3) := by decide +kernel
theorem dX10_layFrom_69 : decode cX10_layFrom 69 = .ok (.iload_n 3, 1) := by decide +kernel
theorem dX10_layFrom_70 : decode cX10_layFrom 70 = .ok (.iload_n 1, 1) := by decide +kernel
theorem dX10_layFrom_71 : decode cX10_layFrom 71 = .ok (.if_icmp .eq 56, 3) := by decide +kernel
theorem dX10_layFrom_74 : decode cX10_layFrom 74 = .ok (.aload_n 0, 1) := by decide +kernel
theorem dX10_layFrom_75 : decode cX10_layFrom 75 = .ok (.getfield 54, 3) := by decide +kernel
theorem dX10_layFrom_78 : decode cX10_layFrom 78 = .ok (.iload 4, 2) := by decide +kernel
theorem dX10_layFrom_80 : decode cX10_layFrom 80 = .ok (.iaload, 1) := by decide +kernel
theorem dX10_layFrom_81 : decode cX10_layFrom 81 = .ok (.ifCond .le 46, 3) := by decide +kernel
theorem dX10_layFrom_84 : decode cX10_layFrom 84 = .ok (.aload_n 0, 1) := by decide +kernel
theorem dX10_layFrom_85 : decode cX10_layFrom 85 = .ok (.iload_n 3, 1) := by decide +kernel
theorem dX10_layFrom_86 : decode cX10_layFrom 86 = .ok (.iload 4, 2) := by decide +kernel
theorem dX10_layFrom_88 : decode cX10_layFrom 88 = .ok (.invokevirtual 228, 3) := by decide +kernel
theorem dX10_layFrom_91 : decode cX10_layFrom 91 = .ok (.ifCond .eq 36, 3) := by decide +kernel
theorem dX10_layFrom_94 : decode cX10_layFrom 94 = .ok (.aload_n 0, 1) := by decide +kernel
theorem dX10_layFrom_95 : decode cX10_layFrom 95 = .ok (.getfield 54, 3) := by decide +kernel
theorem dX10_layFrom_98 : decode cX10_layFrom 98 = .ok (.iload 4, 2) := by decide +kernel
theorem dX10_layFrom_100 : decode cX10_layFrom 100 = .ok (.iaload, 1) := by decide +kernel
theorem dX10_layFrom_101 : decode cX10_layFrom 101 = .ok (.iconst 1, 1) := by decide +kernel
theorem dX10_layFrom_102 : decode cX10_layFrom 102 = .ok (.iadd, 1) := by decide +kernel
theorem dX10_layFrom_103 : decode cX10_layFrom 103 = .ok (.aload_n 0, 1) := by decide +kernel
theorem dX10_layFrom_104 : decode cX10_layFrom 104 = .ok (.getfield 54, 3) := by decide +kernel
theorem dX10_layFrom_107 : decode cX10_layFrom 107 = .ok (.iload_n 3, 1) := by decide +kernel
theorem dX10_layFrom_108 : decode cX10_layFrom 108 = .ok (.iaload, 1) := by decide +kernel
theorem dX10_layFrom_109 : decode cX10_layFrom 109 = .ok (.if_icmp .le 18, 3) := by decide +kernel
theorem dX10_layFrom_112 : decode cX10_layFrom 112 = .ok (.aload_n 0, 1) := by decide +kernel
theorem dX10_layFrom_113 : decode cX10_layFrom 113 = .ok (.getfield 54, 3) := by decide +kernel
theorem dX10_layFrom_116 : decode cX10_layFrom 116 = .ok (.iload_n 3, 1) := by decide +kernel
theorem dX10_layFrom_117 : decode cX10_layFrom 117 = .ok (.aload_n 0, 1) := by decide +kernel
theorem dX10_layFrom_118 : decode cX10_layFrom 118 = .ok (.getfield 54, 3) := by decide +kernel
theorem dX10_layFrom_121 : decode cX10_layFrom 121 = .ok (.iload 4, 2) := by decide +kernel
theorem dX10_layFrom_123 : decode cX10_layFrom 123 = .ok (.iaload, 1) := by decide +kernel
theorem dX10_layFrom_124 : decode cX10_layFrom 124 = .ok (.iconst 1, 1) := by decide +kernel
theorem dX10_layFrom_125 : decode cX10_layFrom 125 = .ok (.iadd, 1) := by decide +kernel
theorem dX10_layFrom_126 : decode cX10_layFrom 126 = .ok (.iastore, 1) := by decide +kernel
theorem dX10_layFrom_127 : decode cX10_layFrom 127 = .ok (.iinc 4 1, 3) := by decide +kernel
theorem dX10_layFrom_130 : decode cX10_layFrom 130 = .ok (.goto (-70), 3) := by decide +kernel
theorem dX10_layFrom_133 : decode cX10_layFrom 133 = .ok (.iinc 3 1, 3) := by decide +kernel
theorem dX10_layFrom_136 : decode cX10_layFrom 136 = .ok (.goto (-87), 3) := by decide +kernel
theorem dX10_layFrom_139 : decode cX10_layFrom 139 = .ok (.iinc 2 1, 3) := by decide +kernel
theorem dX10_layFrom_142 : decode cX10_layFrom 142 = .ok (.goto (-103), 3) := by decide +kernel
theorem dX10_layFrom_145 : decode cX10_layFrom 145 = .ok (.return_, 1) := by decide +kernel
theorem dX10_most_0 : decode cX10_most 0 = .ok (.iload_n 1, 1) := by decide +kernel
theorem dX10_most_1 : decode cX10_most 1 = .ok (.iconst (-1), 1) := by decide +kernel
theorem dX10_most_2 : decode cX10_most 2 = .ok (.if_icmp .eq 14, 3) := by decide +kernel
theorem dX10_most_5 : decode cX10_most 5 = .ok (.aload_n 0, 1) := by decide +kernel
theorem dX10_most_6 : decode cX10_most 6 = .ok (.iload_n 1, 1) := by decide +kernel
theorem dX10_most_7 : decode cX10_most 7 = .ok (.invokevirtual 215, 3) := by decide +kernel
theorem dX10_most_10 : decode cX10_most 10 = .ok (.ifCond .ne 6, 3) := by decide +kernel
theorem dX10_most_13 : decode cX10_most 13 = .ok (.bipush (-2), 2) := by decide +kernel
theorem dX10_most_15 : decode cX10_most 15 = .ok (.ireturn, 1) := by decide +kernel
theorem dX10_most_16 : decode cX10_most 16 = .ok (.iload_n 2, 1) := by decide +kernel
theorem dX10_most_17 : decode cX10_most 17 = .ok (.iconst (-1), 1) := by decide +kernel
theorem dX10_most_18 : decode cX10_most 18 = .ok (.if_icmp .ge 6, 3) := by decide +kernel
theorem dX10_most_21 : decode cX10_most 21 = .ok (.bipush (-3), 2) := by decide +kernel
theorem dX10_most_23 : decode cX10_most 23 = .ok (.ireturn, 1) := by decide +kernel
theorem dX10_most_24 : decode cX10_most 24 = .ok (.aload_n 0, 1) := by decide +kernel
theorem dX10_most_25 : decode cX10_most 25 = .ok (.iload_n 1, 1) := by decide +kernel
theorem dX10_most_26 : decode cX10_most 26 = .ok (.invokevirtual 231, 3) := by decide +kernel
theorem dX10_most_29 : decode cX10_most 29 = .ok (.iconst 0, 1) := by decide +kernel
theorem dX10_most_30 : decode cX10_most 30 = .ok (.istore_n 3, 1) := by decide +kernel
theorem dX10_most_31 : decode cX10_most 31 = .ok (.iconst 0, 1) := by decide +kernel
theorem dX10_most_32 : decode cX10_most 32 = .ok (.istore 4, 2) := by decide +kernel
theorem dX10_most_34 : decode cX10_most 34 = .ok (.iload 4, 2) := by decide +kernel
theorem dX10_most_36 : decode cX10_most 36 = .ok (.aload_n 0, 1) := by decide +kernel
theorem dX10_most_37 : decode cX10_most 37 = .ok (.getfield 73, 3) := by decide +kernel
theorem dX10_most_40 : decode cX10_most 40 = .ok (.if_icmp .ge 32, 3) := by decide +kernel
theorem dX10_most_43 : decode cX10_most 43 = .ok (.aload_n 0, 1) := by decide +kernel
theorem dX10_most_44 : decode cX10_most 44 = .ok (.getfield 54, 3) := by decide +kernel
theorem dX10_most_47 : decode cX10_most 47 = .ok (.iload 4, 2) := by decide +kernel
theorem dX10_most_49 : decode cX10_most 49 = .ok (.iaload, 1) := by decide +kernel
theorem dX10_most_50 : decode cX10_most 50 = .ok (.iload_n 3, 1) := by decide +kernel
theorem dX10_most_51 : decode cX10_most 51 = .ok (.if_icmp .le 13, 3) := by decide +kernel
theorem dX10_most_54 : decode cX10_most 54 = .ok (.aload_n 0, 1) := by decide +kernel
theorem dX10_most_55 : decode cX10_most 55 = .ok (.getfield 54, 3) := by decide +kernel
theorem dX10_most_58 : decode cX10_most 58 = .ok (.iload 4, 2) := by decide +kernel
theorem dX10_most_60 : decode cX10_most 60 = .ok (.iaload, 1) := by decide +kernel
theorem dX10_most_61 : decode cX10_most 61 = .ok (.goto 4, 3) := by decide +kernel
theorem dX10_most_64 : decode cX10_most 64 = .ok (.iload_n 3, 1) := by decide +kernel
theorem dX10_most_65 : decode cX10_most 65 = .ok (.istore_n 3, 1) := by decide +kernel
theorem dX10_most_66 : decode cX10_most 66 = .ok (.iinc 4 1, 3) := by decide +kernel
theorem dX10_most_69 : decode cX10_most 69 = .ok (.goto (-35), 3) := by decide +kernel
theorem dX10_most_72 : decode cX10_most 72 = .ok (.iload_n 2, 1) := by decide +kernel
theorem dX10_most_73 : decode cX10_most 73 = .ok (.iconst (-1), 1) := by decide +kernel
theorem dX10_most_74 : decode cX10_most 74 = .ok (.if_icmp .eq 8, 3) := by decide +kernel
theorem dX10_most_77 : decode cX10_most 77 = .ok (.iload_n 2, 1) := by decide +kernel
theorem dX10_most_78 : decode cX10_most 78 = .ok (.iload_n 3, 1) := by decide +kernel
theorem dX10_most_79 : decode cX10_most 79 = .ok (.if_icmp .lt 14, 3) := by decide +kernel
theorem dX10_most_82 : decode cX10_most 82 = .ok (.iload_n 2, 1) := by decide +kernel
theorem dX10_most_83 : decode cX10_most 83 = .ok (.iconst (-1), 1) := by decide +kernel
theorem dX10_most_84 : decode cX10_most 84 = .ok (.if_icmp .ne 7, 3) := by decide +kernel
theorem dX10_most_87 : decode cX10_most 87 = .ok (.iload_n 3, 1) := by decide +kernel
theorem dX10_most_88 : decode cX10_most 88 = .ok (.goto 4, 3) := by decide +kernel
theorem dX10_most_91 : decode cX10_most 91 = .ok (.iconst (-1), 1) := by decide +kernel
theorem dX10_most_92 : decode cX10_most 92 = .ok (.ireturn, 1) := by decide +kernel
theorem dX10_most_93 : decode cX10_most 93 = .ok (.iconst (-1), 1) := by decide +kernel
theorem dX10_most_94 : decode cX10_most 94 = .ok (.istore 4, 2) := by decide +kernel
theorem dX10_most_96 : decode cX10_most 96 = .ok (.iconst 0, 1) := by decide +kernel
theorem dX10_most_97 : decode cX10_most 97 = .ok (.istore 5, 2) := by decide +kernel
theorem dX10_most_99 : decode cX10_most 99 = .ok (.iload 5, 2) := by decide +kernel
theorem dX10_most_101 : decode cX10_most 101 = .ok (.iload_n 2, 1) := by decide +kernel
theorem dX10_most_102 : decode cX10_most 102 = .ok (.if_icmp .gt 75, 3) := by decide +kernel
theorem dX10_most_105 : decode cX10_most 105 = .ok (.iconst (-1), 1) := by decide +kernel
theorem dX10_most_106 : decode cX10_most 106 = .ok (.istore 6, 2) := by decide +kernel
theorem dX10_most_108 : decode cX10_most 108 = .ok (.aload_n 0, 1) := by decide +kernel
theorem dX10_most_109 : decode cX10_most 109 = .ok (.getfield 73, 3) := by decide +kernel
theorem dX10_most_112 : decode cX10_most 112 = .ok (.iconst 1, 1) := by decide +kernel
theorem dX10_most_113 : decode cX10_most 113 = .ok (.isub, 1) := by decide +kernel
theorem dX10_most_114 : decode cX10_most 114 = .ok (.istore 7, 2) := by decide +kernel
theorem dX10_most_116 : decode cX10_most 116 = .ok (.iload 7, 2) := by decide +kernel
theorem dX10_most_118 : decode cX10_most 118 = .ok (.ifCond .lt 49, 3) := by decide +kernel
theorem dX10_most_121 : decode cX10_most 121 = .ok (.aload_n 0, 1) := by decide +kernel
theorem dX10_most_122 : decode cX10_most 122 = .ok (.getfield 54, 3) := by decide +kernel
theorem dX10_most_125 : decode cX10_most 125 = .ok (.iload 7, 2) := by decide +kernel
theorem dX10_most_127 : decode cX10_most 127 = .ok (.iaload, 1) := by decide +kernel
theorem dX10_most_128 : decode cX10_most 128 = .ok (.iload_n 3, 1) := by decide +kernel
theorem dX10_most_129 : decode cX10_most 129 = .ok (.iload 5, 2) := by decide +kernel
theorem dX10_most_131 : decode cX10_most 131 = .ok (.isub, 1) := by decide +kernel
theorem dX10_most_132 : decode cX10_most 132 = .ok (.if_icmp .ne 25, 3) := by decide +kernel
theorem dX10_most_135 : decode cX10_most 135 = .ok (.iload 4, 2) := by decide +kernel
theorem dX10_most_137 : decode cX10_most 137 = .ok (.iconst (-1), 1) := by decide +kernel
theorem dX10_most_138 : decode cX10_most 138 = .ok (.if_icmp .eq 14, 3) := by decide +kernel
theorem dX10_most_141 : decode cX10_most 141 = .ok (.aload_n 0, 1) := by decide +kernel
theorem dX10_most_142 : decode cX10_most 142 = .ok (.iload 4, 2) := by decide +kernel
theorem dX10_most_144 : decode cX10_most 144 = .ok (.iload 7, 2) := by decide +kernel
theorem dX10_most_146 : decode cX10_most 146 = .ok (.invokevirtual 228, 3) := by decide +kernel
theorem dX10_most_149 : decode cX10_most 149 = .ok (.ifCond .eq 8, 3) := by decide +kernel
theorem dX10_most_152 : decode cX10_most 152 = .ok (.iload 7, 2) := by decide +kernel
theorem dX10_most_154 : decode cX10_most 154 = .ok (.goto 5, 3) := by decide +kernel
theorem dX10_most_157 : decode cX10_most 157 = .ok (.iload 6, 2) := by decide +kernel
theorem dX10_most_159 : decode cX10_most 159 = .ok (.istore 6, 2) := by decide +kernel
theorem dX10_most_161 : decode cX10_most 161 = .ok (.iinc 7 (-1), 3) := by decide +kernel
theorem dX10_most_164 : decode cX10_most 164 = .ok (.goto (-48), 3) := by decide +kernel
theorem dX10_most_167 : decode cX10_most 167 = .ok (.iload 6, 2) := by decide +kernel
theorem dX10_most_169 : decode cX10_most 169 = .ok (.istore 4, 2) := by decide +kernel
theorem dX10_most_171 : decode cX10_most 171 = .ok (.iinc 5 1, 3) := by decide +kernel
theorem dX10_most_174 : decode cX10_most 174 = .ok (.goto (-75), 3) := by decide +kernel
theorem dX10_most_177 : decode cX10_most 177 = .ok (.iload 4, 2) := by decide +kernel
theorem dX10_most_179 : decode cX10_most 179 = .ok (.ireturn, 1) := by decide +kernel
theorem dX10_walk_0 : decode cX10_walk 0 = .ok (.aload_n 0, 1) := by decide +kernel
theorem dX10_walk_1 : decode cX10_walk 1 = .ok (.iload_n 1, 1) := by decide +kernel
theorem dX10_walk_2 : decode cX10_walk 2 = .ok (.invokevirtual 196, 3) := by decide +kernel
theorem dX10_walk_5 : decode cX10_walk 5 = .ok (.ifCond .ne 6, 3) := by decide +kernel
theorem dX10_walk_8 : decode cX10_walk 8 = .ok (.bipush (-2), 2) := by decide +kernel
theorem dX10_walk_10 : decode cX10_walk 10 = .ok (.ireturn, 1) := by decide +kernel
theorem dX10_walk_11 : decode cX10_walk 11 = .ok (.aload_n 0, 1) := by decide +kernel
theorem dX10_walk_12 : decode cX10_walk 12 = .ok (.getfield 187, 3) := by decide +kernel
theorem dX10_walk_15 : decode cX10_walk 15 = .ok (.bipush 12, 2) := by decide +kernel
theorem dX10_walk_17 : decode cX10_walk 17 = .ok (.if_icmp .ne 6, 3) := by decide +kernel
theorem dX10_walk_20 : decode cX10_walk 20 = .ok (.bipush (-5), 2) := by decide +kernel
theorem dX10_walk_22 : decode cX10_walk 22 = .ok (.ireturn, 1) := by decide +kernel
theorem dX10_walk_23 : decode cX10_walk 23 = .ok (.aload_n 0, 1) := by decide +kernel
theorem dX10_walk_24 : decode cX10_walk 24 = .ok (.getfield 45, 3) := by decide +kernel
theorem dX10_walk_27 : decode cX10_walk 27 = .ok (.aload_n 0, 1) := by decide +kernel
theorem dX10_walk_28 : decode cX10_walk 28 = .ok (.getfield 187, 3) := by decide +kernel
theorem dX10_walk_31 : decode cX10_walk 31 = .ok (.iload_n 1, 1) := by decide +kernel
theorem dX10_walk_32 : decode cX10_walk 32 = .ok (.iastore, 1) := by decide +kernel
theorem dX10_walk_33 : decode cX10_walk 33 = .ok (.aload_n 0, 1) := by decide +kernel
theorem dX10_walk_34 : decode cX10_walk 34 = .ok (.dup, 1) := by decide +kernel
theorem dX10_walk_35 : decode cX10_walk 35 = .ok (.getfield 187, 3) := by decide +kernel
theorem dX10_walk_38 : decode cX10_walk 38 = .ok (.iconst 1, 1) := by decide +kernel
theorem dX10_walk_39 : decode cX10_walk 39 = .ok (.iadd, 1) := by decide +kernel
theorem dX10_walk_40 : decode cX10_walk 40 = .ok (.putfield 187, 3) := by decide +kernel
theorem dX10_walk_43 : decode cX10_walk 43 = .ok (.aload_n 0, 1) := by decide +kernel
theorem dX10_walk_44 : decode cX10_walk 44 = .ok (.getfield 187, 3) := by decide +kernel
theorem dX10_walk_47 : decode cX10_walk 47 = .ok (.ireturn, 1) := by decide +kernel
theorem dX10_rest_0 : decode cX10_rest 0 = .ok (.aload_n 0, 1) := by decide +kernel
theorem dX10_rest_1 : decode cX10_rest 1 = .ok (.getfield 187, 3) := by decide +kernel
theorem dX10_rest_4 : decode cX10_rest 4 = .ok (.istore_n 1, 1) := by decide +kernel
theorem dX10_rest_5 : decode cX10_rest 5 = .ok (.aload_n 0, 1) := by decide +kernel
theorem dX10_rest_6 : decode cX10_rest 6 = .ok (.iconst 0, 1) := by decide +kernel
theorem dX10_rest_7 : decode cX10_rest 7 = .ok (.putfield 187, 3) := by decide +kernel
theorem dX10_rest_10 : decode cX10_rest 10 = .ok (.iload_n 1, 1) := by decide +kernel
theorem dX10_rest_11 : decode cX10_rest 11 = .ok (.ireturn, 1) := by decide +kernel
theorem dX10_walked_0 : decode cX10_walked 0 = .ok (.iload_n 1, 1) := by decide +kernel
theorem dX10_walked_1 : decode cX10_walked 1 = .ok (.iconst 0, 1) := by decide +kernel
theorem dX10_walked_2 : decode cX10_walked 2 = .ok (.sipush 9999, 3) := by decide +kernel
theorem dX10_walked_5 : decode cX10_walked 5 = .ok (.invokestatic 69, 3) := by decide +kernel
theorem dX10_walked_8 : decode cX10_walked 8 = .ok (.ifCond .eq 12, 3) := by decide +kernel
theorem dX10_walked_11 : decode cX10_walked 11 = .ok (.iload_n 2, 1) := by decide +kernel
theorem dX10_walked_12 : decode cX10_walked 12 = .ok (.iconst 0, 1) := by decide +kernel
theorem dX10_walked_13 : decode cX10_walked 13 = .ok (.iconst 2, 1) := by decide +kernel
theorem dX10_walked_14 : decode cX10_walked 14 = .ok (.invokestatic 69, 3) := by decide +kernel
theorem dX10_walked_17 : decode cX10_walked 17 = .ok (.ifCond .ne 6, 3) := by decide +kernel
theorem dX10_walked_20 : decode cX10_walked 20 = .ok (.bipush (-3), 2) := by decide +kernel
theorem dX10_walked_22 : decode cX10_walked 22 = .ok (.ireturn, 1) := by decide +kernel
theorem dX10_walked_23 : decode cX10_walked 23 = .ok (.aload_n 0, 1) := by decide +kernel
theorem dX10_walked_24 : decode cX10_walked 24 = .ok (.getfield 187, 3) := by decide +kernel
theorem dX10_walked_27 : decode cX10_walked 27 = .ok (.ifCond .ne 6, 3) := by decide +kernel
theorem dX10_walked_30 : decode cX10_walked 30 = .ok (.bipush (-4), 2) := by decide +kernel
theorem dX10_walked_32 : decode cX10_walked 32 = .ok (.ireturn, 1) := by decide +kernel
theorem dX10_walked_33 : decode cX10_walked 33 = .ok (.iload_n 1, 1) := by decide +kernel
theorem dX10_walked_34 : decode cX10_walked 34 = .ok (.istore_n 3, 1) := by decide +kernel
theorem dX10_walked_35 : decode cX10_walked 35 = .ok (.aload_n 0, 1) := by decide +kernel
theorem dX10_walked_36 : decode cX10_walked 36 = .ok (.aload_n 0, 1) := by decide +kernel
theorem dX10_walked_37 : decode cX10_walked 37 = .ok (.getfield 45, 3) := by decide +kernel
theorem dX10_walked_40 : decode cX10_walked 40 = .ok (.iconst 0, 1) := by decide +kernel
theorem dX10_walked_41 : decode cX10_walked 41 = .ok (.iaload, 1) := by decide +kernel
theorem dX10_walked_42 : decode cX10_walked 42 = .ok (.iload_n 3, 1) := by decide +kernel
theorem dX10_walked_43 : decode cX10_walked 43 = .ok (.invokevirtual 209, 3) := by decide +kernel
theorem dX10_walked_46 : decode cX10_walked 46 = .ok (.istore 4, 2) := by decide +kernel
theorem dX10_walked_48 : decode cX10_walked 48 = .ok (.iconst 0, 1) := by decide +kernel
theorem dX10_walked_49 : decode cX10_walked 49 = .ok (.istore 5, 2) := by decide +kernel
theorem dX10_walked_51 : decode cX10_walked 51 = .ok (.iconst 0, 1) := by decide +kernel
theorem dX10_walked_52 : decode cX10_walked 52 = .ok (.istore 6, 2) := by decide +kernel
theorem dX10_walked_54 : decode cX10_walked 54 = .ok (.iconst 1, 1) := by decide +kernel
theorem dX10_walked_55 : decode cX10_walked 55 = .ok (.istore 7, 2) := by decide +kernel
theorem dX10_walked_57 : decode cX10_walked 57 = .ok (.iload 7, 2) := by decide +kernel
theorem dX10_walked_59 : decode cX10_walked 59 = .ok (.aload_n 0, 1) := by decide +kernel
theorem dX10_walked_60 : decode cX10_walked 60 = .ok (.getfield 187, 3) := by decide +kernel
theorem dX10_walked_63 : decode cX10_walked 63 = .ok (.if_icmp .ge 112, 3) := by decide +kernel
theorem dX10_walked_66 : decode cX10_walked 66 = .ok (.iload_n 3, 1) := by decide +kernel
theorem dX10_walked_67 : decode cX10_walked 67 = .ok (.aload_n 0, 1) := by decide +kernel
theorem dX10_walked_68 : decode cX10_walked 68 = .ok (.getfield 45, 3) := by decide +kernel
theorem dX10_walked_71 : decode cX10_walked 71 = .ok (.iload 7, 2) := by decide +kernel
theorem dX10_walked_73 : decode cX10_walked 73 = .ok (.iaload, 1) := by decide +kernel
theorem dX10_walked_74 : decode cX10_walked 74 = .ok (.aload_n 0, 1) := by decide +kernel
theorem dX10_walked_75 : decode cX10_walked 75 = .ok (.getfield 45, 3) := by decide +kernel
theorem dX10_walked_78 : decode cX10_walked 78 = .ok (.iload 7, 2) := by decide +kernel
theorem dX10_walked_80 : decode cX10_walked 80 = .ok (.iconst 1, 1) := by decide +kernel
theorem dX10_walked_81 : decode cX10_walked 81 = .ok (.isub, 1) := by decide +kernel
theorem dX10_walked_82 : decode cX10_walked 82 = .ok (.iaload, 1) := by decide +kernel
theorem dX10_walked_83 : decode cX10_walked 83 = .ok (.if_icmp .ne 7, 3) := by decide +kernel
theorem dX10_walked_86 : decode cX10_walked 86 = .ok (.iconst 1, 1) := by decide +kernel
theorem dX10_walked_87 : decode cX10_walked 87 = .ok (.goto 28, 3) := by decide +kernel
theorem dX10_walked_90 : decode cX10_walked 90 = .ok (.aload_n 0, 1) := by decide +kernel
theorem dX10_walked_91 : decode cX10_walked 91 = .ok (.getfield 29, 3) := by decide +kernel
theorem dX10_walked_94 : decode cX10_walked 94 = .ok (.bipush 10, 2) := by decide +kernel
theorem dX10_walked_96 : decode cX10_walked 96 = .ok (.aload_n 0, 1) := by decide +kernel
theorem dX10_walked_97 : decode cX10_walked 97 = .ok (.getfield 45, 3) := by decide +kernel
theorem dX10_walked_100 : decode cX10_walked 100 = .ok (.iload 7, 2) := by decide +kernel
theorem dX10_walked_102 : decode cX10_walked 102 = .ok (.iconst 1, 1) := by decide +kernel
theorem dX10_walked_103 : decode cX10_walked 103 = .ok (.isub, 1) := by decide +kernel
theorem dX10_walked_104 : decode cX10_walked 104 = .ok (.iaload, 1) := by decide +kernel
theorem dX10_walked_105 : decode cX10_walked 105 = .ok (.imul, 1) := by decide +kernel
theorem dX10_walked_106 : decode cX10_walked 106 = .ok (.aload_n 0, 1) := by decide +kernel
theorem dX10_walked_107 : decode cX10_walked 107 = .ok (.getfield 45, 3) := by decide +kernel
theorem dX10_walked_110 : decode cX10_walked 110 = .ok (.iload 7, 2) := by decide +kernel
theorem dX10_walked_112 : decode cX10_walked 112 = .ok (.iaload, 1) := by decide +kernel
theorem dX10_walked_113 : decode cX10_walked 113 = .ok (.iadd, 1) := by decide +kernel
theorem dX10_walked_114 : decode cX10_walked 114 = .ok (.iaload, 1) := by decide +kernel
theorem dX10_walked_115 : decode cX10_walked 115 = .ok (.iadd, 1) := by decide +kernel
theorem dX10_walked_116 : decode cX10_walked 116 = .ok (.istore_n 3, 1) := by decide +kernel
theorem dX10_walked_117 : decode cX10_walked 117 = .ok (.aload_n 0, 1) := by decide +kernel
theorem dX10_walked_118 : decode cX10_walked 118 = .ok (.aload_n 0, 1) := by decide +kernel
theorem dX10_walked_119 : decode cX10_walked 119 = .ok (.getfield 45, 3) := by decide +kernel
theorem dX10_walked_122 : decode cX10_walked 122 = .ok (.iload 7, 2) := by decide +kernel
theorem dX10_walked_124 : decode cX10_walked 124 = .ok (.iaload, 1) := by decide +kernel
theorem dX10_walked_125 : decode cX10_walked 125 = .ok (.iload_n 3, 1) := by decide +kernel
theorem dX10_walked_126 : decode cX10_walked 126 = .ok (.invokevirtual 209, 3) := by decide +kernel
theorem dX10_walked_129 : decode cX10_walked 129 = .ok (.istore 8, 2) := by decide +kernel
theorem dX10_walked_131 : decode cX10_walked 131 = .ok (.iload 5, 2) := by decide +kernel
theorem dX10_walked_133 : decode cX10_walked 133 = .ok (.iload 8, 2) := by decide +kernel
theorem dX10_walked_135 : decode cX10_walked 135 = .ok (.iload 4, 2) := by decide +kernel
theorem dX10_walked_137 : decode cX10_walked 137 = .ok (.if_icmp .le 7, 3) := by decide +kernel
theorem dX10_walked_140 : decode cX10_walked 140 = .ok (.iconst 1, 1) := by decide +kernel
theorem dX10_walked_141 : decode cX10_walked 141 = .ok (.goto 4, 3) := by decide +kernel
theorem dX10_walked_144 : decode cX10_walked 144 = .ok (.iconst 0, 1) := by decide +kernel
theorem dX10_walked_145 : decode cX10_walked 145 = .ok (.iadd, 1) := by decide +kernel
theorem dX10_walked_146 : decode cX10_walked 146 = .ok (.istore 5, 2) := by decide +kernel
theorem dX10_walked_148 : decode cX10_walked 148 = .ok (.iload 6, 2) := by decide +kernel
theorem dX10_walked_150 : decode cX10_walked 150 = .ok (.iload 8, 2) := by decide +kernel
theorem dX10_walked_152 : decode cX10_walked 152 = .ok (.iload 4, 2) := by decide +kernel
theorem dX10_walked_154 : decode cX10_walked 154 = .ok (.if_icmp .ge 7, 3) := by decide +kernel
theorem dX10_walked_157 : decode cX10_walked 157 = .ok (.iconst 1, 1) := by decide +kernel
theorem dX10_walked_158 : decode cX10_walked 158 = .ok (.goto 4, 3) := by decide +kernel
theorem dX10_walked_161 : decode cX10_walked 161 = .ok (.iconst 0, 1) := by decide +kernel
theorem dX10_walked_162 : decode cX10_walked 162 = .ok (.iadd, 1) := by decide +kernel
theorem dX10_walked_163 : decode cX10_walked 163 = .ok (.istore 6, 2) := by decide +kernel
theorem dX10_walked_165 : decode cX10_walked 165 = .ok (.iload 8, 2) := by decide +kernel
theorem dX10_walked_167 : decode cX10_walked 167 = .ok (.istore 4, 2) := by decide +kernel
theorem dX10_walked_169 : decode cX10_walked 169 = .ok (.iinc 7 1, 3) := by decide +kernel
theorem dX10_walked_172 : decode cX10_walked 172 = .ok (.goto (-115), 3) := by decide +kernel
theorem dX10_walked_175 : decode cX10_walked 175 = .ok (.iload_n 2, 1) := by decide +kernel
theorem dX10_walked_176 : decode cX10_walked 176 = .ok (.ifCond .ne 7, 3) := by decide +kernel
theorem dX10_walked_179 : decode cX10_walked 179 = .ok (.iload_n 3, 1) := by decide +kernel
theorem dX10_walked_180 : decode cX10_walked 180 = .ok (.goto 15, 3) := by decide +kernel
theorem dX10_walked_183 : decode cX10_walked 183 = .ok (.iload_n 2, 1) := by decide +kernel
theorem dX10_walked_184 : decode cX10_walked 184 = .ok (.iconst 1, 1) := by decide +kernel
theorem dX10_walked_185 : decode cX10_walked 185 = .ok (.if_icmp .ne 8, 3) := by decide +kernel
theorem dX10_walked_188 : decode cX10_walked 188 = .ok (.iload 5, 2) := by decide +kernel
theorem dX10_walked_190 : decode cX10_walked 190 = .ok (.goto 5, 3) := by decide +kernel
theorem dX10_walked_193 : decode cX10_walked 193 = .ok (.iload 6, 2) := by decide +kernel
theorem dX10_walked_195 : decode cX10_walked 195 = .ok (.ireturn, 1) := by decide +kernel
theorem dX10_openFrom_0 : decode cX10_openFrom 0 = .ok (.aload_n 0, 1) := by decide +kernel
theorem dX10_openFrom_1 : decode cX10_openFrom 1 = .ok (.aload_n 0, 1) := by decide +kernel
theorem dX10_openFrom_2 : decode cX10_openFrom 2 = .ok (.getfield 26, 3) := by decide +kernel
theorem dX10_openFrom_5 : decode cX10_openFrom 5 = .ok (.iconst 5, 1) := by decide +kernel
theorem dX10_openFrom_6 : decode cX10_openFrom 6 = .ok (.iload_n 1, 1) := by decide +kernel
theorem dX10_openFrom_7 : decode cX10_openFrom 7 = .ok (.imul, 1) := by decide +kernel
theorem dX10_openFrom_8 : decode cX10_openFrom 8 = .ok (.iaload, 1) := by decide +kernel
theorem dX10_openFrom_9 : decode cX10_openFrom 9 = .ok (.iload_n 2, 1) := by decide +kernel
theorem dX10_openFrom_10 : decode cX10_openFrom 10 = .ok (.invokevirtual 205, 3) := by decide +kernel
theorem dX10_openFrom_13 : decode cX10_openFrom 13 = .ok (.istore_n 3, 1) := by decide +kernel
theorem dX10_openFrom_14 : decode cX10_openFrom 14 = .ok (.iload_n 3, 1) := by decide +kernel
theorem dX10_openFrom_15 : decode cX10_openFrom 15 = .ok (.aload_n 0, 1) := by decide +kernel
theorem dX10_openFrom_16 : decode cX10_openFrom 16 = .ok (.getfield 26, 3) := by decide +kernel
theorem dX10_openFrom_19 : decode cX10_openFrom 19 = .ok (.iconst 5, 1) := by decide +kernel
theorem dX10_openFrom_20 : decode cX10_openFrom 20 = .ok (.iload_n 1, 1) := by decide +kernel
theorem dX10_openFrom_21 : decode cX10_openFrom 21 = .ok (.imul, 1) := by decide +kernel
theorem dX10_openFrom_22 : decode cX10_openFrom 22 = .ok (.iconst 1, 1) := by decide +kernel
theorem dX10_openFrom_23 : decode cX10_openFrom 23 = .ok (.iadd, 1) := by decide +kernel
theorem dX10_openFrom_24 : decode cX10_openFrom 24 = .ok (.iaload, 1) := by decide +kernel
theorem dX10_openFrom_25 : decode cX10_openFrom 25 = .ok (.if_icmp .lt 19, 3) := by decide +kernel
theorem dX10_openFrom_28 : decode cX10_openFrom 28 = .ok (.iload_n 3, 1) := by decide +kernel
theorem dX10_openFrom_29 : decode cX10_openFrom 29 = .ok (.aload_n 0, 1) := by decide +kernel
theorem dX10_openFrom_30 : decode cX10_openFrom 30 = .ok (.getfield 26, 3) := by decide +kernel
theorem dX10_openFrom_33 : decode cX10_openFrom 33 = .ok (.iconst 5, 1) := by decide +kernel
theorem dX10_openFrom_34 : decode cX10_openFrom 34 = .ok (.iload_n 1, 1) := by decide +kernel
theorem dX10_openFrom_35 : decode cX10_openFrom 35 = .ok (.imul, 1) := by decide +kernel
theorem dX10_openFrom_36 : decode cX10_openFrom 36 = .ok (.iconst 2, 1) := by decide +kernel
theorem dX10_openFrom_37 : decode cX10_openFrom 37 = .ok (.iadd, 1) := by decide +kernel
theorem dX10_openFrom_38 : decode cX10_openFrom 38 = .ok (.iaload, 1) := by decide +kernel
theorem dX10_openFrom_39 : decode cX10_openFrom 39 = .ok (.if_icmp .ge 5, 3) := by decide +kernel
theorem dX10_openFrom_42 : decode cX10_openFrom 42 = .ok (.iload_n 2, 1) := by decide +kernel
theorem dX10_openFrom_43 : decode cX10_openFrom 43 = .ok (.ireturn, 1) := by decide +kernel
theorem dX10_openFrom_44 : decode cX10_openFrom 44 = .ok (.iload_n 2, 1) := by decide +kernel
theorem dX10_openFrom_45 : decode cX10_openFrom 45 = .ok (.aload_n 0, 1) := by decide +kernel
theorem dX10_openFrom_46 : decode cX10_openFrom 46 = .ok (.getfield 26, 3) := by decide +kernel
theorem dX10_openFrom_49 : decode cX10_openFrom 49 = .ok (.iconst 5, 1) := by decide +kernel
theorem dX10_openFrom_50 : decode cX10_openFrom 50 = .ok (.iload_n 1, 1) := by decide +kernel
theorem dX10_openFrom_51 : decode cX10_openFrom 51 = .ok (.imul, 1) := by decide +kernel
theorem dX10_openFrom_52 : decode cX10_openFrom 52 = .ok (.iconst 1, 1) := by decide +kernel
theorem dX10_openFrom_53 : decode cX10_openFrom 53 = .ok (.iadd, 1) := by decide +kernel
theorem dX10_openFrom_54 : decode cX10_openFrom 54 = .ok (.iaload, 1) := by decide +kernel
theorem dX10_openFrom_55 : decode cX10_openFrom 55 = .ok (.iload_n 3, 1) := by decide +kernel
theorem dX10_openFrom_56 : decode cX10_openFrom 56 = .ok (.isub, 1) := by decide +kernel
theorem dX10_openFrom_57 : decode cX10_openFrom 57 = .ok (.sipush 1440, 3) := by decide +kernel
theorem dX10_openFrom_60 : decode cX10_openFrom 60 = .ok (.iadd, 1) := by decide +kernel
theorem dX10_openFrom_61 : decode cX10_openFrom 61 = .ok (.sipush 1440, 3) := by decide +kernel
theorem dX10_openFrom_64 : decode cX10_openFrom 64 = .ok (.irem, 1) := by decide +kernel
theorem dX10_openFrom_65 : decode cX10_openFrom 65 = .ok (.iadd, 1) := by decide +kernel
theorem dX10_openFrom_66 : decode cX10_openFrom 66 = .ok (.ireturn, 1) := by decide +kernel
theorem dX10_trade_0 : decode cX10_trade 0 = .ok (.aload_n 0, 1) := by decide +kernel
theorem dX10_trade_1 : decode cX10_trade 1 = .ok (.iload_n 1, 1) := by decide +kernel
theorem dX10_trade_2 : decode cX10_trade 2 = .ok (.invokevirtual 196, 3) := by decide +kernel
theorem dX10_trade_5 : decode cX10_trade 5 = .ok (.ifCond .ne 6, 3) := by decide +kernel
theorem dX10_trade_8 : decode cX10_trade 8 = .ok (.bipush (-2), 2) := by decide +kernel
theorem dX10_trade_10 : decode cX10_trade 10 = .ok (.ireturn, 1) := by decide +kernel
theorem dX10_trade_11 : decode cX10_trade 11 = .ok (.iload_n 2, 1) := by decide +kernel
theorem dX10_trade_12 : decode cX10_trade 12 = .ok (.iconst 0, 1) := by decide +kernel
theorem dX10_trade_13 : decode cX10_trade 13 = .ok (.sipush 9999, 3) := by decide +kernel
theorem dX10_trade_16 : decode cX10_trade 16 = .ok (.invokestatic 69, 3) := by decide +kernel
theorem dX10_trade_19 : decode cX10_trade 19 = .ok (.ifCond .eq 12, 3) := by decide +kernel
theorem dX10_trade_22 : decode cX10_trade 22 = .ok (.iload_n 3, 1) := by decide +kernel
theorem dX10_trade_23 : decode cX10_trade 23 = .ok (.iconst 0, 1) := by decide +kernel
theorem dX10_trade_24 : decode cX10_trade 24 = .ok (.iconst 3, 1) := by decide +kernel
theorem dX10_trade_25 : decode cX10_trade 25 = .ok (.invokestatic 69, 3) := by decide +kernel
theorem dX10_trade_28 : decode cX10_trade 28 = .ok (.ifCond .ne 6, 3) := by decide +kernel
theorem dX10_trade_31 : decode cX10_trade 31 = .ok (.bipush (-3), 2) := by decide +kernel
theorem dX10_trade_33 : decode cX10_trade 33 = .ok (.ireturn, 1) := by decide +kernel
theorem dX10_trade_34 : decode cX10_trade 34 = .ok (.iconst 0, 1) := by decide +kernel
theorem dX10_trade_35 : decode cX10_trade 35 = .ok (.istore 4, 2) := by decide +kernel
theorem dX10_trade_37 : decode cX10_trade 37 = .ok (.iconst (-1), 1) := by decide +kernel
theorem dX10_trade_38 : decode cX10_trade 38 = .ok (.istore 5, 2) := by decide +kernel
theorem dX10_trade_40 : decode cX10_trade 40 = .ok (.iconst (-1), 1) := by decide +kernel
theorem dX10_trade_41 : decode cX10_trade 41 = .ok (.istore 6, 2) := by decide +kernel
theorem dX10_trade_43 : decode cX10_trade 43 = .ok (.iconst (-1), 1) := by decide +kernel
theorem dX10_trade_44 : decode cX10_trade 44 = .ok (.istore 7, 2) := by decide +kernel
theorem dX10_trade_46 : decode cX10_trade 46 = .ok (.iconst 0, 1) := by decide +kernel
theorem dX10_trade_47 : decode cX10_trade 47 = .ok (.istore 8, 2) := by decide +kernel
theorem dX10_trade_49 : decode cX10_trade 49 = .ok (.iload 8, 2) := by decide +kernel
theorem dX10_trade_51 : decode cX10_trade 51 = .ok (.aload_n 0, 1) := by decide +kernel
theorem dX10_trade_52 : decode cX10_trade 52 = .ok (.getfield 79, 3) := by decide +kernel
theorem dX10_trade_55 : decode cX10_trade 55 = .ok (.if_icmp .ge 152, 3) := by decide +kernel
theorem dX10_trade_58 : decode cX10_trade 58 = .ok (.aload_n 0, 1) := by decide +kernel
theorem dX10_trade_59 : decode cX10_trade 59 = .ok (.iload 8, 2) := by decide +kernel
theorem dX10_trade_61 : decode cX10_trade 61 = .ok (.iload_n 2, 1) := by decide +kernel
theorem dX10_trade_62 : decode cX10_trade 62 = .ok (.aload_n 0, 1) := by decide +kernel
theorem dX10_trade_63 : decode cX10_trade 63 = .ok (.getfield 29, 3) := by decide +kernel
theorem dX10_trade_66 : decode cX10_trade 66 = .ok (.bipush 10, 2) := by decide +kernel
theorem dX10_trade_68 : decode cX10_trade 68 = .ok (.iload_n 1, 1) := by decide +kernel
theorem dX10_trade_69 : decode cX10_trade 69 = .ok (.imul, 1) := by decide +kernel
theorem dX10_trade_70 : decode cX10_trade 70 = .ok (.aload_n 0, 1) := by decide +kernel
theorem dX10_trade_71 : decode cX10_trade 71 = .ok (.getfield 26, 3) := by decide +kernel
theorem dX10_trade_74 : decode cX10_trade 74 = .ok (.iconst 5, 1) := by decide +kernel
theorem dX10_trade_75 : decode cX10_trade 75 = .ok (.iload 8, 2) := by decide +kernel
theorem dX10_trade_77 : decode cX10_trade 77 = .ok (.imul, 1) := by decide +kernel
theorem dX10_trade_78 : decode cX10_trade 78 = .ok (.iaload, 1) := by decide +kernel
theorem dX10_trade_79 : decode cX10_trade 79 = .ok (.iadd, 1) := by decide +kernel
theorem dX10_trade_80 : decode cX10_trade 80 = .ok (.iaload, 1) := by decide +kernel
theorem dX10_trade_81 : decode cX10_trade 81 = .ok (.iadd, 1) := by decide +kernel
theorem dX10_trade_82 : decode cX10_trade 82 = .ok (.invokevirtual 234, 3) := by decide +kernel
theorem dX10_trade_85 : decode cX10_trade 85 = .ok (.istore 9, 2) := by decide +kernel
theorem dX10_trade_87 : decode cX10_trade 87 = .ok (.iconst 0, 1) := by decide +kernel
theorem dX10_trade_88 : decode cX10_trade 88 = .ok (.istore 10, 2) := by decide +kernel
theorem dX10_trade_90 : decode cX10_trade 90 = .ok (.iload 10, 2) := by decide +kernel
theorem dX10_trade_92 : decode cX10_trade 92 = .ok (.aload_n 0, 1) := by decide +kernel
theorem dX10_trade_93 : decode cX10_trade 93 = .ok (.getfield 79, 3) := by decide +kernel
theorem dX10_trade_96 : decode cX10_trade 96 = .ok (.if_icmp .ge 105, 3) := by decide +kernel
theorem dX10_trade_99 : decode cX10_trade 99 = .ok (.aload_n 0, 1) := by decide +kernel
theorem dX10_trade_100 : decode cX10_trade 100 = .ok (.iload 10, 2) := by decide +kernel
theorem dX10_trade_102 : decode cX10_trade 102 = .ok (.iload 9, 2) := by decide +kernel
theorem dX10_trade_104 : decode cX10_trade 104 = .ok (.aload_n 0, 1) := by decide +kernel
theorem dX10_trade_105 : decode cX10_trade 105 = .ok (.getfield 29, 3) := by decide +kernel
theorem dX10_trade_108 : decode cX10_trade 108 = .ok (.bipush 10, 2) := by decide +kernel
theorem dX10_trade_110 : decode cX10_trade 110 = .ok (.aload_n 0, 1) := by decide +kernel
theorem dX10_trade_111 : decode cX10_trade 111 = .ok (.getfield 26, 3) := by decide +kernel
theorem dX10_trade_114 : decode cX10_trade 114 = .ok (.iconst 5, 1) := by decide +kernel
theorem dX10_trade_115 : decode cX10_trade 115 = .ok (.iload 8, 2) := by decide +kernel
theorem dX10_trade_117 : decode cX10_trade 117 = .ok (.imul, 1) := by decide +kernel
theorem dX10_trade_118 : decode cX10_trade 118 = .ok (.iaload, 1) := by decide +kernel
theorem dX10_trade_119 : decode cX10_trade 119 = .ok (.imul, 1) := by decide +kernel
theorem dX10_trade_120 : decode cX10_trade 120 = .ok (.aload_n 0, 1) := by decide +kernel
theorem dX10_trade_121 : decode cX10_trade 121 = .ok (.getfield 26, 3) := by decide +kernel
theorem dX10_trade_124 : decode cX10_trade 124 = .ok (.iconst 5, 1) := by decide +kernel
theorem dX10_trade_125 : decode cX10_trade 125 = .ok (.iload 10, 2) := by decide +kernel
theorem dX10_trade_127 : decode cX10_trade 127 = .ok (.imul, 1) := by decide +kernel
theorem dX10_trade_128 : decode cX10_trade 128 = .ok (.iaload, 1) := by decide +kernel
theorem dX10_trade_129 : decode cX10_trade 129 = .ok (.iadd, 1) := by decide +kernel
theorem dX10_trade_130 : decode cX10_trade 130 = .ok (.iaload, 1) := by decide +kernel
theorem dX10_trade_131 : decode cX10_trade 131 = .ok (.iadd, 1) := by decide +kernel
theorem dX10_trade_132 : decode cX10_trade 132 = .ok (.invokevirtual 234, 3) := by decide +kernel
theorem dX10_trade_135 : decode cX10_trade 135 = .ok (.istore 11, 2) := by decide +kernel
theorem dX10_trade_137 : decode cX10_trade 137 = .ok (.aload_n 0, 1) := by decide +kernel
theorem dX10_trade_138 : decode cX10_trade 138 = .ok (.getfield 26, 3) := by decide +kernel
theorem dX10_trade_141 : decode cX10_trade 141 = .ok (.iconst 5, 1) := by decide +kernel
theorem dX10_trade_142 : decode cX10_trade 142 = .ok (.iload 10, 2) := by decide +kernel
theorem dX10_trade_144 : decode cX10_trade 144 = .ok (.imul, 1) := by decide +kernel
theorem dX10_trade_145 : decode cX10_trade 145 = .ok (.iconst 4, 1) := by decide +kernel
theorem dX10_trade_146 : decode cX10_trade 146 = .ok (.iadd, 1) := by decide +kernel
theorem dX10_trade_147 : decode cX10_trade 147 = .ok (.iaload, 1) := by decide +kernel
theorem dX10_trade_148 : decode cX10_trade 148 = .ok (.aload_n 0, 1) := by decide +kernel
theorem dX10_trade_149 : decode cX10_trade 149 = .ok (.getfield 26, 3) := by decide +kernel
theorem dX10_trade_152 : decode cX10_trade 152 = .ok (.iconst 5, 1) := by decide +kernel
theorem dX10_trade_153 : decode cX10_trade 153 = .ok (.iload 8, 2) := by decide +kernel
theorem dX10_trade_155 : decode cX10_trade 155 = .ok (.imul, 1) := by decide +kernel
theorem dX10_trade_156 : decode cX10_trade 156 = .ok (.iconst 3, 1) := by decide +kernel
theorem dX10_trade_157 : decode cX10_trade 157 = .ok (.iadd, 1) := by decide +kernel
theorem dX10_trade_158 : decode cX10_trade 158 = .ok (.iaload, 1) := by decide +kernel
theorem dX10_trade_159 : decode cX10_trade 159 = .ok (.isub, 1) := by decide +kernel
theorem dX10_trade_160 : decode cX10_trade 160 = .ok (.istore 12, 2) := by decide +kernel
theorem dX10_trade_162 : decode cX10_trade 162 = .ok (.iload 11, 2) := by decide +kernel
theorem dX10_trade_164 : decode cX10_trade 164 = .ok (.iload_n 2, 1) := by decide +kernel
theorem dX10_trade_165 : decode cX10_trade 165 = .ok (.isub, 1) := by decide +kernel
theorem dX10_trade_166 : decode cX10_trade 166 = .ok (.sipush 2880, 3) := by decide +kernel
theorem dX10_trade_169 : decode cX10_trade 169 = .ok (.if_icmp .gt 26, 3) := by decide +kernel
theorem dX10_trade_172 : decode cX10_trade 172 = .ok (.iload 12, 2) := by decide +kernel
theorem dX10_trade_174 : decode cX10_trade 174 = .ok (.iload 4, 2) := by decide +kernel
theorem dX10_trade_176 : decode cX10_trade 176 = .ok (.if_icmp .le 19, 3) := by decide +kernel
theorem dX10_trade_179 : decode cX10_trade 179 = .ok (.iload 12, 2) := by decide +kernel
theorem dX10_trade_181 : decode cX10_trade 181 = .ok (.istore 4, 2) := by decide +kernel
theorem dX10_trade_183 : decode cX10_trade 183 = .ok (.iload 8, 2) := by decide +kernel
theorem dX10_trade_185 : decode cX10_trade 185 = .ok (.istore 5, 2) := by decide +kernel
theorem dX10_trade_187 : decode cX10_trade 187 = .ok (.iload 10, 2) := by decide +kernel
theorem dX10_trade_189 : decode cX10_trade 189 = .ok (.istore 6, 2) := by decide +kernel
theorem dX10_trade_191 : decode cX10_trade 191 = .ok (.iload 11, 2) := by decide +kernel
theorem dX10_trade_193 : decode cX10_trade 193 = .ok (.istore 7, 2) := by decide +kernel
theorem dX10_trade_195 : decode cX10_trade 195 = .ok (.iinc 10 1, 3) := by decide +kernel
theorem dX10_trade_198 : decode cX10_trade 198 = .ok (.goto (-108), 3) := by decide +kernel
theorem dX10_trade_201 : decode cX10_trade 201 = .ok (.iinc 8 1, 3) := by decide +kernel
theorem dX10_trade_204 : decode cX10_trade 204 = .ok (.goto (-155), 3) := by decide +kernel
theorem dX10_trade_207 : decode cX10_trade 207 = .ok (.iload 5, 2) := by decide +kernel
theorem dX10_trade_209 : decode cX10_trade 209 = .ok (.iconst (-1), 1) := by decide +kernel
theorem dX10_trade_210 : decode cX10_trade 210 = .ok (.if_icmp .ne 7, 3) := by decide +kernel
theorem dX10_trade_213 : decode cX10_trade 213 = .ok (.iconst (-1), 1) := by decide +kernel
theorem dX10_trade_214 : decode cX10_trade 214 = .ok (.goto 34, 3) := by decide +kernel
theorem dX10_trade_217 : decode cX10_trade 217 = .ok (.iload_n 3, 1) := by decide +kernel
theorem dX10_trade_218 : decode cX10_trade 218 = .ok (.ifCond .ne 8, 3) := by decide +kernel
theorem dX10_trade_221 : decode cX10_trade 221 = .ok (.iload 4, 2) := by decide +kernel
theorem dX10_trade_223 : decode cX10_trade 223 = .ok (.goto 25, 3) := by decide +kernel
theorem dX10_trade_226 : decode cX10_trade 226 = .ok (.iload_n 3, 1) := by decide +kernel
theorem dX10_trade_227 : decode cX10_trade 227 = .ok (.iconst 1, 1) := by decide +kernel
theorem dX10_trade_228 : decode cX10_trade 228 = .ok (.if_icmp .ne 8, 3) := by decide +kernel
theorem dX10_trade_231 : decode cX10_trade 231 = .ok (.iload 5, 2) := by decide +kernel
theorem dX10_trade_233 : decode cX10_trade 233 = .ok (.goto 15, 3) := by decide +kernel
theorem dX10_trade_236 : decode cX10_trade 236 = .ok (.iload_n 3, 1) := by decide +kernel
theorem dX10_trade_237 : decode cX10_trade 237 = .ok (.iconst 2, 1) := by decide +kernel
theorem dX10_trade_238 : decode cX10_trade 238 = .ok (.if_icmp .ne 8, 3) := by decide +kernel
theorem dX10_trade_241 : decode cX10_trade 241 = .ok (.iload 6, 2) := by decide +kernel
theorem dX10_trade_243 : decode cX10_trade 243 = .ok (.goto 5, 3) := by decide +kernel
theorem dX10_trade_246 : decode cX10_trade 246 = .ok (.iload 7, 2) := by decide +kernel
theorem dX10_trade_248 : decode cX10_trade 248 = .ok (.ireturn, 1) := by decide +kernel
theorem dX10_bell_0 : decode cX10_bell 0 = .ok (.aload_n 0, 1) := by decide +kernel
theorem dX10_bell_1 : decode cX10_bell 1 = .ok (.iload_n 1, 1) := by decide +kernel
theorem dX10_bell_2 : decode cX10_bell 2 = .ok (.invokevirtual 196, 3) := by decide +kernel
theorem dX10_bell_5 : decode cX10_bell 5 = .ok (.ifCond .eq 11, 3) := by decide +kernel
theorem dX10_bell_8 : decode cX10_bell 8 = .ok (.aload_n 0, 1) := by decide +kernel
theorem dX10_bell_9 : decode cX10_bell 9 = .ok (.iload_n 3, 1) := by decide +kernel
theorem dX10_bell_10 : decode cX10_bell 10 = .ok (.invokevirtual 196, 3) := by decide +kernel
theorem dX10_bell_13 : decode cX10_bell 13 = .ok (.ifCond .ne 6, 3) := by decide +kernel
theorem dX10_bell_16 : decode cX10_bell 16 = .ok (.bipush (-2), 2) := by decide +kernel
theorem dX10_bell_18 : decode cX10_bell 18 = .ok (.ireturn, 1) := by decide +kernel
theorem dX10_bell_19 : decode cX10_bell 19 = .ok (.iload_n 2, 1) := by decide +kernel
theorem dX10_bell_20 : decode cX10_bell 20 = .ok (.iconst 0, 1) := by decide +kernel
theorem dX10_bell_21 : decode cX10_bell 21 = .ok (.sipush 1439, 3) := by decide +kernel
theorem dX10_bell_24 : decode cX10_bell 24 = .ok (.invokestatic 69, 3) := by decide +kernel
theorem dX10_bell_27 : decode cX10_bell 27 = .ok (.ifCond .eq 20, 3) := by decide +kernel
theorem dX10_bell_30 : decode cX10_bell 30 = .ok (.iload 4, 2) := by decide +kernel
theorem dX10_bell_32 : decode cX10_bell 32 = .ok (.iconst 0, 1) := by decide +kernel
theorem dX10_bell_33 : decode cX10_bell 33 = .ok (.sipush 1439, 3) := by decide +kernel
theorem dX10_bell_36 : decode cX10_bell 36 = .ok (.invokestatic 69, 3) := by decide +kernel
theorem dX10_bell_39 : decode cX10_bell 39 = .ok (.ifCond .eq 8, 3) := by decide +kernel
theorem dX10_bell_42 : decode cX10_bell 42 = .ok (.iload_n 1, 1) := by decide +kernel
theorem dX10_bell_43 : decode cX10_bell 43 = .ok (.iload_n 3, 1) := by decide +kernel
theorem dX10_bell_44 : decode cX10_bell 44 = .ok (.if_icmp .ne 6, 3) := by decide +kernel
theorem dX10_bell_47 : decode cX10_bell 47 = .ok (.bipush (-3), 2) := by decide +kernel
theorem dX10_bell_49 : decode cX10_bell 49 = .ok (.ireturn, 1) := by decide +kernel
theorem dX10_bell_50 : decode cX10_bell 50 = .ok (.aload_n 0, 1) := by decide +kernel
theorem dX10_bell_51 : decode cX10_bell 51 = .ok (.getfield 190, 3) := by decide +kernel
theorem dX10_bell_54 : decode cX10_bell 54 = .ok (.bipush 10, 2) := by decide +kernel
theorem dX10_bell_56 : decode cX10_bell 56 = .ok (.if_icmp .ne 6, 3) := by decide +kernel
theorem dX10_bell_59 : decode cX10_bell 59 = .ok (.bipush (-5), 2) := by decide +kernel
theorem dX10_bell_61 : decode cX10_bell 61 = .ok (.ireturn, 1) := by decide +kernel
theorem dX10_bell_62 : decode cX10_bell 62 = .ok (.aload_n 0, 1) := by decide +kernel
theorem dX10_bell_63 : decode cX10_bell 63 = .ok (.getfield 48, 3) := by decide +kernel
theorem dX10_bell_66 : decode cX10_bell 66 = .ok (.iconst 4, 1) := by decide +kernel
theorem dX10_bell_67 : decode cX10_bell 67 = .ok (.aload_n 0, 1) := by decide +kernel
theorem dX10_bell_68 : decode cX10_bell 68 = .ok (.getfield 190, 3) := by decide +kernel
theorem dX10_bell_71 : decode cX10_bell 71 = .ok (.imul, 1) := by decide +kernel
theorem dX10_bell_72 : decode cX10_bell 72 = .ok (.iload_n 1, 1) := by decide +kernel
theorem dX10_bell_73 : decode cX10_bell 73 = .ok (.iastore, 1) := by decide +kernel
theorem dX10_bell_74 : decode cX10_bell 74 = .ok (.aload_n 0, 1) := by decide +kernel
theorem dX10_bell_75 : decode cX10_bell 75 = .ok (.getfield 48, 3) := by decide +kernel
theorem dX10_bell_78 : decode cX10_bell 78 = .ok (.iconst 4, 1) := by decide +kernel
theorem dX10_bell_79 : decode cX10_bell 79 = .ok (.aload_n 0, 1) := by decide +kernel
theorem dX10_bell_80 : decode cX10_bell 80 = .ok (.getfield 190, 3) := by decide +kernel
theorem dX10_bell_83 : decode cX10_bell 83 = .ok (.imul, 1) := by decide +kernel
theorem dX10_bell_84 : decode cX10_bell 84 = .ok (.iconst 1, 1) := by decide +kernel
theorem dX10_bell_85 : decode cX10_bell 85 = .ok (.iadd, 1) := by decide +kernel
theorem dX10_bell_86 : decode cX10_bell 86 = .ok (.iload_n 2, 1) := by decide +kernel
theorem dX10_bell_87 : decode cX10_bell 87 = .ok (.iastore, 1) := by decide +kernel
theorem dX10_bell_88 : decode cX10_bell 88 = .ok (.aload_n 0, 1) := by decide +kernel
theorem dX10_bell_89 : decode cX10_bell 89 = .ok (.getfield 48, 3) := by decide +kernel
theorem dX10_bell_92 : decode cX10_bell 92 = .ok (.iconst 4, 1) := by decide +kernel
theorem dX10_bell_93 : decode cX10_bell 93 = .ok (.aload_n 0, 1) := by decide +kernel
theorem dX10_bell_94 : decode cX10_bell 94 = .ok (.getfield 190, 3) := by decide +kernel
theorem dX10_bell_97 : decode cX10_bell 97 = .ok (.imul, 1) := by decide +kernel
theorem dX10_bell_98 : decode cX10_bell 98 = .ok (.iconst 2, 1) := by decide +kernel
theorem dX10_bell_99 : decode cX10_bell 99 = .ok (.iadd, 1) := by decide +kernel
theorem dX10_bell_100 : decode cX10_bell 100 = .ok (.iload_n 3, 1) := by decide +kernel
theorem dX10_bell_101 : decode cX10_bell 101 = .ok (.iastore, 1) := by decide +kernel
theorem dX10_bell_102 : decode cX10_bell 102 = .ok (.aload_n 0, 1) := by decide +kernel
theorem dX10_bell_103 : decode cX10_bell 103 = .ok (.getfield 48, 3) := by decide +kernel
theorem dX10_bell_106 : decode cX10_bell 106 = .ok (.iconst 4, 1) := by decide +kernel
theorem dX10_bell_107 : decode cX10_bell 107 = .ok (.aload_n 0, 1) := by decide +kernel
theorem dX10_bell_108 : decode cX10_bell 108 = .ok (.getfield 190, 3) := by decide +kernel
theorem dX10_bell_111 : decode cX10_bell 111 = .ok (.imul, 1) := by decide +kernel
theorem dX10_bell_112 : decode cX10_bell 112 = .ok (.iconst 3, 1) := by decide +kernel
theorem dX10_bell_113 : decode cX10_bell 113 = .ok (.iadd, 1) := by decide +kernel
theorem dX10_bell_114 : decode cX10_bell 114 = .ok (.iload 4, 2) := by decide +kernel
theorem dX10_bell_116 : decode cX10_bell 116 = .ok (.iastore, 1) := by decide +kernel
theorem dX10_bell_117 : decode cX10_bell 117 = .ok (.aload_n 0, 1) := by decide +kernel
theorem dX10_bell_118 : decode cX10_bell 118 = .ok (.dup, 1) := by decide +kernel
theorem dX10_bell_119 : decode cX10_bell 119 = .ok (.getfield 190, 3) := by decide +kernel
theorem dX10_bell_122 : decode cX10_bell 122 = .ok (.iconst 1, 1) := by decide +kernel
theorem dX10_bell_123 : decode cX10_bell 123 = .ok (.iadd, 1) := by decide +kernel
theorem dX10_bell_124 : decode cX10_bell 124 = .ok (.putfield 190, 3) := by decide +kernel
theorem dX10_bell_127 : decode cX10_bell 127 = .ok (.aload_n 0, 1) := by decide +kernel
theorem dX10_bell_128 : decode cX10_bell 128 = .ok (.getfield 190, 3) := by decide +kernel
theorem dX10_bell_131 : decode cX10_bell 131 = .ok (.ireturn, 1) := by decide +kernel
theorem dX10_hush_0 : decode cX10_hush 0 = .ok (.aload_n 0, 1) := by decide +kernel
theorem dX10_hush_1 : decode cX10_hush 1 = .ok (.getfield 190, 3) := by decide +kernel
theorem dX10_hush_4 : decode cX10_hush 4 = .ok (.istore_n 1, 1) := by decide +kernel
theorem dX10_hush_5 : decode cX10_hush 5 = .ok (.aload_n 0, 1) := by decide +kernel
theorem dX10_hush_6 : decode cX10_hush 6 = .ok (.iconst 0, 1) := by decide +kernel
theorem dX10_hush_7 : decode cX10_hush 7 = .ok (.putfield 190, 3) := by decide +kernel
theorem dX10_hush_10 : decode cX10_hush 10 = .ok (.iload_n 1, 1) := by decide +kernel
theorem dX10_hush_11 : decode cX10_hush 11 = .ok (.ireturn, 1) := by decide +kernel
theorem dX10_layBound_0 : decode cX10_layBound 0 = .ok (.iconst 0, 1) := by decide +kernel
theorem dX10_layBound_1 : decode cX10_layBound 1 = .ok (.istore_n 1, 1) := by decide +kernel
theorem dX10_layBound_2 : decode cX10_layBound 2 = .ok (.iload_n 1, 1) := by decide +kernel
theorem dX10_layBound_3 : decode cX10_layBound 3 = .ok (.aload_n 0, 1) := by decide +kernel
theorem dX10_layBound_4 : decode cX10_layBound 4 = .ok (.getfield 7, 3) := by decide +kernel
theorem dX10_layBound_7 : decode cX10_layBound 7 = .ok (.if_icmp .ge 23, 3) := by decide +kernel
theorem dX10_layBound_10 : decode cX10_layBound 10 = .ok (.aload_n 0, 1) := by decide +kernel
theorem dX10_layBound_11 : decode cX10_layBound 11 = .ok (.getfield 57, 3) := by decide +kernel
theorem dX10_layBound_14 : decode cX10_layBound 14 = .ok (.iload_n 1, 1) := by decide +kernel
theorem dX10_layBound_15 : decode cX10_layBound 15 = .ok (.iload_n 1, 1) := by decide +kernel
theorem dX10_layBound_16 : decode cX10_layBound 16 = .ok (.iastore, 1) := by decide +kernel
theorem dX10_layBound_17 : decode cX10_layBound 17 = .ok (.aload_n 0, 1) := by decide +kernel
theorem dX10_layBound_18 : decode cX10_layBound 18 = .ok (.getfield 60, 3) := by decide +kernel
theorem dX10_layBound_21 : decode cX10_layBound 21 = .ok (.iload_n 1, 1) := by decide +kernel
theorem dX10_layBound_22 : decode cX10_layBound 22 = .ok (.iconst 0, 1) := by decide +kernel
theorem dX10_layBound_23 : decode cX10_layBound 23 = .ok (.iastore, 1) := by decide +kernel
theorem dX10_layBound_24 : decode cX10_layBound 24 = .ok (.iinc 1 1, 3) := by decide +kernel
theorem dX10_layBound_27 : decode cX10_layBound 27 = .ok (.goto (-25), 3) := by decide +kernel
theorem dX10_layBound_30 : decode cX10_layBound 30 = .ok (.iconst 1, 1) := by decide +kernel
theorem dX10_layBound_31 : decode cX10_layBound 31 = .ok (.istore_n 1, 1) := by decide +kernel
theorem dX10_layBound_32 : decode cX10_layBound 32 = .ok (.iconst 0, 1) := by decide +kernel
theorem dX10_layBound_33 : decode cX10_layBound 33 = .ok (.istore_n 2, 1) := by decide +kernel
theorem dX10_layBound_34 : decode cX10_layBound 34 = .ok (.iload_n 2, 1) := by decide +kernel
theorem dX10_layBound_35 : decode cX10_layBound 35 = .ok (.aload_n 0, 1) := by decide +kernel
theorem dX10_layBound_36 : decode cX10_layBound 36 = .ok (.getfield 190, 3) := by decide +kernel
theorem dX10_layBound_39 : decode cX10_layBound 39 = .ok (.if_icmp .ge 168, 3) := by decide +kernel
theorem dX10_layBound_42 : decode cX10_layBound 42 = .ok (.aload_n 0, 1) := by decide +kernel
theorem dX10_layBound_43 : decode cX10_layBound 43 = .ok (.getfield 48, 3) := by decide +kernel
theorem dX10_layBound_46 : decode cX10_layBound 46 = .ok (.iconst 4, 1) := by decide +kernel
theorem dX10_layBound_47 : decode cX10_layBound 47 = .ok (.iload_n 2, 1) := by decide +kernel
theorem dX10_layBound_48 : decode cX10_layBound 48 = .ok (.imul, 1) := by decide +kernel
theorem dX10_layBound_49 : decode cX10_layBound 49 = .ok (.iaload, 1) := by decide +kernel
theorem dX10_layBound_50 : decode cX10_layBound 50 = .ok (.istore_n 3, 1) := by decide +kernel
theorem dX10_layBound_51 : decode cX10_layBound 51 = .ok (.aload_n 0, 1) := by decide +kernel
theorem dX10_layBound_52 : decode cX10_layBound 52 = .ok (.getfield 48, 3) := by decide +kernel
theorem dX10_layBound_55 : decode cX10_layBound 55 = .ok (.iconst 4, 1) := by decide +kernel
theorem dX10_layBound_56 : decode cX10_layBound 56 = .ok (.iload_n 2, 1) := by decide +kernel
theorem dX10_layBound_57 : decode cX10_layBound 57 = .ok (.imul, 1) := by decide +kernel
theorem dX10_layBound_58 : decode cX10_layBound 58 = .ok (.iconst 2, 1) := by decide +kernel
theorem dX10_layBound_59 : decode cX10_layBound 59 = .ok (.iadd, 1) := by decide +kernel
theorem dX10_layBound_60 : decode cX10_layBound 60 = .ok (.iaload, 1) := by decide +kernel
theorem dX10_layBound_61 : decode cX10_layBound 61 = .ok (.istore 4, 2) := by decide +kernel
theorem dX10_layBound_63 : decode cX10_layBound 63 = .ok (.aload_n 0, 1) := by decide +kernel
theorem dX10_layBound_64 : decode cX10_layBound 64 = .ok (.getfield 48, 3) := by decide +kernel
theorem dX10_layBound_67 : decode cX10_layBound 67 = .ok (.iconst 4, 1) := by decide +kernel
theorem dX10_layBound_68 : decode cX10_layBound 68 = .ok (.iload_n 2, 1) := by decide +kernel
theorem dX10_layBound_69 : decode cX10_layBound 69 = .ok (.imul, 1) := by decide +kernel
theorem dX10_layBound_70 : decode cX10_layBound 70 = .ok (.iconst 3, 1) := by decide +kernel
theorem dX10_layBound_71 : decode cX10_layBound 71 = .ok (.iadd, 1) := by decide +kernel
theorem dX10_layBound_72 : decode cX10_layBound 72 = .ok (.iaload, 1) := by decide +kernel
theorem dX10_layBound_73 : decode cX10_layBound 73 = .ok (.aload_n 0, 1) := by decide +kernel
theorem dX10_layBound_74 : decode cX10_layBound 74 = .ok (.iload 4, 2) := by decide +kernel
theorem dX10_layBound_76 : decode cX10_layBound 76 = .ok (.invokevirtual 199, 3) := by decide +kernel
theorem dX10_layBound_79 : decode cX10_layBound 79 = .ok (.iadd, 1) := by decide +kernel
theorem dX10_layBound_80 : decode cX10_layBound 80 = .ok (.aload_n 0, 1) := by decide +kernel
theorem dX10_layBound_81 : decode cX10_layBound 81 = .ok (.getfield 48, 3) := by decide +kernel
theorem dX10_layBound_84 : decode cX10_layBound 84 = .ok (.iconst 4, 1) := by decide +kernel
theorem dX10_layBound_85 : decode cX10_layBound 85 = .ok (.iload_n 2, 1) := by decide +kernel
theorem dX10_layBound_86 : decode cX10_layBound 86 = .ok (.imul, 1) := by decide +kernel
theorem dX10_layBound_87 : decode cX10_layBound 87 = .ok (.iconst 1, 1) := by decide +kernel
theorem dX10_layBound_88 : decode cX10_layBound 88 = .ok (.iadd, 1) := by decide +kernel
theorem dX10_layBound_89 : decode cX10_layBound 89 = .ok (.iaload, 1) := by decide +kernel
theorem dX10_layBound_90 : decode cX10_layBound 90 = .ok (.isub, 1) := by decide +kernel
theorem dX10_layBound_91 : decode cX10_layBound 91 = .ok (.aload_n 0, 1) := by decide +kernel
theorem dX10_layBound_92 : decode cX10_layBound 92 = .ok (.iload_n 3, 1) := by decide +kernel
theorem dX10_layBound_93 : decode cX10_layBound 93 = .ok (.invokevirtual 199, 3) := by decide +kernel
theorem dX10_layBound_96 : decode cX10_layBound 96 = .ok (.isub, 1) := by decide +kernel
theorem dX10_layBound_97 : decode cX10_layBound 97 = .ok (.ldc 203, 2) := by decide +kernel
theorem dX10_layBound_99 : decode cX10_layBound 99 = .ok (.iadd, 1) := by decide +kernel
theorem dX10_layBound_100 : decode cX10_layBound 100 = .ok (.sipush 1440, 3) := by decide +kernel
theorem dX10_layBound_103 : decode cX10_layBound 103 = .ok (.irem, 1) := by decide +kernel
theorem dX10_layBound_104 : decode cX10_layBound 104 = .ok (.istore 5, 2) := by decide +kernel
theorem dX10_layBound_106 : decode cX10_layBound 106 = .ok (.aload_n 0, 1) := by decide +kernel
theorem dX10_layBound_107 : decode cX10_layBound 107 = .ok (.getfield 57, 3) := by decide +kernel
theorem dX10_layBound_110 : decode cX10_layBound 110 = .ok (.iload_n 3, 1) := by decide +kernel
theorem dX10_layBound_111 : decode cX10_layBound 111 = .ok (.iaload, 1) := by decide +kernel
theorem dX10_layBound_112 : decode cX10_layBound 112 = .ok (.aload_n 0, 1) := by decide +kernel
theorem dX10_layBound_113 : decode cX10_layBound 113 = .ok (.getfield 57, 3) := by decide +kernel
theorem dX10_layBound_116 : decode cX10_layBound 116 = .ok (.iload 4, 2) := by decide +kernel
theorem dX10_layBound_118 : decode cX10_layBound 118 = .ok (.iaload, 1) := by decide +kernel
theorem dX10_layBound_119 : decode cX10_layBound 119 = .ok (.if_icmp .ne 40, 3) := by decide +kernel
theorem dX10_layBound_122 : decode cX10_layBound 122 = .ok (.iload_n 1, 1) := by decide +kernel
theorem dX10_layBound_123 : decode cX10_layBound 123 = .ok (.ifCond .eq 31, 3) := by decide +kernel
theorem dX10_layBound_126 : decode cX10_layBound 126 = .ok (.aload_n 0, 1) := by decide +kernel
theorem dX10_layBound_127 : decode cX10_layBound 127 = .ok (.getfield 60, 3) := by decide +kernel
theorem dX10_layBound_130 : decode cX10_layBound 130 = .ok (.iload 4, 2) := by decide +kernel
theorem dX10_layBound_132 : decode cX10_layBound 132 = .ok (.iaload, 1) := by decide +kernel
theorem dX10_layBound_133 : decode cX10_layBound 133 = .ok (.aload_n 0, 1) := by decide +kernel
theorem dX10_layBound_134 : decode cX10_layBound 134 = .ok (.getfield 60, 3) := by decide +kernel
theorem dX10_layBound_137 : decode cX10_layBound 137 = .ok (.iload_n 3, 1) := by decide +kernel
theorem dX10_layBound_138 : decode cX10_layBound 138 = .ok (.iaload, 1) := by decide +kernel
theorem dX10_layBound_139 : decode cX10_layBound 139 = .ok (.isub, 1) := by decide +kernel
theorem dX10_layBound_140 : decode cX10_layBound 140 = .ok (.iload 5, 2) := by decide +kernel
theorem dX10_layBound_142 : decode cX10_layBound 142 = .ok (.isub, 1) := by decide +kernel
theorem dX10_layBound_143 : decode cX10_layBound 143 = .ok (.sipush 1440, 3) := by decide +kernel
theorem dX10_layBound_146 : decode cX10_layBound 146 = .ok (.irem, 1) := by decide +kernel
theorem dX10_layBound_147 : decode cX10_layBound 147 = .ok (.ifCond .ne 7, 3) := by decide +kernel
theorem dX10_layBound_150 : decode cX10_layBound 150 = .ok (.iconst 1, 1) := by decide +kernel
theorem dX10_layBound_151 : decode cX10_layBound 151 = .ok (.goto 4, 3) := by decide +kernel
theorem dX10_layBound_154 : decode cX10_layBound 154 = .ok (.iconst 0, 1) := by decide +kernel
theorem dX10_layBound_155 : decode cX10_layBound 155 = .ok (.istore_n 1, 1) := by decide +kernel
theorem dX10_layBound_156 : decode cX10_layBound 156 = .ok (.goto 45, 3) := by decide +kernel
theorem dX10_layBound_159 : decode cX10_layBound 159 = .ok (.aload_n 0, 1) := by decide +kernel
theorem dX10_layBound_160 : decode cX10_layBound 160 = .ok (.aload_n 0, 1) := by decide +kernel
theorem dX10_layBound_161 : decode cX10_layBound 161 = .ok (.getfield 57, 3) := by decide +kernel
theorem dX10_layBound_164 : decode cX10_layBound 164 = .ok (.iload 4, 2) := by decide +kernel
theorem dX10_layBound_166 : decode cX10_layBound 166 = .ok (.iaload, 1) := by decide +kernel
theorem dX10_layBound_167 : decode cX10_layBound 167 = .ok (.aload_n 0, 1) := by decide +kernel
theorem dX10_layBound_168 : decode cX10_layBound 168 = .ok (.getfield 57, 3) := by decide +kernel
theorem dX10_layBound_171 : decode cX10_layBound 171 = .ok (.iload_n 3, 1) := by decide +kernel
theorem dX10_layBound_172 : decode cX10_layBound 172 = .ok (.iaload, 1) := by decide +kernel
theorem dX10_layBound_173 : decode cX10_layBound 173 = .ok (.aload_n 0, 1) := by decide +kernel
theorem dX10_layBound_174 : decode cX10_layBound 174 = .ok (.getfield 60, 3) := by decide +kernel
theorem dX10_layBound_177 : decode cX10_layBound 177 = .ok (.iload_n 3, 1) := by decide +kernel
theorem dX10_layBound_178 : decode cX10_layBound 178 = .ok (.iaload, 1) := by decide +kernel
theorem dX10_layBound_179 : decode cX10_layBound 179 = .ok (.iload 5, 2) := by decide +kernel
theorem dX10_layBound_181 : decode cX10_layBound 181 = .ok (.iadd, 1) := by decide +kernel
theorem dX10_layBound_182 : decode cX10_layBound 182 = .ok (.aload_n 0, 1) := by decide +kernel
theorem dX10_layBound_183 : decode cX10_layBound 183 = .ok (.getfield 60, 3) := by decide +kernel
theorem dX10_layBound_186 : decode cX10_layBound 186 = .ok (.iload 4, 2) := by decide +kernel
theorem dX10_layBound_188 : decode cX10_layBound 188 = .ok (.iaload, 1) := by decide +kernel
theorem dX10_layBound_189 : decode cX10_layBound 189 = .ok (.isub, 1) := by decide +kernel
theorem dX10_layBound_190 : decode cX10_layBound 190 = .ok (.sipush 2880, 3) := by decide +kernel
theorem dX10_layBound_193 : decode cX10_layBound 193 = .ok (.iadd, 1) := by decide +kernel
theorem dX10_layBound_194 : decode cX10_layBound 194 = .ok (.sipush 1440, 3) := by decide +kernel
theorem dX10_layBound_197 : decode cX10_layBound 197 = .ok (.irem, 1) := by decide +kernel
theorem dX10_layBound_198 : decode cX10_layBound 198 = .ok (.invokevirtual 237, 3) := by decide +kernel
theorem dX10_layBound_201 : decode cX10_layBound 201 = .ok (.iinc 2 1, 3) := by decide +kernel
theorem dX10_layBound_204 : decode cX10_layBound 204 = .ok (.goto (-170), 3) := by decide +kernel
theorem dX10_layBound_207 : decode cX10_layBound 207 = .ok (.iload_n 1, 1) := by decide +kernel
theorem dX10_layBound_208 : decode cX10_layBound 208 = .ok (.ireturn, 1) := by decide +kernel
theorem dX10_bind_0 : decode cX10_bind 0 = .ok (.iconst 0, 1) := by decide +kernel
theorem dX10_bind_1 : decode cX10_bind 1 = .ok (.istore 4, 2) := by decide +kernel
theorem dX10_bind_3 : decode cX10_bind 3 = .ok (.iload 4, 2) := by decide +kernel
theorem dX10_bind_5 : decode cX10_bind 5 = .ok (.aload_n 0, 1) := by decide +kernel
theorem dX10_bind_6 : decode cX10_bind 6 = .ok (.getfield 7, 3) := by decide +kernel
theorem dX10_bind_9 : decode cX10_bind 9 = .ok (.if_icmp .ge 48, 3) := by decide +kernel
theorem dX10_bind_12 : decode cX10_bind 12 = .ok (.aload_n 0, 1) := by decide +kernel
theorem dX10_bind_13 : decode cX10_bind 13 = .ok (.getfield 57, 3) := by decide +kernel
theorem dX10_bind_16 : decode cX10_bind 16 = .ok (.iload 4, 2) := by decide +kernel
theorem dX10_bind_18 : decode cX10_bind 18 = .ok (.iaload, 1) := by decide +kernel
theorem dX10_bind_19 : decode cX10_bind 19 = .ok (.iload_n 1, 1) := by decide +kernel
theorem dX10_bind_20 : decode cX10_bind 20 = .ok (.if_icmp .ne 31, 3) := by decide +kernel
theorem dX10_bind_23 : decode cX10_bind 23 = .ok (.aload_n 0, 1) := by decide +kernel
theorem dX10_bind_24 : decode cX10_bind 24 = .ok (.getfield 57, 3) := by decide +kernel
theorem dX10_bind_27 : decode cX10_bind 27 = .ok (.iload 4, 2) := by decide +kernel
theorem dX10_bind_29 : decode cX10_bind 29 = .ok (.iload_n 2, 1) := by decide +kernel
theorem dX10_bind_30 : decode cX10_bind 30 = .ok (.iastore, 1) := by decide +kernel
theorem dX10_bind_31 : decode cX10_bind 31 = .ok (.aload_n 0, 1) := by decide +kernel
theorem dX10_bind_32 : decode cX10_bind 32 = .ok (.getfield 60, 3) := by decide +kernel
theorem dX10_bind_35 : decode cX10_bind 35 = .ok (.iload 4, 2) := by decide +kernel
theorem dX10_bind_37 : decode cX10_bind 37 = .ok (.aload_n 0, 1) := by decide +kernel
theorem dX10_bind_38 : decode cX10_bind 38 = .ok (.getfield 60, 3) := by decide +kernel
theorem dX10_bind_41 : decode cX10_bind 41 = .ok (.iload 4, 2) := by decide +kernel
theorem dX10_bind_43 : decode cX10_bind 43 = .ok (.iaload, 1) := by decide +kernel
theorem dX10_bind_44 : decode cX10_bind 44 = .ok (.iload_n 3, 1) := by decide +kernel
theorem dX10_bind_45 : decode cX10_bind 45 = .ok (.iadd, 1) := by decide +kernel
theorem dX10_bind_46 : decode cX10_bind 46 = .ok (.sipush 1440, 3) := by decide +kernel
theorem dX10_bind_49 : decode cX10_bind 49 = .ok (.irem, 1) := by decide +kernel
theorem dX10_bind_50 : decode cX10_bind 50 = .ok (.iastore, 1) := by decide +kernel
theorem dX10_bind_51 : decode cX10_bind 51 = .ok (.iinc 4 1, 3) := by decide +kernel
theorem dX10_bind_54 : decode cX10_bind 54 = .ok (.goto (-51), 3) := by decide +kernel
theorem dX10_bind_57 : decode cX10_bind 57 = .ok (.return_, 1) := by decide +kernel
theorem dX10_canBeRight_0 : decode cX10_canBeRight 0 = .ok (.iconst 1, 1) := by decide +kernel
theorem dX10_canBeRight_1 : decode cX10_canBeRight 1 = .ok (.istore_n 2, 1) := by decide +kernel
theorem dX10_canBeRight_2 : decode cX10_canBeRight 2 = .ok (.iconst 0, 1) := by decide +kernel
theorem dX10_canBeRight_3 : decode cX10_canBeRight 3 = .ok (.istore_n 3, 1) := by decide +kernel
theorem dX10_canBeRight_4 : decode cX10_canBeRight 4 = .ok (.iload_n 3, 1) := by decide +kernel
theorem dX10_canBeRight_5 : decode cX10_canBeRight 5 = .ok (.aload_n 0, 1) := by decide +kernel
theorem dX10_canBeRight_6 : decode cX10_canBeRight 6 = .ok (.getfield 7, 3) := by decide +kernel
theorem dX10_canBeRight_9 : decode cX10_canBeRight 9 = .ok (.if_icmp .ge 83, 3) := by decide +kernel
theorem dX10_canBeRight_12 : decode cX10_canBeRight 12 = .ok (.iconst 0, 1) := by decide +kernel
theorem dX10_canBeRight_13 : decode cX10_canBeRight 13 = .ok (.istore 4, 2) := by decide +kernel
theorem dX10_canBeRight_15 : decode cX10_canBeRight 15 = .ok (.iload 4, 2) := by decide +kernel
theorem dX10_canBeRight_17 : decode cX10_canBeRight 17 = .ok (.iload_n 3, 1) := by decide +kernel
theorem dX10_canBeRight_18 : decode cX10_canBeRight 18 = .ok (.if_icmp .ge 68, 3) := by decide +kernel
theorem dX10_canBeRight_21 : decode cX10_canBeRight 21 = .ok (.iload_n 2, 1) := by decide +kernel
theorem dX10_canBeRight_22 : decode cX10_canBeRight 22 = .ok (.ifCond .eq 56, 3) := by decide +kernel
theorem dX10_canBeRight_25 : decode cX10_canBeRight 25 = .ok (.iload_n 1, 1) := by decide +kernel
theorem dX10_canBeRight_26 : decode cX10_canBeRight 26 = .ok (.iload_n 3, 1) := by decide +kernel
theorem dX10_canBeRight_27 : decode cX10_canBeRight 27 = .ok (.invokestatic 241, 3) := by decide +kernel
theorem dX10_canBeRight_30 : decode cX10_canBeRight 30 = .ok (.ifCond .ne 44, 3) := by decide +kernel
theorem dX10_canBeRight_33 : decode cX10_canBeRight 33 = .ok (.iload_n 1, 1) := by decide +kernel
theorem dX10_canBeRight_34 : decode cX10_canBeRight 34 = .ok (.iload 4, 2) := by decide +kernel
theorem dX10_canBeRight_36 : decode cX10_canBeRight 36 = .ok (.invokestatic 241, 3) := by decide +kernel
theorem dX10_canBeRight_39 : decode cX10_canBeRight 39 = .ok (.ifCond .ne 35, 3) := by decide +kernel
theorem dX10_canBeRight_42 : decode cX10_canBeRight 42 = .ok (.aload_n 0, 1) := by decide +kernel
theorem dX10_canBeRight_43 : decode cX10_canBeRight 43 = .ok (.getfield 57, 3) := by decide +kernel
theorem dX10_canBeRight_46 : decode cX10_canBeRight 46 = .ok (.iload_n 3, 1) := by decide +kernel
theorem dX10_canBeRight_47 : decode cX10_canBeRight 47 = .ok (.iaload, 1) := by decide +kernel
theorem dX10_canBeRight_48 : decode cX10_canBeRight 48 = .ok (.aload_n 0, 1) := by decide +kernel
theorem dX10_canBeRight_49 : decode cX10_canBeRight 49 = .ok (.getfield 57, 3) := by decide +kernel
theorem dX10_canBeRight_52 : decode cX10_canBeRight 52 = .ok (.iload 4, 2) := by decide +kernel
theorem dX10_canBeRight_54 : decode cX10_canBeRight 54 = .ok (.iaload, 1) := by decide +kernel
theorem dX10_canBeRight_55 : decode cX10_canBeRight 55 = .ok (.if_icmp .ne 19, 3) := by decide +kernel
theorem dX10_canBeRight_58 : decode cX10_canBeRight 58 = .ok (.aload_n 0, 1) := by decide +kernel
theorem dX10_canBeRight_59 : decode cX10_canBeRight 59 = .ok (.getfield 60, 3) := by decide +kernel
theorem dX10_canBeRight_62 : decode cX10_canBeRight 62 = .ok (.iload_n 3, 1) := by decide +kernel
theorem dX10_canBeRight_63 : decode cX10_canBeRight 63 = .ok (.iaload, 1) := by decide +kernel
theorem dX10_canBeRight_64 : decode cX10_canBeRight 64 = .ok (.aload_n 0, 1) := by decide +kernel
theorem dX10_canBeRight_65 : decode cX10_canBeRight 65 = .ok (.getfield 60, 3) := by decide +kernel
theorem dX10_canBeRight_68 : decode cX10_canBeRight 68 = .ok (.iload 4, 2) := by decide +kernel
theorem dX10_canBeRight_70 : decode cX10_canBeRight 70 = .ok (.iaload, 1) := by decide +kernel
theorem dX10_canBeRight_71 : decode cX10_canBeRight 71 = .ok (.if_icmp .ne 7, 3) := by decide +kernel
theorem dX10_canBeRight_74 : decode cX10_canBeRight 74 = .ok (.iconst 1, 1) := by decide +kernel
theorem dX10_canBeRight_75 : decode cX10_canBeRight 75 = .ok (.goto 4, 3) := by decide +kernel
theorem dX10_canBeRight_78 : decode cX10_canBeRight 78 = .ok (.iconst 0, 1) := by decide +kernel
theorem dX10_canBeRight_79 : decode cX10_canBeRight 79 = .ok (.istore_n 2, 1) := by decide +kernel
theorem dX10_canBeRight_80 : decode cX10_canBeRight 80 = .ok (.iinc 4 1, 3) := by decide +kernel
theorem dX10_canBeRight_83 : decode cX10_canBeRight 83 = .ok (.goto (-68), 3) := by decide +kernel
theorem dX10_canBeRight_86 : decode cX10_canBeRight 86 = .ok (.iinc 3 1, 3) := by decide +kernel
theorem dX10_canBeRight_89 : decode cX10_canBeRight 89 = .ok (.goto (-85), 3) := by decide +kernel
theorem dX10_canBeRight_92 : decode cX10_canBeRight 92 = .ok (.iload_n 2, 1) := by decide +kernel
theorem dX10_canBeRight_93 : decode cX10_canBeRight 93 = .ok (.ireturn, 1) := by decide +kernel
theorem dX10_bits_0 : decode cX10_bits 0 = .ok (.iconst 0, 1) := by decide +kernel
theorem dX10_bits_1 : decode cX10_bits 1 = .ok (.istore_n 1, 1) := by decide +kernel
theorem dX10_bits_2 : decode cX10_bits 2 = .ok (.iconst 0, 1) := by decide +kernel
theorem dX10_bits_3 : decode cX10_bits 3 = .ok (.istore_n 2, 1) := by decide +kernel
theorem dX10_bits_4 : decode cX10_bits 4 = .ok (.iload_n 2, 1) := by decide +kernel
theorem dX10_bits_5 : decode cX10_bits 5 = .ok (.bipush 10, 2) := by decide +kernel
theorem dX10_bits_7 : decode cX10_bits 7 = .ok (.if_icmp .ge 17, 3) := by decide +kernel
theorem dX10_bits_10 : decode cX10_bits 10 = .ok (.iload_n 1, 1) := by decide +kernel
theorem dX10_bits_11 : decode cX10_bits 11 = .ok (.iload_n 0, 1) := by decide +kernel
theorem dX10_bits_12 : decode cX10_bits 12 = .ok (.iload_n 2, 1) := by decide +kernel
theorem dX10_bits_13 : decode cX10_bits 13 = .ok (.ishr, 1) := by decide +kernel
theorem dX10_bits_14 : decode cX10_bits 14 = .ok (.iconst 1, 1) := by decide +kernel
theorem dX10_bits_15 : decode cX10_bits 15 = .ok (.iand, 1) := by decide +kernel
theorem dX10_bits_16 : decode cX10_bits 16 = .ok (.iadd, 1) := by decide +kernel
theorem dX10_bits_17 : decode cX10_bits 17 = .ok (.istore_n 1, 1) := by decide +kernel
theorem dX10_bits_18 : decode cX10_bits 18 = .ok (.iinc 2 1, 3) := by decide +kernel
theorem dX10_bits_21 : decode cX10_bits 21 = .ok (.goto (-17), 3) := by decide +kernel
theorem dX10_bits_24 : decode cX10_bits 24 = .ok (.iload_n 1, 1) := by decide +kernel
theorem dX10_bits_25 : decode cX10_bits 25 = .ok (.ireturn, 1) := by decide +kernel
theorem dX10_wrong_0 : decode cX10_wrong 0 = .ok (.iload_n 1, 1) := by decide +kernel
theorem dX10_wrong_1 : decode cX10_wrong 1 = .ok (.iconst 0, 1) := by decide +kernel
theorem dX10_wrong_2 : decode cX10_wrong 2 = .ok (.iconst 1, 1) := by decide +kernel
theorem dX10_wrong_3 : decode cX10_wrong 3 = .ok (.invokestatic 69, 3) := by decide +kernel
theorem dX10_wrong_6 : decode cX10_wrong 6 = .ok (.ifCond .ne 6, 3) := by decide +kernel
theorem dX10_wrong_9 : decode cX10_wrong 9 = .ok (.bipush (-3), 2) := by decide +kernel
theorem dX10_wrong_11 : decode cX10_wrong 11 = .ok (.ireturn, 1) := by decide +kernel
theorem dX10_wrong_12 : decode cX10_wrong 12 = .ok (.aload_n 0, 1) := by decide +kernel
theorem dX10_wrong_13 : decode cX10_wrong 13 = .ok (.invokevirtual 244, 3) := by decide +kernel
theorem dX10_wrong_16 : decode cX10_wrong 16 = .ok (.ifCond .ne 5, 3) := by decide +kernel
theorem dX10_wrong_19 : decode cX10_wrong 19 = .ok (.iconst (-1), 1) := by decide +kernel
theorem dX10_wrong_20 : decode cX10_wrong 20 = .ok (.ireturn, 1) := by decide +kernel
theorem dX10_wrong_21 : decode cX10_wrong 21 = .ok (.iconst 1, 1) := by decide +kernel
theorem dX10_wrong_22 : decode cX10_wrong 22 = .ok (.aload_n 0, 1) := by decide +kernel
theorem dX10_wrong_23 : decode cX10_wrong 23 = .ok (.getfield 7, 3) := by decide +kernel
theorem dX10_wrong_26 : decode cX10_wrong 26 = .ok (.ishl, 1) := by decide +kernel
theorem dX10_wrong_27 : decode cX10_wrong 27 = .ok (.iconst 1, 1) := by decide +kernel
theorem dX10_wrong_28 : decode cX10_wrong 28 = .ok (.isub, 1) := by decide +kernel
theorem dX10_wrong_29 : decode cX10_wrong 29 = .ok (.istore_n 2, 1) := by decide +kernel
theorem dX10_wrong_30 : decode cX10_wrong 30 = .ok (.iload_n 2, 1) := by decide +kernel
theorem dX10_wrong_31 : decode cX10_wrong 31 = .ok (.iconst 1, 1) := by decide +kernel
theorem dX10_wrong_32 : decode cX10_wrong 32 = .ok (.isub, 1) := by decide +kernel
theorem dX10_wrong_33 : decode cX10_wrong 33 = .ok (.istore_n 3, 1) := by decide +kernel
theorem dX10_wrong_34 : decode cX10_wrong 34 = .ok (.iload_n 3, 1) := by decide +kernel
theorem dX10_wrong_35 : decode cX10_wrong 35 = .ok (.ifCond .lt 34, 3) := by decide +kernel
theorem dX10_wrong_38 : decode cX10_wrong 38 = .ok (.iload_n 3, 1) := by decide +kernel
theorem dX10_wrong_39 : decode cX10_wrong 39 = .ok (.invokestatic 247, 3) := by decide +kernel
theorem dX10_wrong_42 : decode cX10_wrong 42 = .ok (.iload_n 2, 1) := by decide +kernel
theorem dX10_wrong_43 : decode cX10_wrong 43 = .ok (.invokestatic 247, 3) := by decide +kernel
theorem dX10_wrong_46 : decode cX10_wrong 46 = .ok (.if_icmp .gt 15, 3) := by decide +kernel
theorem dX10_wrong_49 : decode cX10_wrong 49 = .ok (.aload_n 0, 1) := by decide +kernel
theorem dX10_wrong_50 : decode cX10_wrong 50 = .ok (.iload_n 3, 1) := by decide +kernel
theorem dX10_wrong_51 : decode cX10_wrong 51 = .ok (.invokevirtual 250, 3) := by decide +kernel
theorem dX10_wrong_54 : decode cX10_wrong 54 = .ok (.ifCond .eq 7, 3) := by decide +kernel
theorem dX10_wrong_57 : decode cX10_wrong 57 = .ok (.iload_n 3, 1) := by decide +kernel
theorem dX10_wrong_58 : decode cX10_wrong 58 = .ok (.goto 4, 3) := by decide +kernel
theorem dX10_wrong_61 : decode cX10_wrong 61 = .ok (.iload_n 2, 1) := by decide +kernel
theorem dX10_wrong_62 : decode cX10_wrong 62 = .ok (.istore_n 2, 1) := by decide +kernel
theorem dX10_wrong_63 : decode cX10_wrong 63 = .ok (.iinc 3 (-1), 3) := by decide +kernel
theorem dX10_wrong_66 : decode cX10_wrong 66 = .ok (.goto (-32), 3) := by decide +kernel
theorem dX10_wrong_69 : decode cX10_wrong 69 = .ok (.iload_n 1, 1) := by decide +kernel
theorem dX10_wrong_70 : decode cX10_wrong 70 = .ok (.ifCond .ne 10, 3) := by decide +kernel
theorem dX10_wrong_73 : decode cX10_wrong 73 = .ok (.iload_n 2, 1) := by decide +kernel
theorem dX10_wrong_74 : decode cX10_wrong 74 = .ok (.invokestatic 247, 3) := by decide +kernel
theorem dX10_wrong_77 : decode cX10_wrong 77 = .ok (.goto 4, 3) := by decide +kernel
theorem dX10_wrong_80 : decode cX10_wrong 80 = .ok (.iload_n 2, 1) := by decide +kernel
theorem dX10_wrong_81 : decode cX10_wrong 81 = .ok (.ireturn, 1) := by decide +kernel
theorem dX10_seen_0 : decode cX10_seen 0 = .ok (.iload_n 1, 1) := by decide +kernel
theorem dX10_seen_1 : decode cX10_seen 1 = .ok (.iconst 0, 1) := by decide +kernel
theorem dX10_seen_2 : decode cX10_seen 2 = .ok (.iconst 5, 1) := by decide +kernel
theorem dX10_seen_3 : decode cX10_seen 3 = .ok (.invokestatic 69, 3) := by decide +kernel
theorem dX10_seen_6 : decode cX10_seen 6 = .ok (.ifCond .eq 11, 3) := by decide +kernel
theorem dX10_seen_9 : decode cX10_seen 9 = .ok (.aload_n 0, 1) := by decide +kernel
theorem dX10_seen_10 : decode cX10_seen 10 = .ok (.iload_n 2, 1) := by decide +kernel
theorem dX10_seen_11 : decode cX10_seen 11 = .ok (.invokevirtual 196, 3) := by decide +kernel
theorem dX10_seen_14 : decode cX10_seen 14 = .ok (.ifCond .ne 6, 3) := by decide +kernel
theorem dX10_seen_17 : decode cX10_seen 17 = .ok (.bipush (-2), 2) := by decide +kernel
theorem dX10_seen_19 : decode cX10_seen 19 = .ok (.ireturn, 1) := by decide +kernel
theorem dX10_seen_20 : decode cX10_seen 20 = .ok (.iload_n 3, 1) := by decide +kernel
theorem dX10_seen_21 : decode cX10_seen 21 = .ok (.iconst 0, 1) := by decide +kernel
theorem dX10_seen_22 : decode cX10_seen 22 = .ok (.sipush 1439, 3) := by decide +kernel
theorem dX10_seen_25 : decode cX10_seen 25 = .ok (.invokestatic 69, 3) := by decide +kernel
theorem dX10_seen_28 : decode cX10_seen 28 = .ok (.ifCond .ne 6, 3) := by decide +kernel
theorem dX10_seen_31 : decode cX10_seen 31 = .ok (.bipush (-3), 2) := by decide +kernel
theorem dX10_seen_33 : decode cX10_seen 33 = .ok (.ireturn, 1) := by decide +kernel
theorem dX10_seen_34 : decode cX10_seen 34 = .ok (.aload_n 0, 1) := by decide +kernel
theorem dX10_seen_35 : decode cX10_seen 35 = .ok (.getfield 193, 3) := by decide +kernel
theorem dX10_seen_38 : decode cX10_seen 38 = .ok (.bipush 12, 2) := by decide +kernel
theorem dX10_seen_40 : decode cX10_seen 40 = .ok (.if_icmp .ne 6, 3) := by decide +kernel
theorem dX10_seen_43 : decode cX10_seen 43 = .ok (.bipush (-5), 2) := by decide +kernel
theorem dX10_seen_45 : decode cX10_seen 45 = .ok (.ireturn, 1) := by decide +kernel
theorem dX10_seen_46 : decode cX10_seen 46 = .ok (.aload_n 0, 1) := by decide +kernel
theorem dX10_seen_47 : decode cX10_seen 47 = .ok (.getfield 51, 3) := by decide +kernel
theorem dX10_seen_50 : decode cX10_seen 50 = .ok (.iconst 3, 1) := by decide +kernel
theorem dX10_seen_51 : decode cX10_seen 51 = .ok (.aload_n 0, 1) := by decide +kernel
theorem dX10_seen_52 : decode cX10_seen 52 = .ok (.getfield 193, 3) := by decide +kernel
theorem dX10_seen_55 : decode cX10_seen 55 = .ok (.imul, 1) := by decide +kernel
theorem dX10_seen_56 : decode cX10_seen 56 = .ok (.iload_n 1, 1) := by decide +kernel
theorem dX10_seen_57 : decode cX10_seen 57 = .ok (.iastore, 1) := by decide +kernel
theorem dX10_seen_58 : decode cX10_seen 58 = .ok (.aload_n 0, 1) := by decide +kernel
theorem dX10_seen_59 : decode cX10_seen 59 = .ok (.getfield 51, 3) := by decide +kernel
theorem dX10_seen_62 : decode cX10_seen 62 = .ok (.iconst 3, 1) := by decide +kernel
theorem dX10_seen_63 : decode cX10_seen 63 = .ok (.aload_n 0, 1) := by decide +kernel
theorem dX10_seen_64 : decode cX10_seen 64 = .ok (.getfield 193, 3) := by decide +kernel
theorem dX10_seen_67 : decode cX10_seen 67 = .ok (.imul, 1) := by decide +kernel
theorem dX10_seen_68 : decode cX10_seen 68 = .ok (.iconst 1, 1) := by decide +kernel
theorem dX10_seen_69 : decode cX10_seen 69 = .ok (.iadd, 1) := by decide +kernel
theorem dX10_seen_70 : decode cX10_seen 70 = .ok (.iload_n 2, 1) := by decide +kernel
theorem dX10_seen_71 : decode cX10_seen 71 = .ok (.iastore, 1) := by decide +kernel
theorem dX10_seen_72 : decode cX10_seen 72 = .ok (.aload_n 0, 1) := by decide +kernel
theorem dX10_seen_73 : decode cX10_seen 73 = .ok (.getfield 51, 3) := by decide +kernel
theorem dX10_seen_76 : decode cX10_seen 76 = .ok (.iconst 3, 1) := by decide +kernel
theorem dX10_seen_77 : decode cX10_seen 77 = .ok (.aload_n 0, 1) := by decide +kernel
theorem dX10_seen_78 : decode cX10_seen 78 = .ok (.getfield 193, 3) := by decide +kernel
theorem dX10_seen_81 : decode cX10_seen 81 = .ok (.imul, 1) := by decide +kernel
theorem dX10_seen_82 : decode cX10_seen 82 = .ok (.iconst 2, 1) := by decide +kernel
theorem dX10_seen_83 : decode cX10_seen 83 = .ok (.iadd, 1) := by decide +kernel
theorem dX10_seen_84 : decode cX10_seen 84 = .ok (.iload_n 3, 1) := by decide +kernel
theorem dX10_seen_85 : decode cX10_seen 85 = .ok (.iastore, 1) := by decide +kernel
theorem dX10_seen_86 : decode cX10_seen 86 = .ok (.aload_n 0, 1) := by decide +kernel
theorem dX10_seen_87 : decode cX10_seen 87 = .ok (.dup, 1) := by decide +kernel
theorem dX10_seen_88 : decode cX10_seen 88 = .ok (.getfield 193, 3) := by decide +kernel
theorem dX10_seen_91 : decode cX10_seen 91 = .ok (.iconst 1, 1) := by decide +kernel
theorem dX10_seen_92 : decode cX10_seen 92 = .ok (.iadd, 1) := by decide +kernel
theorem dX10_seen_93 : decode cX10_seen 93 = .ok (.putfield 193, 3) := by decide +kernel
theorem dX10_seen_96 : decode cX10_seen 96 = .ok (.aload_n 0, 1) := by decide +kernel
theorem dX10_seen_97 : decode cX10_seen 97 = .ok (.getfield 193, 3) := by decide +kernel
theorem dX10_seen_100 : decode cX10_seen 100 = .ok (.ireturn, 1) := by decide +kernel
theorem dX10_forget_0 : decode cX10_forget 0 = .ok (.aload_n 0, 1) := by decide +kernel
theorem dX10_forget_1 : decode cX10_forget 1 = .ok (.getfield 193, 3) := by decide +kernel
theorem dX10_forget_4 : decode cX10_forget 4 = .ok (.istore_n 1, 1) := by decide +kernel
theorem dX10_forget_5 : decode cX10_forget 5 = .ok (.aload_n 0, 1) := by decide +kernel
theorem dX10_forget_6 : decode cX10_forget 6 = .ok (.iconst 0, 1) := by decide +kernel
theorem dX10_forget_7 : decode cX10_forget 7 = .ok (.putfield 193, 3) := by decide +kernel
theorem dX10_forget_10 : decode cX10_forget 10 = .ok (.iload_n 1, 1) := by decide +kernel
theorem dX10_forget_11 : decode cX10_forget 11 = .ok (.ireturn, 1) := by decide +kernel
theorem dX10_canBoth_0 : decode cX10_canBoth 0 = .ok (.iload_n 2, 1) := by decide +kernel
theorem dX10_canBoth_1 : decode cX10_canBoth 1 = .ok (.aload_n 0, 1) := by decide +kernel
theorem dX10_canBoth_2 : decode cX10_canBoth 2 = .ok (.iload_n 1, 1) := by decide +kernel
theorem dX10_canBoth_3 : decode cX10_canBoth 3 = .ok (.invokevirtual 199, 3) := by decide +kernel
theorem dX10_canBoth_6 : decode cX10_canBoth 6 = .ok (.iadd, 1) := by decide +kernel
theorem dX10_canBoth_7 : decode cX10_canBoth 7 = .ok (.iload 4, 2) := by decide +kernel
theorem dX10_canBoth_9 : decode cX10_canBoth 9 = .ok (.isub, 1) := by decide +kernel
theorem dX10_canBoth_10 : decode cX10_canBoth 10 = .ok (.aload_n 0, 1) := by decide +kernel
theorem dX10_canBoth_11 : decode cX10_canBoth 11 = .ok (.iload_n 3, 1) := by decide +kernel
theorem dX10_canBoth_12 : decode cX10_canBoth 12 = .ok (.invokevirtual 199, 3) := by decide +kernel
theorem dX10_canBoth_15 : decode cX10_canBoth 15 = .ok (.isub, 1) := by decide +kernel
theorem dX10_canBoth_16 : decode cX10_canBoth 16 = .ok (.istore 5, 2) := by decide +kernel
theorem dX10_canBoth_18 : decode cX10_canBoth 18 = .ok (.aload_n 0, 1) := by decide +kernel
theorem dX10_canBoth_19 : decode cX10_canBoth 19 = .ok (.getfield 29, 3) := by decide +kernel
theorem dX10_canBoth_22 : decode cX10_canBoth 22 = .ok (.bipush 10, 2) := by decide +kernel
theorem dX10_canBoth_24 : decode cX10_canBoth 24 = .ok (.iload_n 1, 1) := by decide +kernel
theorem dX10_canBoth_25 : decode cX10_canBoth 25 = .ok (.imul, 1) := by decide +kernel
theorem dX10_canBoth_26 : decode cX10_canBoth 26 = .ok (.iload_n 3, 1) := by decide +kernel
theorem dX10_canBoth_27 : decode cX10_canBoth 27 = .ok (.iadd, 1) := by decide +kernel
theorem dX10_canBoth_28 : decode cX10_canBoth 28 = .ok (.iaload, 1) := by decide +kernel
theorem dX10_canBoth_29 : decode cX10_canBoth 29 = .ok (.iload 5, 2) := by decide +kernel
theorem dX10_canBoth_31 : decode cX10_canBoth 31 = .ok (.ifCond .ge 9, 3) := by decide +kernel
theorem dX10_canBoth_34 : decode cX10_canBoth 34 = .ok (.iload 5, 2) := by decide +kernel
theorem dX10_canBoth_36 : decode cX10_canBoth 36 = .ok (.ineg, 1) := by decide +kernel
theorem dX10_canBoth_37 : decode cX10_canBoth 37 = .ok (.goto 5, 3) := by decide +kernel
theorem dX10_canBoth_40 : decode cX10_canBoth 40 = .ok (.iload 5, 2) := by decide +kernel
theorem dX10_canBoth_42 : decode cX10_canBoth 42 = .ok (.if_icmp .gt 7, 3) := by decide +kernel
theorem dX10_canBoth_45 : decode cX10_canBoth 45 = .ok (.iconst 1, 1) := by decide +kernel
theorem dX10_canBoth_46 : decode cX10_canBoth 46 = .ok (.goto 4, 3) := by decide +kernel
theorem dX10_canBoth_49 : decode cX10_canBoth 49 = .ok (.iconst 0, 1) := by decide +kernel
theorem dX10_canBoth_50 : decode cX10_canBoth 50 = .ok (.ireturn, 1) := by decide +kernel
theorem dX10_liars_0 : decode cX10_liars 0 = .ok (.iconst 0, 1) := by decide +kernel
theorem dX10_liars_1 : decode cX10_liars 1 = .ok (.istore_n 1, 1) := by decide +kernel
theorem dX10_liars_2 : decode cX10_liars 2 = .ok (.iconst 0, 1) := by decide +kernel
theorem dX10_liars_3 : decode cX10_liars 3 = .ok (.istore_n 2, 1) := by decide +kernel
theorem dX10_liars_4 : decode cX10_liars 4 = .ok (.iload_n 2, 1) := by decide +kernel
theorem dX10_liars_5 : decode cX10_liars 5 = .ok (.aload_n 0, 1) := by decide +kernel
theorem dX10_liars_6 : decode cX10_liars 6 = .ok (.getfield 193, 3) := by decide +kernel
theorem dX10_liars_9 : decode cX10_liars 9 = .ok (.if_icmp .ge 117, 3) := by decide +kernel
theorem dX10_liars_12 : decode cX10_liars 12 = .ok (.iconst 0, 1) := by decide +kernel
theorem dX10_liars_13 : decode cX10_liars 13 = .ok (.istore_n 3, 1) := by decide +kernel
theorem dX10_liars_14 : decode cX10_liars 14 = .ok (.iload_n 3, 1) := by decide +kernel
theorem dX10_liars_15 : decode cX10_liars 15 = .ok (.iload_n 2, 1) := by decide +kernel
theorem dX10_liars_16 : decode cX10_liars 16 = .ok (.if_icmp .ge 104, 3) := by decide +kernel
theorem dX10_liars_19 : decode cX10_liars 19 = .ok (.aload_n 0, 1) := by decide +kernel
theorem dX10_liars_20 : decode cX10_liars 20 = .ok (.getfield 51, 3) := by decide +kernel
theorem dX10_liars_23 : decode cX10_liars 23 = .ok (.iconst 3, 1) := by decide +kernel
theorem dX10_liars_24 : decode cX10_liars 24 = .ok (.iload_n 2, 1) := by decide +kernel
theorem dX10_liars_25 : decode cX10_liars 25 = .ok (.imul, 1) := by decide +kernel
theorem dX10_liars_26 : decode cX10_liars 26 = .ok (.iaload, 1) := by decide +kernel
theorem dX10_liars_27 : decode cX10_liars 27 = .ok (.aload_n 0, 1) := by decide +kernel
theorem dX10_liars_28 : decode cX10_liars 28 = .ok (.getfield 51, 3) := by decide +kernel
theorem dX10_liars_31 : decode cX10_liars 31 = .ok (.iconst 3, 1) := by decide +kernel
theorem dX10_liars_32 : decode cX10_liars 32 = .ok (.iload_n 3, 1) := by decide +kernel
theorem dX10_liars_33 : decode cX10_liars 33 = .ok (.imul, 1) := by decide +kernel
theorem dX10_liars_34 : decode cX10_liars 34 = .ok (.iaload, 1) := by decide +kernel
theorem dX10_liars_35 : decode cX10_liars 35 = .ok (.if_icmp .ne 50, 3) := by decide +kernel
theorem dX10_liars_38 : decode cX10_liars 38 = .ok (.aload_n 0, 1) := by decide +kernel
theorem dX10_liars_39 : decode cX10_liars 39 = .ok (.aload_n 0, 1) := by decide +kernel
theorem dX10_liars_40 : decode cX10_liars 40 = .ok (.getfield 51, 3) := by decide +kernel
theorem dX10_liars_43 : decode cX10_liars 43 = .ok (.iconst 3, 1) := by decide +kernel
theorem dX10_liars_44 : decode cX10_liars 44 = .ok (.iload_n 2, 1) := by decide +kernel
theorem dX10_liars_45 : decode cX10_liars 45 = .ok (.imul, 1) := by decide +kernel
theorem dX10_liars_46 : decode cX10_liars 46 = .ok (.iconst 1, 1) := by decide +kernel
theorem dX10_liars_47 : decode cX10_liars 47 = .ok (.iadd, 1) := by decide +kernel
theorem dX10_liars_48 : decode cX10_liars 48 = .ok (.iaload, 1) := by decide +kernel
theorem dX10_liars_49 : decode cX10_liars 49 = .ok (.aload_n 0, 1) := by decide +kernel
theorem dX10_liars_50 : decode cX10_liars 50 = .ok (.getfield 51, 3) := by decide +kernel
theorem dX10_liars_53 : decode cX10_liars 53 = .ok (.iconst 3, 1) := by decide +kernel
theorem dX10_liars_54 : decode cX10_liars 54 = .ok (.iload_n 2, 1) := by decide +kernel
theorem dX10_liars_55 : decode cX10_liars 55 = .ok (.imul, 1) := by decide +kernel
theorem dX10_liars_56 : decode cX10_liars 56 = .ok (.iconst 2, 1) := by decide +kernel
theorem dX10_liars_57 : decode cX10_liars 57 = .ok (.iadd, 1) := by decide +kernel
theorem dX10_liars_58 : decode cX10_liars 58 = .ok (.iaload, 1) := by decide +kernel
theorem dX10_liars_59 : decode cX10_liars 59 = .ok (.aload_n 0, 1) := by decide +kernel
theorem dX10_liars_60 : decode cX10_liars 60 = .ok (.getfield 51, 3) := by decide +kernel
theorem dX10_liars_63 : decode cX10_liars 63 = .ok (.iconst 3, 1) := by decide +kernel
theorem dX10_liars_64 : decode cX10_liars 64 = .ok (.iload_n 3, 1) := by decide +kernel
theorem dX10_liars_65 : decode cX10_liars 65 = .ok (.imul, 1) := by decide +kernel
theorem dX10_liars_66 : decode cX10_liars 66 = .ok (.iconst 1, 1) := by decide +kernel
theorem dX10_liars_67 : decode cX10_liars 67 = .ok (.iadd, 1) := by decide +kernel
theorem dX10_liars_68 : decode cX10_liars 68 = .ok (.iaload, 1) := by decide +kernel
theorem dX10_liars_69 : decode cX10_liars 69 = .ok (.aload_n 0, 1) := by decide +kernel
theorem dX10_liars_70 : decode cX10_liars 70 = .ok (.getfield 51, 3) := by decide +kernel
theorem dX10_liars_73 : decode cX10_liars 73 = .ok (.iconst 3, 1) := by decide +kernel
theorem dX10_liars_74 : decode cX10_liars 74 = .ok (.iload_n 3, 1) := by decide +kernel
theorem dX10_liars_75 : decode cX10_liars 75 = .ok (.imul, 1) := by decide +kernel
theorem dX10_liars_76 : decode cX10_liars 76 = .ok (.iconst 2, 1) := by decide +kernel
theorem dX10_liars_77 : decode cX10_liars 77 = .ok (.iadd, 1) := by decide +kernel
theorem dX10_liars_78 : decode cX10_liars 78 = .ok (.iaload, 1) := by decide +kernel
theorem dX10_liars_79 : decode cX10_liars 79 = .ok (.invokevirtual 253, 3) := by decide +kernel
theorem dX10_liars_82 : decode cX10_liars 82 = .ok (.ifCond .eq 7, 3) := by decide +kernel
theorem dX10_liars_85 : decode cX10_liars 85 = .ok (.iconst 1, 1) := by decide +kernel
theorem dX10_liars_86 : decode cX10_liars 86 = .ok (.goto 4, 3) := by decide +kernel
theorem dX10_liars_89 : decode cX10_liars 89 = .ok (.iconst 0, 1) := by decide +kernel
theorem dX10_liars_90 : decode cX10_liars 90 = .ok (.istore 4, 2) := by decide +kernel
theorem dX10_liars_92 : decode cX10_liars 92 = .ok (.iload_n 1, 1) := by decide +kernel
theorem dX10_liars_93 : decode cX10_liars 93 = .ok (.iload 4, 2) := by decide +kernel
theorem dX10_liars_95 : decode cX10_liars 95 = .ok (.ifCond .eq 7, 3) := by decide +kernel
theorem dX10_liars_98 : decode cX10_liars 98 = .ok (.iconst 0, 1) := by decide +kernel
theorem dX10_liars_99 : decode cX10_liars 99 = .ok (.goto 13, 3) := by decide +kernel
theorem dX10_liars_102 : decode cX10_liars 102 = .ok (.iconst 1, 1) := by decide +kernel
theorem dX10_liars_103 : decode cX10_liars 103 = .ok (.aload_n 0, 1) := by decide +kernel
theorem dX10_liars_104 : decode cX10_liars 104 = .ok (.getfield 51, 3) := by decide +kernel
theorem dX10_liars_107 : decode cX10_liars 107 = .ok (.iconst 3, 1) := by decide +kernel
theorem dX10_liars_108 : decode cX10_liars 108 = .ok (.iload_n 2, 1) := by decide +kernel
theorem dX10_liars_109 : decode cX10_liars 109 = .ok (.imul, 1) := by decide +kernel
theorem dX10_liars_110 : decode cX10_liars 110 = .ok (.iaload, 1) := by decide +kernel
theorem dX10_liars_111 : decode cX10_liars 111 = .ok (.ishl, 1) := by decide +kernel
theorem dX10_liars_112 : decode cX10_liars 112 = .ok (.ior, 1) := by decide +kernel
theorem dX10_liars_113 : decode cX10_liars 113 = .ok (.istore_n 1, 1) := by decide +kernel
theorem dX10_liars_114 : decode cX10_liars 114 = .ok (.iinc 3 1, 3) := by decide +kernel
theorem dX10_liars_117 : decode cX10_liars 117 = .ok (.goto (-103), 3) := by decide +kernel
theorem dX10_liars_120 : decode cX10_liars 120 = .ok (.iinc 2 1, 3) := by decide +kernel
theorem dX10_liars_123 : decode cX10_liars 123 = .ok (.goto (-119), 3) := by decide +kernel
theorem dX10_liars_126 : decode cX10_liars 126 = .ok (.iload_n 1, 1) := by decide +kernel
theorem dX10_liars_127 : decode cX10_liars 127 = .ok (.ireturn, 1) := by decide +kernel
theorem dX10_canBe_0 : decode cX10_canBe 0 = .ok (.aload_n 0, 1) := by decide +kernel
theorem dX10_canBe_1 : decode cX10_canBe 1 = .ok (.iload_n 1, 1) := by decide +kernel
theorem dX10_canBe_2 : decode cX10_canBe 2 = .ok (.invokevirtual 196, 3) := by decide +kernel
theorem dX10_canBe_5 : decode cX10_canBe 5 = .ok (.ifCond .ne 6, 3) := by decide +kernel
theorem dX10_canBe_8 : decode cX10_canBe 8 = .ok (.bipush (-2), 2) := by decide +kernel
theorem dX10_canBe_10 : decode cX10_canBe 10 = .ok (.ireturn, 1) := by decide +kernel
theorem dX10_canBe_11 : decode cX10_canBe 11 = .ok (.iload_n 2, 1) := by decide +kernel
theorem dX10_canBe_12 : decode cX10_canBe 12 = .ok (.iconst 0, 1) := by decide +kernel
theorem dX10_canBe_13 : decode cX10_canBe 13 = .ok (.sipush 1439, 3) := by decide +kernel
theorem dX10_canBe_16 : decode cX10_canBe 16 = .ok (.invokestatic 69, 3) := by decide +kernel
theorem dX10_canBe_19 : decode cX10_canBe 19 = .ok (.ifCond .ne 6, 3) := by decide +kernel
theorem dX10_canBe_22 : decode cX10_canBe 22 = .ok (.bipush (-3), 2) := by decide +kernel
theorem dX10_canBe_24 : decode cX10_canBe 24 = .ok (.ireturn, 1) := by decide +kernel
theorem dX10_canBe_25 : decode cX10_canBe 25 = .ok (.bipush 63, 2) := by decide +kernel
theorem dX10_canBe_27 : decode cX10_canBe 27 = .ok (.aload_n 0, 1) := by decide +kernel
theorem dX10_canBe_28 : decode cX10_canBe 28 = .ok (.invokevirtual 257, 3) := by decide +kernel
theorem dX10_canBe_31 : decode cX10_canBe 31 = .ok (.iconst (-1), 1) := by decide +kernel
theorem dX10_canBe_32 : decode cX10_canBe 32 = .ok (.ixor, 1) := by decide +kernel
theorem dX10_canBe_33 : decode cX10_canBe 33 = .ok (.iand, 1) := by decide +kernel
theorem dX10_canBe_34 : decode cX10_canBe 34 = .ok (.istore_n 3, 1) := by decide +kernel
theorem dX10_canBe_35 : decode cX10_canBe 35 = .ok (.iconst 0, 1) := by decide +kernel
theorem dX10_canBe_36 : decode cX10_canBe 36 = .ok (.istore 4, 2) := by decide +kernel
theorem dX10_canBe_38 : decode cX10_canBe 38 = .ok (.iload 4, 2) := by decide +kernel
theorem dX10_canBe_40 : decode cX10_canBe 40 = .ok (.aload_n 0, 1) := by decide +kernel
theorem dX10_canBe_41 : decode cX10_canBe 41 = .ok (.getfield 193, 3) := by decide +kernel
theorem dX10_canBe_44 : decode cX10_canBe 44 = .ok (.if_icmp .ge 60, 3) := by decide +kernel
theorem dX10_canBe_47 : decode cX10_canBe 47 = .ok (.aload_n 0, 1) := by decide +kernel
theorem dX10_canBe_48 : decode cX10_canBe 48 = .ok (.iload_n 1, 1) := by decide +kernel
theorem dX10_canBe_49 : decode cX10_canBe 49 = .ok (.iload_n 2, 1) := by decide +kernel
theorem dX10_canBe_50 : decode cX10_canBe 50 = .ok (.aload_n 0, 1) := by decide +kernel
theorem dX10_canBe_51 : decode cX10_canBe 51 = .ok (.getfield 51, 3) := by decide +kernel
theorem dX10_canBe_54 : decode cX10_canBe 54 = .ok (.iconst 3, 1) := by decide +kernel
theorem dX10_canBe_55 : decode cX10_canBe 55 = .ok (.iload 4, 2) := by decide +kernel
theorem dX10_canBe_57 : decode cX10_canBe 57 = .ok (.imul, 1) := by decide +kernel
theorem dX10_canBe_58 : decode cX10_canBe 58 = .ok (.iconst 1, 1) := by decide +kernel
theorem dX10_canBe_59 : decode cX10_canBe 59 = .ok (.iadd, 1) := by decide +kernel
theorem dX10_canBe_60 : decode cX10_canBe 60 = .ok (.iaload, 1) := by decide +kernel
theorem dX10_canBe_61 : decode cX10_canBe 61 = .ok (.aload_n 0, 1) := by decide +kernel
theorem dX10_canBe_62 : decode cX10_canBe 62 = .ok (.getfield 51, 3) := by decide +kernel
theorem dX10_canBe_65 : decode cX10_canBe 65 = .ok (.iconst 3, 1) := by decide +kernel
theorem dX10_canBe_66 : decode cX10_canBe 66 = .ok (.iload 4, 2) := by decide +kernel
theorem dX10_canBe_68 : decode cX10_canBe 68 = .ok (.imul, 1) := by decide +kernel
theorem dX10_canBe_69 : decode cX10_canBe 69 = .ok (.iconst 2, 1) := by decide +kernel
theorem dX10_canBe_70 : decode cX10_canBe 70 = .ok (.iadd, 1) := by decide +kernel
theorem dX10_canBe_71 : decode cX10_canBe 71 = .ok (.iaload, 1) := by decide +kernel
theorem dX10_canBe_72 : decode cX10_canBe 72 = .ok (.invokevirtual 253, 3) := by decide +kernel
theorem dX10_canBe_75 : decode cX10_canBe 75 = .ok (.ifCond .eq 7, 3) := by decide +kernel
theorem dX10_canBe_78 : decode cX10_canBe 78 = .ok (.iload_n 3, 1) := by decide +kernel
theorem dX10_canBe_79 : decode cX10_canBe 79 = .ok (.goto 18, 3) := by decide +kernel
theorem dX10_canBe_82 : decode cX10_canBe 82 = .ok (.iload_n 3, 1) := by decide +kernel
theorem dX10_canBe_83 : decode cX10_canBe 83 = .ok (.iconst 1, 1) := by decide +kernel
theorem dX10_canBe_84 : decode cX10_canBe 84 = .ok (.aload_n 0, 1) := by decide +kernel
theorem dX10_canBe_85 : decode cX10_canBe 85 = .ok (.getfield 51, 3) := by decide +kernel
theorem dX10_canBe_88 : decode cX10_canBe 88 = .ok (.iconst 3, 1) := by decide +kernel
theorem dX10_canBe_89 : decode cX10_canBe 89 = .ok (.iload 4, 2) := by decide +kernel
theorem dX10_canBe_91 : decode cX10_canBe 91 = .ok (.imul, 1) := by decide +kernel
theorem dX10_canBe_92 : decode cX10_canBe 92 = .ok (.iaload, 1) := by decide +kernel
theorem dX10_canBe_93 : decode cX10_canBe 93 = .ok (.ishl, 1) := by decide +kernel
theorem dX10_canBe_94 : decode cX10_canBe 94 = .ok (.iconst (-1), 1) := by decide +kernel
theorem dX10_canBe_95 : decode cX10_canBe 95 = .ok (.ixor, 1) := by decide +kernel
theorem dX10_canBe_96 : decode cX10_canBe 96 = .ok (.iand, 1) := by decide +kernel
theorem dX10_canBe_97 : decode cX10_canBe 97 = .ok (.istore_n 3, 1) := by decide +kernel
theorem dX10_canBe_98 : decode cX10_canBe 98 = .ok (.iinc 4 1, 3) := by decide +kernel
theorem dX10_canBe_101 : decode cX10_canBe 101 = .ok (.goto (-63), 3) := by decide +kernel
theorem dX10_canBe_104 : decode cX10_canBe 104 = .ok (.iload_n 3, 1) := by decide +kernel
theorem dX10_canBe_105 : decode cX10_canBe 105 = .ok (.ireturn, 1) := by decide +kernel
theorem dX10_hang_0 : decode cX10_hang 0 = .ok (.iload_n 1, 1) := by decide +kernel
theorem dX10_hang_1 : decode cX10_hang 1 = .ok (.iconst 0, 1) := by decide +kernel
theorem dX10_hang_2 : decode cX10_hang 2 = .ok (.iconst 1, 1) := by decide +kernel
theorem dX10_hang_3 : decode cX10_hang 3 = .ok (.invokestatic 69, 3) := by decide +kernel
theorem dX10_hang_6 : decode cX10_hang 6 = .ok (.ifCond .ne 6, 3) := by decide +kernel
theorem dX10_hang_9 : decode cX10_hang 9 = .ok (.bipush (-3), 2) := by decide +kernel
theorem dX10_hang_11 : decode cX10_hang 11 = .ok (.ireturn, 1) := by decide +kernel
theorem dX10_hang_12 : decode cX10_hang 12 = .ok (.aload_n 0, 1) := by decide +kernel
theorem dX10_hang_13 : decode cX10_hang 13 = .ok (.getfield 73, 3) := by decide +kernel
theorem dX10_hang_16 : decode cX10_hang 16 = .ok (.ifCond .ne 6, 3) := by decide +kernel
theorem dX10_hang_19 : decode cX10_hang 19 = .ok (.bipush (-4), 2) := by decide +kernel
theorem dX10_hang_21 : decode cX10_hang 21 = .ok (.ireturn, 1) := by decide +kernel
theorem dX10_hang_22 : decode cX10_hang 22 = .ok (.iconst (-1), 1) := by decide +kernel
theorem dX10_hang_23 : decode cX10_hang 23 = .ok (.istore_n 2, 1) := by decide +kernel
theorem dX10_hang_24 : decode cX10_hang 24 = .ok (.iconst 0, 1) := by decide +kernel
theorem dX10_hang_25 : decode cX10_hang 25 = .ok (.istore_n 3, 1) := by decide +kernel
theorem dX10_hang_26 : decode cX10_hang 26 = .ok (.iconst 0, 1) := by decide +kernel
theorem dX10_hang_27 : decode cX10_hang 27 = .ok (.istore 4, 2) := by decide +kernel
theorem dX10_hang_29 : decode cX10_hang 29 = .ok (.iload 4, 2) := by decide +kernel
theorem dX10_hang_31 : decode cX10_hang 31 = .ok (.aload_n 0, 1) := by decide +kernel
theorem dX10_hang_32 : decode cX10_hang 32 = .ok (.getfield 7, 3) := by decide +kernel
theorem dX10_hang_35 : decode cX10_hang 35 = .ok (.if_icmp .ge 112, 3) := by decide +kernel
theorem dX10_hang_38 : decode cX10_hang 38 = .ok (.iconst 0, 1) := by decide +kernel
theorem dX10_hang_39 : decode cX10_hang 39 = .ok (.istore 5, 2) := by decide +kernel
theorem dX10_hang_41 : decode cX10_hang 41 = .ok (.iconst 0, 1) := by decide +kernel
theorem dX10_hang_42 : decode cX10_hang 42 = .ok (.istore 6, 2) := by decide +kernel
theorem dX10_hang_44 : decode cX10_hang 44 = .ok (.iload 6, 2) := by decide +kernel
theorem dX10_hang_46 : decode cX10_hang 46 = .ok (.aload_n 0, 1) := by decide +kernel
theorem dX10_hang_47 : decode cX10_hang 47 = .ok (.getfield 73, 3) := by decide +kernel
theorem dX10_hang_50 : decode cX10_hang 50 = .ok (.if_icmp .ge 49, 3) := by decide +kernel
theorem dX10_hang_53 : decode cX10_hang 53 = .ok (.aload_n 0, 1) := by decide +kernel
theorem dX10_hang_54 : decode cX10_hang 54 = .ok (.aload_n 0, 1) := by decide +kernel
theorem dX10_hang_55 : decode cX10_hang 55 = .ok (.getfield 23, 3) := by decide +kernel
theorem dX10_hang_58 : decode cX10_hang 58 = .ok (.iconst 3, 1) := by decide +kernel
theorem dX10_hang_59 : decode cX10_hang 59 = .ok (.iload 6, 2) := by decide +kernel
theorem dX10_hang_61 : decode cX10_hang 61 = .ok (.imul, 1) := by decide +kernel
theorem dX10_hang_62 : decode cX10_hang 62 = .ok (.iaload, 1) := by decide +kernel
theorem dX10_hang_63 : decode cX10_hang 63 = .ok (.invokevirtual 199, 3) := by decide +kernel
theorem dX10_hang_66 : decode cX10_hang 66 = .ok (.aload_n 0, 1) := by decide +kernel
theorem dX10_hang_67 : decode cX10_hang 67 = .ok (.iload 4, 2) := by decide +kernel
theorem dX10_hang_69 : decode cX10_hang 69 = .ok (.invokevirtual 199, 3) := by decide +kernel
theorem dX10_hang_72 : decode cX10_hang 72 = .ok (.isub, 1) := by decide +kernel
theorem dX10_hang_73 : decode cX10_hang 73 = .ok (.istore 7, 2) := by decide +kernel
theorem dX10_hang_75 : decode cX10_hang 75 = .ok (.iload 5, 2) := by decide +kernel
theorem dX10_hang_77 : decode cX10_hang 77 = .ok (.iload 7, 2) := by decide +kernel
theorem dX10_hang_79 : decode cX10_hang 79 = .ok (.ifCond .ge 9, 3) := by decide +kernel
theorem dX10_hang_82 : decode cX10_hang 82 = .ok (.iload 7, 2) := by decide +kernel
theorem dX10_hang_84 : decode cX10_hang 84 = .ok (.ineg, 1) := by decide +kernel
theorem dX10_hang_85 : decode cX10_hang 85 = .ok (.goto 5, 3) := by decide +kernel
theorem dX10_hang_88 : decode cX10_hang 88 = .ok (.iload 7, 2) := by decide +kernel
theorem dX10_hang_90 : decode cX10_hang 90 = .ok (.iadd, 1) := by decide +kernel
theorem dX10_hang_91 : decode cX10_hang 91 = .ok (.istore 5, 2) := by decide +kernel
theorem dX10_hang_93 : decode cX10_hang 93 = .ok (.iinc 6 1, 3) := by decide +kernel
theorem dX10_hang_96 : decode cX10_hang 96 = .ok (.goto (-52), 3) := by decide +kernel
theorem dX10_hang_99 : decode cX10_hang 99 = .ok (.iload_n 2, 1) := by decide +kernel
theorem dX10_hang_100 : decode cX10_hang 100 = .ok (.iconst (-1), 1) := by decide +kernel
theorem dX10_hang_101 : decode cX10_hang 101 = .ok (.if_icmp .eq 9, 3) := by decide +kernel
theorem dX10_hang_104 : decode cX10_hang 104 = .ok (.iload 5, 2) := by decide +kernel
theorem dX10_hang_106 : decode cX10_hang 106 = .ok (.iload_n 3, 1) := by decide +kernel
theorem dX10_hang_107 : decode cX10_hang 107 = .ok (.if_icmp .ge 7, 3) := by decide +kernel
theorem dX10_hang_110 : decode cX10_hang 110 = .ok (.iconst 1, 1) := by decide +kernel
theorem dX10_hang_111 : decode cX10_hang 111 = .ok (.goto 4, 3) := by decide +kernel
theorem dX10_hang_114 : decode cX10_hang 114 = .ok (.iconst 0, 1) := by decide +kernel
theorem dX10_hang_115 : decode cX10_hang 115 = .ok (.istore 6, 2) := by decide +kernel
theorem dX10_hang_117 : decode cX10_hang 117 = .ok (.iload 6, 2) := by decide +kernel
theorem dX10_hang_119 : decode cX10_hang 119 = .ok (.ifCond .eq 8, 3) := by decide +kernel
theorem dX10_hang_122 : decode cX10_hang 122 = .ok (.iload 4, 2) := by decide +kernel
theorem dX10_hang_124 : decode cX10_hang 124 = .ok (.goto 4, 3) := by decide +kernel
theorem dX10_hang_127 : decode cX10_hang 127 = .ok (.iload_n 2, 1) := by decide +kernel
theorem dX10_hang_128 : decode cX10_hang 128 = .ok (.istore_n 2, 1) := by decide +kernel
theorem dX10_hang_129 : decode cX10_hang 129 = .ok (.iload 6, 2) := by decide +kernel
theorem dX10_hang_131 : decode cX10_hang 131 = .ok (.ifCond .eq 8, 3) := by decide +kernel
theorem dX10_hang_134 : decode cX10_hang 134 = .ok (.iload 5, 2) := by decide +kernel
theorem dX10_hang_136 : decode cX10_hang 136 = .ok (.goto 4, 3) := by decide +kernel
theorem dX10_hang_139 : decode cX10_hang 139 = .ok (.iload_n 3, 1) := by decide +kernel
theorem dX10_hang_140 : decode cX10_hang 140 = .ok (.istore_n 3, 1) := by decide +kernel
theorem dX10_hang_141 : decode cX10_hang 141 = .ok (.iinc 4 1, 3) := by decide +kernel
theorem dX10_hang_144 : decode cX10_hang 144 = .ok (.goto (-115), 3) := by decide +kernel
theorem dX10_hang_147 : decode cX10_hang 147 = .ok (.iload_n 1, 1) := by decide +kernel
theorem dX10_hang_148 : decode cX10_hang 148 = .ok (.ifCond .ne 7, 3) := by decide +kernel
theorem dX10_hang_151 : decode cX10_hang 151 = .ok (.iload_n 2, 1) := by decide +kernel
theorem dX10_hang_152 : decode cX10_hang 152 = .ok (.goto 4, 3) := by decide +kernel
theorem dX10_hang_155 : decode cX10_hang 155 = .ok (.iload_n 3, 1) := by decide +kernel
theorem dX10_hang_156 : decode cX10_hang 156 = .ok (.ireturn, 1) := by decide +kernel
theorem dX10_ring_0 : decode cX10_ring 0 = .ok (.iload_n 1, 1) := by decide +kernel
theorem dX10_ring_1 : decode cX10_ring 1 = .ok (.iconst 1, 1) := by decide +kernel
theorem dX10_ring_2 : decode cX10_ring 2 = .ok (.sipush 9999, 3) := by decide +kernel
theorem dX10_ring_5 : decode cX10_ring 5 = .ok (.invokestatic 69, 3) := by decide +kernel
theorem dX10_ring_8 : decode cX10_ring 8 = .ok (.ifCond .ne 6, 3) := by decide +kernel
theorem dX10_ring_11 : decode cX10_ring 11 = .ok (.bipush (-3), 2) := by decide +kernel
theorem dX10_ring_13 : decode cX10_ring 13 = .ok (.ireturn, 1) := by decide +kernel
theorem dX10_ring_14 : decode cX10_ring 14 = .ok (.iconst 1, 1) := by decide +kernel
theorem dX10_ring_15 : decode cX10_ring 15 = .ok (.istore_n 2, 1) := by decide +kernel
theorem dX10_ring_16 : decode cX10_ring 16 = .ok (.iload_n 1, 1) := by decide +kernel
theorem dX10_ring_17 : decode cX10_ring 17 = .ok (.iload_n 2, 1) := by decide +kernel
theorem dX10_ring_18 : decode cX10_ring 18 = .ok (.imul, 1) := by decide +kernel
theorem dX10_ring_19 : decode cX10_ring 19 = .ok (.sipush 1440, 3) := by decide +kernel
theorem dX10_ring_22 : decode cX10_ring 22 = .ok (.irem, 1) := by decide +kernel
theorem dX10_ring_23 : decode cX10_ring 23 = .ok (.ifCond .eq 9, 3) := by decide +kernel
theorem dX10_ring_26 : decode cX10_ring 26 = .ok (.iinc 2 1, 3) := by decide +kernel
theorem dX10_ring_29 : decode cX10_ring 29 = .ok (.goto (-13), 3) := by decide +kernel
theorem dX10_ring_32 : decode cX10_ring 32 = .ok (.iload_n 2, 1) := by decide +kernel
theorem dX10_ring_33 : decode cX10_ring 33 = .ok (.ireturn, 1) := by decide +kernel
theorem dX10_count_0 : decode cX10_count 0 = .ok (.iload_n 1, 1) := by decide +kernel
theorem dX10_count_1 : decode cX10_count 1 = .ok (.tableswitch 87 0 7 #[47, 52, 57, 62, 67, 72, 77, 82], 47) := by decide +kernel
theorem dX10_count_48 : decode cX10_count 48 = .ok (.aload_n 0, 1) := by decide +kernel
theorem dX10_count_49 : decode cX10_count 49 = .ok (.getfield 7, 3) := by decide +kernel
theorem dX10_count_52 : decode cX10_count 52 = .ok (.ireturn, 1) := by decide +kernel
theorem dX10_count_53 : decode cX10_count 53 = .ok (.aload_n 0, 1) := by decide +kernel
theorem dX10_count_54 : decode cX10_count 54 = .ok (.getfield 76, 3) := by decide +kernel
theorem dX10_count_57 : decode cX10_count 57 = .ok (.ireturn, 1) := by decide +kernel
theorem dX10_count_58 : decode cX10_count 58 = .ok (.aload_n 0, 1) := by decide +kernel
theorem dX10_count_59 : decode cX10_count 59 = .ok (.getfield 73, 3) := by decide +kernel
theorem dX10_count_62 : decode cX10_count 62 = .ok (.ireturn, 1) := by decide +kernel
theorem dX10_count_63 : decode cX10_count 63 = .ok (.aload_n 0, 1) := by decide +kernel
theorem dX10_count_64 : decode cX10_count 64 = .ok (.getfield 79, 3) := by decide +kernel
theorem dX10_count_67 : decode cX10_count 67 = .ok (.ireturn, 1) := by decide +kernel
theorem dX10_count_68 : decode cX10_count 68 = .ok (.aload_n 0, 1) := by decide +kernel
theorem dX10_count_69 : decode cX10_count 69 = .ok (.getfield 187, 3) := by decide +kernel
theorem dX10_count_72 : decode cX10_count 72 = .ok (.ireturn, 1) := by decide +kernel
theorem dX10_count_73 : decode cX10_count 73 = .ok (.aload_n 0, 1) := by decide +kernel
theorem dX10_count_74 : decode cX10_count 74 = .ok (.getfield 190, 3) := by decide +kernel
theorem dX10_count_77 : decode cX10_count 77 = .ok (.ireturn, 1) := by decide +kernel
theorem dX10_count_78 : decode cX10_count 78 = .ok (.aload_n 0, 1) := by decide +kernel
theorem dX10_count_79 : decode cX10_count 79 = .ok (.getfield 193, 3) := by decide +kernel
theorem dX10_count_82 : decode cX10_count 82 = .ok (.ireturn, 1) := by decide +kernel
theorem dX10_count_83 : decode cX10_count 83 = .ok (.aload_n 0, 1) := by decide +kernel
theorem dX10_count_84 : decode cX10_count 84 = .ok (.getfield 83, 3) := by decide +kernel
theorem dX10_count_87 : decode cX10_count 87 = .ok (.ireturn, 1) := by decide +kernel
theorem dX10_count_88 : decode cX10_count 88 = .ok (.bipush (-3), 2) := by decide +kernel
theorem dX10_count_90 : decode cX10_count 90 = .ok (.ireturn, 1) := by decide +kernel
theorem dJ6_bitCount_0f7a4_0 : decode cJ6_bitCount_0f7a4 0 = .ok (.iload_n 0, 1) := by decide +kernel
theorem dJ6_bitCount_0f7a4_1 : decode cJ6_bitCount_0f7a4 1 = .ok (.iload_n 0, 1) := by decide +kernel
theorem dJ6_bitCount_0f7a4_2 : decode cJ6_bitCount_0f7a4 2 = .ok (.iconst 1, 1) := by decide +kernel
theorem dJ6_bitCount_0f7a4_3 : decode cJ6_bitCount_0f7a4 3 = .ok (.iushr, 1) := by decide +kernel
theorem dJ6_bitCount_0f7a4_4 : decode cJ6_bitCount_0f7a4 4 = .ok (.ldc_w 265, 3) := by decide +kernel
theorem dJ6_bitCount_0f7a4_7 : decode cJ6_bitCount_0f7a4 7 = .ok (.iand, 1) := by decide +kernel
theorem dJ6_bitCount_0f7a4_8 : decode cJ6_bitCount_0f7a4 8 = .ok (.isub, 1) := by decide +kernel
theorem dJ6_bitCount_0f7a4_9 : decode cJ6_bitCount_0f7a4 9 = .ok (.istore_n 0, 1) := by decide +kernel
theorem dJ6_bitCount_0f7a4_10 : decode cJ6_bitCount_0f7a4 10 = .ok (.iload_n 0, 1) := by decide +kernel
theorem dJ6_bitCount_0f7a4_11 : decode cJ6_bitCount_0f7a4 11 = .ok (.ldc_w 266, 3) := by decide +kernel
theorem dJ6_bitCount_0f7a4_14 : decode cJ6_bitCount_0f7a4 14 = .ok (.iand, 1) := by decide +kernel
theorem dJ6_bitCount_0f7a4_15 : decode cJ6_bitCount_0f7a4 15 = .ok (.iload_n 0, 1) := by decide +kernel
theorem dJ6_bitCount_0f7a4_16 : decode cJ6_bitCount_0f7a4 16 = .ok (.iconst 2, 1) := by decide +kernel
theorem dJ6_bitCount_0f7a4_17 : decode cJ6_bitCount_0f7a4 17 = .ok (.iushr, 1) := by decide +kernel
theorem dJ6_bitCount_0f7a4_18 : decode cJ6_bitCount_0f7a4 18 = .ok (.ldc_w 266, 3) := by decide +kernel
theorem dJ6_bitCount_0f7a4_21 : decode cJ6_bitCount_0f7a4 21 = .ok (.iand, 1) := by decide +kernel
theorem dJ6_bitCount_0f7a4_22 : decode cJ6_bitCount_0f7a4 22 = .ok (.iadd, 1) := by decide +kernel
theorem dJ6_bitCount_0f7a4_23 : decode cJ6_bitCount_0f7a4 23 = .ok (.istore_n 0, 1) := by decide +kernel
theorem dJ6_bitCount_0f7a4_24 : decode cJ6_bitCount_0f7a4 24 = .ok (.iload_n 0, 1) := by decide +kernel
theorem dJ6_bitCount_0f7a4_25 : decode cJ6_bitCount_0f7a4 25 = .ok (.iload_n 0, 1) := by decide +kernel
theorem dJ6_bitCount_0f7a4_26 : decode cJ6_bitCount_0f7a4 26 = .ok (.iconst 4, 1) := by decide +kernel
theorem dJ6_bitCount_0f7a4_27 : decode cJ6_bitCount_0f7a4 27 = .ok (.iushr, 1) := by decide +kernel
theorem dJ6_bitCount_0f7a4_28 : decode cJ6_bitCount_0f7a4 28 = .ok (.iadd, 1) := by decide +kernel
theorem dJ6_bitCount_0f7a4_29 : decode cJ6_bitCount_0f7a4 29 = .ok (.ldc_w 267, 3) := by decide +kernel
theorem dJ6_bitCount_0f7a4_32 : decode cJ6_bitCount_0f7a4 32 = .ok (.iand, 1) := by decide +kernel
theorem dJ6_bitCount_0f7a4_33 : decode cJ6_bitCount_0f7a4 33 = .ok (.istore_n 0, 1) := by decide +kernel
theorem dJ6_bitCount_0f7a4_34 : decode cJ6_bitCount_0f7a4 34 = .ok (.iload_n 0, 1) := by decide +kernel
theorem dJ6_bitCount_0f7a4_35 : decode cJ6_bitCount_0f7a4 35 = .ok (.iload_n 0, 1) := by decide +kernel
theorem dJ6_bitCount_0f7a4_36 : decode cJ6_bitCount_0f7a4 36 = .ok (.bipush 8, 2) := by decide +kernel
theorem dJ6_bitCount_0f7a4_38 : decode cJ6_bitCount_0f7a4 38 = .ok (.iushr, 1) := by decide +kernel
theorem dJ6_bitCount_0f7a4_39 : decode cJ6_bitCount_0f7a4 39 = .ok (.iadd, 1) := by decide +kernel
theorem dJ6_bitCount_0f7a4_40 : decode cJ6_bitCount_0f7a4 40 = .ok (.istore_n 0, 1) := by decide +kernel
theorem dJ6_bitCount_0f7a4_41 : decode cJ6_bitCount_0f7a4 41 = .ok (.iload_n 0, 1) := by decide +kernel
theorem dJ6_bitCount_0f7a4_42 : decode cJ6_bitCount_0f7a4 42 = .ok (.iload_n 0, 1) := by decide +kernel
theorem dJ6_bitCount_0f7a4_43 : decode cJ6_bitCount_0f7a4 43 = .ok (.bipush 16, 2) := by decide +kernel
theorem dJ6_bitCount_0f7a4_45 : decode cJ6_bitCount_0f7a4 45 = .ok (.iushr, 1) := by decide +kernel
theorem dJ6_bitCount_0f7a4_46 : decode cJ6_bitCount_0f7a4 46 = .ok (.iadd, 1) := by decide +kernel
theorem dJ6_bitCount_0f7a4_47 : decode cJ6_bitCount_0f7a4 47 = .ok (.istore_n 0, 1) := by decide +kernel
theorem dJ6_bitCount_0f7a4_48 : decode cJ6_bitCount_0f7a4 48 = .ok (.iload_n 0, 1) := by decide +kernel
theorem dJ6_bitCount_0f7a4_49 : decode cJ6_bitCount_0f7a4 49 = .ok (.bipush 63, 2) := by decide +kernel
theorem dJ6_bitCount_0f7a4_51 : decode cJ6_bitCount_0f7a4 51 = .ok (.iand, 1) := by decide +kernel
theorem dJ6_bitCount_0f7a4_52 : decode cJ6_bitCount_0f7a4 52 = .ok (.ireturn, 1) := by decide +kernel
theorem dJ9_floorDiv_7cf53_0 : decode cJ9_floorDiv_7cf53 0 = .ok (.iload_n 0, 1) := by decide +kernel
theorem dJ9_floorDiv_7cf53_1 : decode cJ9_floorDiv_7cf53 1 = .ok (.iload_n 1, 1) := by decide +kernel
theorem dJ9_floorDiv_7cf53_2 : decode cJ9_floorDiv_7cf53 2 = .ok (.idiv, 1) := by decide +kernel
theorem dJ9_floorDiv_7cf53_3 : decode cJ9_floorDiv_7cf53 3 = .ok (.istore_n 2, 1) := by decide +kernel
theorem dJ9_floorDiv_7cf53_4 : decode cJ9_floorDiv_7cf53 4 = .ok (.iload_n 0, 1) := by decide +kernel
theorem dJ9_floorDiv_7cf53_5 : decode cJ9_floorDiv_7cf53 5 = .ok (.iload_n 1, 1) := by decide +kernel
theorem dJ9_floorDiv_7cf53_6 : decode cJ9_floorDiv_7cf53 6 = .ok (.ixor, 1) := by decide +kernel
theorem dJ9_floorDiv_7cf53_7 : decode cJ9_floorDiv_7cf53 7 = .ok (.ifCond .ge 14, 3) := by decide +kernel
theorem dJ9_floorDiv_7cf53_10 : decode cJ9_floorDiv_7cf53 10 = .ok (.iload_n 2, 1) := by decide +kernel
theorem dJ9_floorDiv_7cf53_11 : decode cJ9_floorDiv_7cf53 11 = .ok (.iload_n 1, 1) := by decide +kernel
theorem dJ9_floorDiv_7cf53_12 : decode cJ9_floorDiv_7cf53 12 = .ok (.imul, 1) := by decide +kernel
theorem dJ9_floorDiv_7cf53_13 : decode cJ9_floorDiv_7cf53 13 = .ok (.iload_n 0, 1) := by decide +kernel
theorem dJ9_floorDiv_7cf53_14 : decode cJ9_floorDiv_7cf53 14 = .ok (.if_icmp .eq 7, 3) := by decide +kernel
theorem dJ9_floorDiv_7cf53_17 : decode cJ9_floorDiv_7cf53 17 = .ok (.iload_n 2, 1) := by decide +kernel
theorem dJ9_floorDiv_7cf53_18 : decode cJ9_floorDiv_7cf53 18 = .ok (.iconst 1, 1) := by decide +kernel
theorem dJ9_floorDiv_7cf53_19 : decode cJ9_floorDiv_7cf53 19 = .ok (.isub, 1) := by decide +kernel
theorem dJ9_floorDiv_7cf53_20 : decode cJ9_floorDiv_7cf53 20 = .ok (.ireturn, 1) := by decide +kernel
theorem dJ9_floorDiv_7cf53_21 : decode cJ9_floorDiv_7cf53 21 = .ok (.iload_n 2, 1) := by decide +kernel
theorem dJ9_floorDiv_7cf53_22 : decode cJ9_floorDiv_7cf53 22 = .ok (.ireturn, 1) := by decide +kernel
theorem dJ9_floorMod_7cf53_0 : decode cJ9_floorMod_7cf53 0 = .ok (.iload_n 0, 1) := by decide +kernel
theorem dJ9_floorMod_7cf53_1 : decode cJ9_floorMod_7cf53 1 = .ok (.iload_n 1, 1) := by decide +kernel
theorem dJ9_floorMod_7cf53_2 : decode cJ9_floorMod_7cf53 2 = .ok (.irem, 1) := by decide +kernel
theorem dJ9_floorMod_7cf53_3 : decode cJ9_floorMod_7cf53 3 = .ok (.istore_n 2, 1) := by decide +kernel
theorem dJ9_floorMod_7cf53_4 : decode cJ9_floorMod_7cf53 4 = .ok (.iload_n 0, 1) := by decide +kernel
theorem dJ9_floorMod_7cf53_5 : decode cJ9_floorMod_7cf53 5 = .ok (.iload_n 1, 1) := by decide +kernel
theorem dJ9_floorMod_7cf53_6 : decode cJ9_floorMod_7cf53 6 = .ok (.ixor, 1) := by decide +kernel
theorem dJ9_floorMod_7cf53_7 : decode cJ9_floorMod_7cf53 7 = .ok (.ifCond .ge 11, 3) := by decide +kernel
theorem dJ9_floorMod_7cf53_10 : decode cJ9_floorMod_7cf53 10 = .ok (.iload_n 2, 1) := by decide +kernel
theorem dJ9_floorMod_7cf53_11 : decode cJ9_floorMod_7cf53 11 = .ok (.ifCond .eq 7, 3) := by decide +kernel
theorem dJ9_floorMod_7cf53_14 : decode cJ9_floorMod_7cf53 14 = .ok (.iload_n 2, 1) := by decide +kernel
theorem dJ9_floorMod_7cf53_15 : decode cJ9_floorMod_7cf53 15 = .ok (.iload_n 1, 1) := by decide +kernel
theorem dJ9_floorMod_7cf53_16 : decode cJ9_floorMod_7cf53 16 = .ok (.iadd, 1) := by decide +kernel
theorem dJ9_floorMod_7cf53_17 : decode cJ9_floorMod_7cf53 17 = .ok (.ireturn, 1) := by decide +kernel
theorem dJ9_floorMod_7cf53_18 : decode cJ9_floorMod_7cf53 18 = .ok (.iload_n 2, 1) := by decide +kernel
theorem dJ9_floorMod_7cf53_19 : decode cJ9_floorMod_7cf53 19 = .ok (.ireturn, 1) := by decide +kernel
theorem dJ9_abs_0f7a4_0 : decode cJ9_abs_0f7a4 0 = .ok (.iload_n 0, 1) := by decide +kernel
theorem dJ9_abs_0f7a4_1 : decode cJ9_abs_0f7a4 1 = .ok (.ifCond .ge 8, 3) := by decide +kernel
theorem dJ9_abs_0f7a4_4 : decode cJ9_abs_0f7a4 4 = .ok (.iload_n 0, 1) := by decide +kernel
theorem dJ9_abs_0f7a4_5 : decode cJ9_abs_0f7a4 5 = .ok (.ineg, 1) := by decide +kernel
theorem dJ9_abs_0f7a4_6 : decode cJ9_abs_0f7a4 6 = .ok (.goto 4, 3) := by decide +kernel
theorem dJ9_abs_0f7a4_9 : decode cJ9_abs_0f7a4 9 = .ok (.iload_n 0, 1) := by decide +kernel
theorem dJ9_abs_0f7a4_10 : decode cJ9_abs_0f7a4 10 = .ok (.ireturn, 1) := by decide +kernel
theorem dJ9_max_7cf53_0 : decode cJ9_max_7cf53 0 = .ok (.iload_n 0, 1) := by decide +kernel
theorem dJ9_max_7cf53_1 : decode cJ9_max_7cf53 1 = .ok (.iload_n 1, 1) := by decide +kernel
theorem dJ9_max_7cf53_2 : decode cJ9_max_7cf53 2 = .ok (.if_icmp .lt 7, 3) := by decide +kernel
theorem dJ9_max_7cf53_5 : decode cJ9_max_7cf53 5 = .ok (.iload_n 0, 1) := by decide +kernel
theorem dJ9_max_7cf53_6 : decode cJ9_max_7cf53 6 = .ok (.goto 4, 3) := by decide +kernel
theorem dJ9_max_7cf53_9 : decode cJ9_max_7cf53 9 = .ok (.iload_n 1, 1) := by decide +kernel
theorem dJ9_max_7cf53_10 : decode cJ9_max_7cf53 10 = .ok (.ireturn, 1) := by decide +kernel
theorem dJ9_min_7cf53_0 : decode cJ9_min_7cf53 0 = .ok (.iload_n 0, 1) := by decide +kernel
theorem dJ9_min_7cf53_1 : decode cJ9_min_7cf53 1 = .ok (.iload_n 1, 1) := by decide +kernel
theorem dJ9_min_7cf53_2 : decode cJ9_min_7cf53 2 = .ok (.if_icmp .gt 7, 3) := by decide +kernel
theorem dJ9_min_7cf53_5 : decode cJ9_min_7cf53 5 = .ok (.iload_n 0, 1) := by decide +kernel
theorem dJ9_min_7cf53_6 : decode cJ9_min_7cf53 6 = .ok (.goto 4, 3) := by decide +kernel
theorem dJ9_min_7cf53_9 : decode cJ9_min_7cf53 9 = .ok (.iload_n 1, 1) := by decide +kernel
theorem dJ9_min_7cf53_10 : decode cJ9_min_7cf53 10 = .ok (.ireturn, 1) := by decide +kernel
theorem dJ0_length_8abf5_0 : decode cJ0_length_8abf5 0 = .ok (.aload_n 0, 1) := by decide +kernel
theorem dJ0_length_8abf5_1 : decode cJ0_length_8abf5 1 = .ok (.getfield 9, 3) := by decide +kernel
theorem dJ0_length_8abf5_4 : decode cJ0_length_8abf5 4 = .ok (.arraylength, 1) := by decide +kernel
theorem dJ0_length_8abf5_5 : decode cJ0_length_8abf5 5 = .ok (.aload_n 0, 1) := by decide +kernel
theorem dJ0_length_8abf5_6 : decode cJ0_length_8abf5 6 = .ok (.invokevirtual 335, 3) := by decide +kernel
theorem dJ0_length_8abf5_9 : decode cJ0_length_8abf5 9 = .ok (.ishr, 1) := by decide +kernel
theorem dJ0_length_8abf5_10 : decode cJ0_length_8abf5 10 = .ok (.ireturn, 1) := by decide +kernel
theorem dJ0_charAt_5068e_0 : decode cJ0_charAt_5068e 0 = .ok (.aload_n 0, 1) := by decide +kernel
theorem dJ0_charAt_5068e_1 : decode cJ0_charAt_5068e 1 = .ok (.invokevirtual 492, 3) := by decide +kernel
theorem dJ0_charAt_5068e_4 : decode cJ0_charAt_5068e 4 = .ok (.ifCond .eq 12, 3) := by decide +kernel
theorem dJ0_charAt_5068e_7 : decode cJ0_charAt_5068e 7 = .ok (.aload_n 0, 1) := by decide +kernel
theorem dJ0_charAt_5068e_8 : decode cJ0_charAt_5068e 8 = .ok (.getfield 9, 3) := by decide +kernel
theorem dJ0_charAt_5068e_11 : decode cJ0_charAt_5068e 11 = .ok (.iload_n 1, 1) := by decide +kernel
theorem dJ0_charAt_5068e_12 : decode cJ0_charAt_5068e 12 = .ok (.invokestatic 495, 3) := by decide +kernel
theorem dJ0_charAt_5068e_15 : decode cJ0_charAt_5068e 15 = .ok (.ireturn, 1) := by decide +kernel
theorem dJ0_charAt_5068e_16 : decode cJ0_charAt_5068e 16 = .ok (.aload_n 0, 1) := by decide +kernel
theorem dJ0_charAt_5068e_17 : decode cJ0_charAt_5068e 17 = .ok (.getfield 9, 3) := by decide +kernel
theorem dJ0_charAt_5068e_20 : decode cJ0_charAt_5068e 20 = .ok (.iload_n 1, 1) := by decide +kernel
theorem dJ0_charAt_5068e_21 : decode cJ0_charAt_5068e 21 = .ok (.invokestatic 498, 3) := by decide +kernel
theorem dJ0_charAt_5068e_24 : decode cJ0_charAt_5068e 24 = .ok (.ireturn, 1) := by decide +kernel
theorem dJ0_coder_7d493_0 : decode cJ0_coder_7d493 0 = .ok (.getstatic 38, 3) := by decide +kernel
theorem dJ0_coder_7d493_3 : decode cJ0_coder_7d493 3 = .ok (.ifCond .eq 10, 3) := by decide +kernel
theorem dJ0_coder_7d493_6 : decode cJ0_coder_7d493 6 = .ok (.aload_n 0, 1) := by decide +kernel
theorem dJ0_coder_7d493_7 : decode cJ0_coder_7d493 7 = .ok (.getfield 15, 3) := by decide +kernel
theorem dJ0_coder_7d493_10 : decode cJ0_coder_7d493 10 = .ok (.goto 4, 3) := by decide +kernel
theorem dJ0_coder_7d493_13 : decode cJ0_coder_7d493 13 = .ok (.iconst 1, 1) := by decide +kernel
theorem dJ0_coder_7d493_14 : decode cJ0_coder_7d493 14 = .ok (.ireturn, 1) := by decide +kernel
theorem dJ0_isLatin1_aae02_0 : decode cJ0_isLatin1_aae02 0 = .ok (.getstatic 38, 3) := by decide +kernel
theorem dJ0_isLatin1_aae02_3 : decode cJ0_isLatin1_aae02 3 = .ok (.ifCond .eq 14, 3) := by decide +kernel
theorem dJ0_isLatin1_aae02_6 : decode cJ0_isLatin1_aae02 6 = .ok (.aload_n 0, 1) := by decide +kernel
theorem dJ0_isLatin1_aae02_7 : decode cJ0_isLatin1_aae02 7 = .ok (.getfield 15, 3) := by decide +kernel
theorem dJ0_isLatin1_aae02_10 : decode cJ0_isLatin1_aae02 10 = .ok (.ifCond .ne 7, 3) := by decide +kernel
theorem dJ0_isLatin1_aae02_13 : decode cJ0_isLatin1_aae02 13 = .ok (.iconst 1, 1) := by decide +kernel
theorem dJ0_isLatin1_aae02_14 : decode cJ0_isLatin1_aae02 14 = .ok (.goto 4, 3) := by decide +kernel
theorem dJ0_isLatin1_aae02_17 : decode cJ0_isLatin1_aae02 17 = .ok (.iconst 0, 1) := by decide +kernel
theorem dJ0_isLatin1_aae02_18 : decode cJ0_isLatin1_aae02 18 = .ok (.ireturn, 1) := by decide +kernel
theorem dJ0_checkIndex_df160_0 : decode cJ0_checkIndex_df160 0 = .ok (.iload_n 0, 1) := by decide +kernel
theorem dJ0_checkIndex_df160_1 : decode cJ0_checkIndex_df160 1 = .ok (.iload_n 1, 1) := by decide +kernel
theorem dJ0_checkIndex_df160_2 : decode cJ0_checkIndex_df160 2 = .ok (.getstatic 1053, 3) := by decide +kernel
theorem dJ0_checkIndex_df160_5 : decode cJ0_checkIndex_df160 5 = .ok (.invokestatic 1059, 3) := by decide +kernel
theorem dJ0_checkIndex_df160_8 : decode cJ0_checkIndex_df160 8 = .ok (.pop, 1) := by decide +kernel
theorem dJ0_checkIndex_df160_9 : decode cJ0_checkIndex_df160 9 = .ok (.return_, 1) := by decide +kernel
theorem dJ1_charAt_3b067_0 : decode cJ1_charAt_3b067 0 = .ok (.iload_n 1, 1) := by decide +kernel
theorem dJ1_charAt_3b067_1 : decode cJ1_charAt_3b067 1 = .ok (.aload_n 0, 1) := by decide +kernel
theorem dJ1_charAt_3b067_2 : decode cJ1_charAt_3b067 2 = .ok (.arraylength, 1) := by decide +kernel
theorem dJ1_charAt_3b067_3 : decode cJ1_charAt_3b067 3 = .ok (.invokestatic 9, 3) := by decide +kernel
theorem dJ1_charAt_3b067_6 : decode cJ1_charAt_3b067 6 = .ok (.aload_n 0, 1) := by decide +kernel
theorem dJ1_charAt_3b067_7 : decode cJ1_charAt_3b067 7 = .ok (.iload_n 1, 1) := by decide +kernel
theorem dJ1_charAt_3b067_8 : decode cJ1_charAt_3b067 8 = .ok (.baload, 1) := by decide +kernel
theorem dJ1_charAt_3b067_9 : decode cJ1_charAt_3b067 9 = .ok (.sipush 255, 3) := by decide +kernel
theorem dJ1_charAt_3b067_12 : decode cJ1_charAt_3b067 12 = .ok (.iand, 1) := by decide +kernel
theorem dJ1_charAt_3b067_13 : decode cJ1_charAt_3b067 13 = .ok (.i2c, 1) := by decide +kernel
theorem dJ1_charAt_3b067_14 : decode cJ1_charAt_3b067 14 = .ok (.ireturn, 1) := by decide +kernel
theorem dJ2_getChar_3b067_0 : decode cJ2_getChar_3b067 0 = .ok (.getstatic 44, 3) := by decide +kernel
theorem dJ2_getChar_3b067_3 : decode cJ2_getChar_3b067 3 = .ok (.ifCond .ne 25, 3) := by decide +kernel
theorem dJ2_getChar_3b067_6 : decode cJ2_getChar_3b067 6 = .ok (.iload_n 1, 1) := by decide +kernel
theorem dJ2_getChar_3b067_7 : decode cJ2_getChar_3b067 7 = .ok (.ifCond .lt 11, 3) := by decide +kernel
theorem dJ2_getChar_3b067_10 : decode cJ2_getChar_3b067 10 = .ok (.iload_n 1, 1) := by decide +kernel
theorem dJ2_getChar_3b067_11 : decode cJ2_getChar_3b067 11 = .ok (.aload_n 0, 1) := by decide +kernel
theorem dJ2_getChar_3b067_12 : decode cJ2_getChar_3b067 12 = .ok (.invokestatic 48, 3) := by decide +kernel
theorem dJ2_getChar_3b067_15 : decode cJ2_getChar_3b067 15 = .ok (.if_icmp .lt 13, 3) := by decide +kernel
theorem dJ2_getChar_3b067_18 : decode cJ2_getChar_3b067 18 = .ok (.new 52, 3) := by decide +kernel
theorem dJ2_getChar_3b067_21 : decode cJ2_getChar_3b067 21 = .ok (.dup, 1) := by decide +kernel
theorem dJ2_getChar_3b067_22 : decode cJ2_getChar_3b067 22 = .ok (.ldc 54, 2) := by decide +kernel
theorem dJ2_getChar_3b067_24 : decode cJ2_getChar_3b067 24 = .ok (.invokespecial 56, 3) := by decide +kernel
theorem dJ2_getChar_3b067_27 : decode cJ2_getChar_3b067 27 = .ok (.athrow, 1) := by decide +kernel
theorem dJ2_getChar_3b067_28 : decode cJ2_getChar_3b067 28 = .ok (.iload_n 1, 1) := by decide +kernel
theorem dJ2_getChar_3b067_29 : decode cJ2_getChar_3b067 29 = .ok (.iconst 1, 1) := by decide +kernel
theorem dJ2_getChar_3b067_30 : decode cJ2_getChar_3b067 30 = .ok (.ishl, 1) := by decide +kernel
theorem dJ2_getChar_3b067_31 : decode cJ2_getChar_3b067 31 = .ok (.istore_n 1, 1) := by decide +kernel
theorem dJ2_getChar_3b067_32 : decode cJ2_getChar_3b067 32 = .ok (.aload_n 0, 1) := by decide +kernel
theorem dJ2_getChar_3b067_33 : decode cJ2_getChar_3b067 33 = .ok (.iload_n 1, 1) := by decide +kernel
theorem dJ2_getChar_3b067_34 : decode cJ2_getChar_3b067 34 = .ok (.iinc 1 1, 3) := by decide +kernel
theorem dJ2_getChar_3b067_37 : decode cJ2_getChar_3b067 37 = .ok (.baload, 1) := by decide +kernel
theorem dJ2_getChar_3b067_38 : decode cJ2_getChar_3b067 38 = .ok (.sipush 255, 3) := by decide +kernel
theorem dJ2_getChar_3b067_41 : decode cJ2_getChar_3b067 41 = .ok (.iand, 1) := by decide +kernel
theorem dJ2_getChar_3b067_42 : decode cJ2_getChar_3b067 42 = .ok (.getstatic 59, 3) := by decide +kernel
theorem dJ2_getChar_3b067_45 : decode cJ2_getChar_3b067 45 = .ok (.ishl, 1) := by decide +kernel
theorem dJ2_getChar_3b067_46 : decode cJ2_getChar_3b067 46 = .ok (.aload_n 0, 1) := by decide +kernel
theorem dJ2_getChar_3b067_47 : decode cJ2_getChar_3b067 47 = .ok (.iload_n 1, 1) := by decide +kernel
theorem dJ2_getChar_3b067_48 : decode cJ2_getChar_3b067 48 = .ok (.baload, 1) := by decide +kernel
theorem dJ2_getChar_3b067_49 : decode cJ2_getChar_3b067 49 = .ok (.sipush 255, 3) := by decide +kernel
theorem dJ2_getChar_3b067_52 : decode cJ2_getChar_3b067 52 = .ok (.iand, 1) := by decide +kernel
theorem dJ2_getChar_3b067_53 : decode cJ2_getChar_3b067 53 = .ok (.getstatic 63, 3) := by decide +kernel
theorem dJ2_getChar_3b067_56 : decode cJ2_getChar_3b067 56 = .ok (.ishl, 1) := by decide +kernel
theorem dJ2_getChar_3b067_57 : decode cJ2_getChar_3b067 57 = .ok (.ior, 1) := by decide +kernel
theorem dJ2_getChar_3b067_58 : decode cJ2_getChar_3b067 58 = .ok (.i2c, 1) := by decide +kernel
theorem dJ2_getChar_3b067_59 : decode cJ2_getChar_3b067 59 = .ok (.ireturn, 1) := by decide +kernel
theorem dJ2_length_9d52b_0 : decode cJ2_length_9d52b 0 = .ok (.aload_n 0, 1) := by decide +kernel
theorem dJ2_length_9d52b_1 : decode cJ2_length_9d52b 1 = .ok (.arraylength, 1) := by decide +kernel
theorem dJ2_length_9d52b_2 : decode cJ2_length_9d52b 2 = .ok (.iconst 1, 1) := by decide +kernel
theorem dJ2_length_9d52b_3 : decode cJ2_length_9d52b 3 = .ok (.ishr, 1) := by decide +kernel
theorem dJ2_length_9d52b_4 : decode cJ2_length_9d52b 4 = .ok (.ireturn, 1) := by decide +kernel
theorem dJ2_charAt_3b067_0 : decode cJ2_charAt_3b067 0 = .ok (.iload_n 1, 1) := by decide +kernel
theorem dJ2_charAt_3b067_1 : decode cJ2_charAt_3b067 1 = .ok (.aload_n 0, 1) := by decide +kernel
theorem dJ2_charAt_3b067_2 : decode cJ2_charAt_3b067 2 = .ok (.invokestatic 67, 3) := by decide +kernel
theorem dJ2_charAt_3b067_5 : decode cJ2_charAt_3b067 5 = .ok (.aload_n 0, 1) := by decide +kernel
theorem dJ2_charAt_3b067_6 : decode cJ2_charAt_3b067 6 = .ok (.iload_n 1, 1) := by decide +kernel
theorem dJ2_charAt_3b067_7 : decode cJ2_charAt_3b067 7 = .ok (.invokestatic 71, 3) := by decide +kernel
theorem dJ2_charAt_3b067_10 : decode cJ2_charAt_3b067 10 = .ok (.ireturn, 1) := by decide +kernel
theorem dJ2_checkIndex_2214a_0 : decode cJ2_checkIndex_2214a 0 = .ok (.iload_n 0, 1) := by decide +kernel
theorem dJ2_checkIndex_2214a_1 : decode cJ2_checkIndex_2214a 1 = .ok (.aload_n 1, 1) := by decide +kernel
theorem dJ2_checkIndex_2214a_2 : decode cJ2_checkIndex_2214a 2 = .ok (.invokestatic 48, 3) := by decide +kernel
theorem dJ2_checkIndex_2214a_5 : decode cJ2_checkIndex_2214a 5 = .ok (.invokestatic 414, 3) := by decide +kernel
theorem dJ2_checkIndex_2214a_8 : decode cJ2_checkIndex_2214a 8 = .ok (.return_, 1) := by decide +kernel
theorem dJ3_checkIndex_8e157_0 : decode cJ3_checkIndex_8e157 0 = .ok (.iload_n 0, 1) := by decide +kernel
theorem dJ3_checkIndex_8e157_1 : decode cJ3_checkIndex_8e157 1 = .ok (.ifCond .lt 8, 3) := by decide +kernel
theorem dJ3_checkIndex_8e157_4 : decode cJ3_checkIndex_8e157 4 = .ok (.iload_n 0, 1) := by decide +kernel
theorem dJ3_checkIndex_8e157_5 : decode cJ3_checkIndex_8e157 5 = .ok (.iload_n 1, 1) := by decide +kernel
theorem dJ3_checkIndex_8e157_6 : decode cJ3_checkIndex_8e157 6 = .ok (.if_icmp .lt 10, 3) := by decide +kernel
theorem dJ3_checkIndex_8e157_9 : decode cJ3_checkIndex_8e157 9 = .ok (.aload_n 2, 1) := by decide +kernel
theorem dJ3_checkIndex_8e157_10 : decode cJ3_checkIndex_8e157 10 = .ok (.iload_n 0, 1) := by decide +kernel
theorem dJ3_checkIndex_8e157_11 : decode cJ3_checkIndex_8e157 11 = .ok (.iload_n 1, 1) := by decide +kernel
theorem dJ3_checkIndex_8e157_12 : decode cJ3_checkIndex_8e157 12 = .ok (.invokestatic 95, 3) := by decide +kernel
theorem dJ3_checkIndex_8e157_15 : decode cJ3_checkIndex_8e157 15 = .ok (.athrow, 1) := by decide +kernel
theorem dJ3_checkIndex_8e157_16 : decode cJ3_checkIndex_8e157 16 = .ok (.iload_n 0, 1) := by decide +kernel
theorem dJ3_checkIndex_8e157_17 : decode cJ3_checkIndex_8e157 17 = .ok (.ireturn, 1) := by decide +kernel
theorem dL_law_0 : decode cL_law 0 = .ok (.new 7, 3) := by decide +kernel
theorem dL_law_3 : decode cL_law 3 = .ok (.dup, 1) := by decide +kernel
theorem dL_law_4 : decode cL_law 4 = .ok (.invokespecial 9, 3) := by decide +kernel
theorem dL_law_7 : decode cL_law 7 = .ok (.astore_n 1, 1) := by decide +kernel
theorem dL_law_8 : decode cL_law 8 = .ok (.new 10, 3) := by decide +kernel
theorem dL_law_11 : decode cL_law 11 = .ok (.dup, 1) := by decide +kernel
theorem dL_law_12 : decode cL_law 12 = .ok (.invokespecial 12, 3) := by decide +kernel
theorem dL_law_15 : decode cL_law 15 = .ok (.astore_n 2, 1) := by decide +kernel
theorem dL_law_16 : decode cL_law 16 = .ok (.iconst 0, 1) := by decide +kernel
theorem dL_law_17 : decode cL_law 17 = .ok (.istore_n 3, 1) := by decide +kernel
theorem dL_law_18 : decode cL_law 18 = .ok (.iload_n 3, 1) := by decide +kernel
theorem dL_law_19 : decode cL_law 19 = .ok (.aload_n 0, 1) := by decide +kernel
theorem dL_law_20 : decode cL_law 20 = .ok (.arraylength, 1) := by decide +kernel
theorem dL_law_21 : decode cL_law 21 = .ok (.iconst 5, 1) := by decide +kernel
theorem dL_law_22 : decode cL_law 22 = .ok (.isub, 1) := by decide +kernel
theorem dL_law_23 : decode cL_law 23 = .ok (.if_icmp .gt 1025, 3) := by decide +kernel
theorem dL_law_26 : decode cL_law 26 = .ok (.aload_n 0, 1) := by decide +kernel
theorem dL_law_27 : decode cL_law 27 = .ok (.iload_n 3, 1) := by decide +kernel
theorem dL_law_28 : decode cL_law 28 = .ok (.iaload, 1) := by decide +kernel
theorem dL_law_29 : decode cL_law 29 = .ok (.bipush 31, 2) := by decide +kernel
theorem dL_law_31 : decode cL_law 31 = .ok (.iand, 1) := by decide +kernel
theorem dL_law_32 : decode cL_law 32 = .ok (.tableswitch 1010 0 31 #[144, 207, 220, 233, 246, 269, 302, 345, 378, 401, 434, 457, 480, 503, 526, 549, 572, 605, 638, 661, 674, 707, 750, 803, 816, 839, 882, 895, 908, 941, 964, 987], 144) := by decide +kernel
theorem dL_law_176 : decode cL_law 176 = .ok (.aload_n 1, 1) := by decide +kernel
theorem dL_law_177 : decode cL_law 177 = .ok (.aload_n 0, 1) := by decide +kernel
theorem dL_law_178 : decode cL_law 178 = .ok (.iload_n 3, 1) := by decide +kernel
theorem dL_law_179 : decode cL_law 179 = .ok (.iconst 1, 1) := by decide +kernel
theorem dL_law_180 : decode cL_law 180 = .ok (.iadd, 1) := by decide +kernel
theorem dL_law_181 : decode cL_law 181 = .ok (.iaload, 1) := by decide +kernel
theorem dL_law_182 : decode cL_law 182 = .ok (.i2l, 1) := by decide +kernel
theorem dL_law_183 : decode cL_law 183 = .ok (.bipush 32, 2) := by decide +kernel
theorem dL_law_185 : decode cL_law 185 = .ok (.lshl, 1) := by decide +kernel
theorem dL_law_186 : decode cL_law 186 = .ok (.aload_n 0, 1) := by decide +kernel
theorem dL_law_187 : decode cL_law 187 = .ok (.iload_n 3, 1) := by decide +kernel
theorem dL_law_188 : decode cL_law 188 = .ok (.iconst 2, 1) := by decide +kernel
theorem dL_law_189 : decode cL_law 189 = .ok (.iadd, 1) := by decide +kernel
theorem dL_law_190 : decode cL_law 190 = .ok (.iaload, 1) := by decide +kernel
theorem dL_law_191 : decode cL_law 191 = .ok (.i2l, 1) := by decide +kernel
theorem dL_law_192 : decode cL_law 192 = .ok (.ldc2_w 13, 3) := by decide +kernel
theorem dL_law_195 : decode cL_law 195 = .ok (.land, 1) := by decide +kernel
theorem dL_law_196 : decode cL_law 196 = .ok (.lor, 1) := by decide +kernel
theorem dL_law_197 : decode cL_law 197 = .ok (.aload_n 0, 1) := by decide +kernel
theorem dL_law_198 : decode cL_law 198 = .ok (.iload_n 3, 1) := by decide +kernel
theorem dL_law_199 : decode cL_law 199 = .ok (.iconst 3, 1) := by decide +kernel
theorem dL_law_200 : decode cL_law 200 = .ok (.iadd, 1) := by decide +kernel
theorem dL_law_201 : decode cL_law 201 = .ok (.iaload, 1) := by decide +kernel
theorem dL_law_202 : decode cL_law 202 = .ok (.invokevirtual 15, 3) := by decide +kernel
theorem dL_law_205 : decode cL_law 205 = .ok (.aload_n 2, 1) := by decide +kernel
theorem dL_law_206 : decode cL_law 206 = .ok (.aload_n 0, 1) := by decide +kernel
theorem dL_law_207 : decode cL_law 207 = .ok (.iload_n 3, 1) := by decide +kernel
theorem dL_law_208 : decode cL_law 208 = .ok (.iconst 1, 1) := by decide +kernel
theorem dL_law_209 : decode cL_law 209 = .ok (.iadd, 1) := by decide +kernel
theorem dL_law_210 : decode cL_law 210 = .ok (.iaload, 1) := by decide +kernel
theorem dL_law_211 : decode cL_law 211 = .ok (.i2l, 1) := by decide +kernel
theorem dL_law_212 : decode cL_law 212 = .ok (.bipush 32, 2) := by decide +kernel
theorem dL_law_214 : decode cL_law 214 = .ok (.lshl, 1) := by decide +kernel
theorem dL_law_215 : decode cL_law 215 = .ok (.aload_n 0, 1) := by decide +kernel
theorem dL_law_216 : decode cL_law 216 = .ok (.iload_n 3, 1) := by decide +kernel
theorem dL_law_217 : decode cL_law 217 = .ok (.iconst 2, 1) := by decide +kernel
theorem dL_law_218 : decode cL_law 218 = .ok (.iadd, 1) := by decide +kernel
theorem dL_law_219 : decode cL_law 219 = .ok (.iaload, 1) := by decide +kernel
theorem dL_law_220 : decode cL_law 220 = .ok (.i2l, 1) := by decide +kernel
theorem dL_law_221 : decode cL_law 221 = .ok (.ldc2_w 13, 3) := by decide +kernel
theorem dL_law_224 : decode cL_law 224 = .ok (.land, 1) := by decide +kernel
theorem dL_law_225 : decode cL_law 225 = .ok (.lor, 1) := by decide +kernel
theorem dL_law_226 : decode cL_law 226 = .ok (.aload_n 0, 1) := by decide +kernel
theorem dL_law_227 : decode cL_law 227 = .ok (.iload_n 3, 1) := by decide +kernel
theorem dL_law_228 : decode cL_law 228 = .ok (.iconst 3, 1) := by decide +kernel
theorem dL_law_229 : decode cL_law 229 = .ok (.iadd, 1) := by decide +kernel
theorem dL_law_230 : decode cL_law 230 = .ok (.iaload, 1) := by decide +kernel
theorem dL_law_231 : decode cL_law 231 = .ok (.invokevirtual 19, 3) := by decide +kernel
theorem dL_law_234 : decode cL_law 234 = .ok (.if_icmp .eq 808, 3) := by decide +kernel
theorem dL_law_237 : decode cL_law 237 = .ok (.iconst 0, 1) := by decide +kernel
theorem dL_law_238 : decode cL_law 238 = .ok (.ireturn, 1) := by decide +kernel
theorem dL_law_239 : decode cL_law 239 = .ok (.aload_n 1, 1) := by decide +kernel
theorem dL_law_240 : decode cL_law 240 = .ok (.invokevirtual 20, 3) := by decide +kernel
theorem dL_law_243 : decode cL_law 243 = .ok (.aload_n 2, 1) := by decide +kernel
theorem dL_law_244 : decode cL_law 244 = .ok (.invokevirtual 24, 3) := by decide +kernel
theorem dL_law_247 : decode cL_law 247 = .ok (.if_icmp .eq 795, 3) := by decide +kernel
theorem dL_law_250 : decode cL_law 250 = .ok (.iconst 0, 1) := by decide +kernel
theorem dL_law_251 : decode cL_law 251 = .ok (.ireturn, 1) := by decide +kernel
theorem dL_law_252 : decode cL_law 252 = .ok (.aload_n 1, 1) := by decide +kernel
theorem dL_law_253 : decode cL_law 253 = .ok (.invokevirtual 25, 3) := by decide +kernel
theorem dL_law_256 : decode cL_law 256 = .ok (.aload_n 2, 1) := by decide +kernel
theorem dL_law_257 : decode cL_law 257 = .ok (.invokevirtual 28, 3) := by decide +kernel
theorem dL_law_260 : decode cL_law 260 = .ok (.if_icmp .eq 782, 3) := by decide +kernel
theorem dL_law_263 : decode cL_law 263 = .ok (.iconst 0, 1) := by decide +kernel
theorem dL_law_264 : decode cL_law 264 = .ok (.ireturn, 1) := by decide +kernel
theorem dL_law_265 : decode cL_law 265 = .ok (.aload_n 1, 1) := by decide +kernel
theorem dL_law_266 : decode cL_law 266 = .ok (.invokevirtual 29, 3) := by decide +kernel
theorem dL_law_269 : decode cL_law 269 = .ok (.aload_n 2, 1) := by decide +kernel
theorem dL_law_270 : decode cL_law 270 = .ok (.invokevirtual 32, 3) := by decide +kernel
theorem dL_law_273 : decode cL_law 273 = .ok (.if_icmp .eq 769, 3) := by decide +kernel
theorem dL_law_276 : decode cL_law 276 = .ok (.iconst 0, 1) := by decide +kernel
theorem dL_law_277 : decode cL_law 277 = .ok (.ireturn, 1) := by decide +kernel
theorem dL_law_278 : decode cL_law 278 = .ok (.aload_n 1, 1) := by decide +kernel
theorem dL_law_279 : decode cL_law 279 = .ok (.aload_n 0, 1) := by decide +kernel
theorem dL_law_280 : decode cL_law 280 = .ok (.iload_n 3, 1) := by decide +kernel
theorem dL_law_281 : decode cL_law 281 = .ok (.iconst 1, 1) := by decide +kernel
theorem dL_law_282 : decode cL_law 282 = .ok (.iadd, 1) := by decide +kernel
theorem dL_law_283 : decode cL_law 283 = .ok (.iaload, 1) := by decide +kernel
theorem dL_law_284 : decode cL_law 284 = .ok (.invokevirtual 33, 3) := by decide +kernel
theorem dL_law_287 : decode cL_law 287 = .ok (.aload_n 2, 1) := by decide +kernel
theorem dL_law_288 : decode cL_law 288 = .ok (.aload_n 0, 1) := by decide +kernel
theorem dL_law_289 : decode cL_law 289 = .ok (.iload_n 3, 1) := by decide +kernel
theorem dL_law_290 : decode cL_law 290 = .ok (.iconst 1, 1) := by decide +kernel
theorem dL_law_291 : decode cL_law 291 = .ok (.iadd, 1) := by decide +kernel
theorem dL_law_292 : decode cL_law 292 = .ok (.iaload, 1) := by decide +kernel
theorem dL_law_293 : decode cL_law 293 = .ok (.invokevirtual 37, 3) := by decide +kernel
theorem dL_law_296 : decode cL_law 296 = .ok (.if_icmp .eq 746, 3) := by decide +kernel
theorem dL_law_299 : decode cL_law 299 = .ok (.iconst 0, 1) := by decide +kernel
theorem dL_law_300 : decode cL_law 300 = .ok (.ireturn, 1) := by decide +kernel
theorem dL_law_301 : decode cL_law 301 = .ok (.aload_n 1, 1) := by decide +kernel
theorem dL_law_302 : decode cL_law 302 = .ok (.aload_n 0, 1) := by decide +kernel
theorem dL_law_303 : decode cL_law 303 = .ok (.iload_n 3, 1) := by decide +kernel
theorem dL_law_304 : decode cL_law 304 = .ok (.iconst 1, 1) := by decide +kernel
theorem dL_law_305 : decode cL_law 305 = .ok (.iadd, 1) := by decide +kernel
theorem dL_law_306 : decode cL_law 306 = .ok (.iaload, 1) := by decide +kernel
theorem dL_law_307 : decode cL_law 307 = .ok (.aload_n 0, 1) := by decide +kernel
theorem dL_law_308 : decode cL_law 308 = .ok (.iload_n 3, 1) := by decide +kernel
theorem dL_law_309 : decode cL_law 309 = .ok (.iconst 2, 1) := by decide +kernel
theorem dL_law_310 : decode cL_law 310 = .ok (.iadd, 1) := by decide +kernel
theorem dL_law_311 : decode cL_law 311 = .ok (.iaload, 1) := by decide +kernel
theorem dL_law_312 : decode cL_law 312 = .ok (.invokevirtual 38, 3) := by decide +kernel
theorem dL_law_315 : decode cL_law 315 = .ok (.aload_n 2, 1) := by decide +kernel
theorem dL_law_316 : decode cL_law 316 = .ok (.aload_n 0, 1) := by decide +kernel
theorem dL_law_317 : decode cL_law 317 = .ok (.iload_n 3, 1) := by decide +kernel
theorem dL_law_318 : decode cL_law 318 = .ok (.iconst 1, 1) := by decide +kernel
theorem dL_law_319 : decode cL_law 319 = .ok (.iadd, 1) := by decide +kernel
theorem dL_law_320 : decode cL_law 320 = .ok (.iaload, 1) := by decide +kernel
theorem dL_law_321 : decode cL_law 321 = .ok (.aload_n 0, 1) := by decide +kernel
theorem dL_law_322 : decode cL_law 322 = .ok (.iload_n 3, 1) := by decide +kernel
theorem dL_law_323 : decode cL_law 323 = .ok (.iconst 2, 1) := by decide +kernel
theorem dL_law_324 : decode cL_law 324 = .ok (.iadd, 1) := by decide +kernel
theorem dL_law_325 : decode cL_law 325 = .ok (.iaload, 1) := by decide +kernel
theorem dL_law_326 : decode cL_law 326 = .ok (.invokevirtual 42, 3) := by decide +kernel
theorem dL_law_329 : decode cL_law 329 = .ok (.if_icmp .eq 713, 3) := by decide +kernel
theorem dL_law_332 : decode cL_law 332 = .ok (.iconst 0, 1) := by decide +kernel
theorem dL_law_333 : decode cL_law 333 = .ok (.ireturn, 1) := by decide +kernel
theorem dL_law_334 : decode cL_law 334 = .ok (.aload_n 1, 1) := by decide +kernel
theorem dL_law_335 : decode cL_law 335 = .ok (.aload_n 0, 1) := by decide +kernel
theorem dL_law_336 : decode cL_law 336 = .ok (.iload_n 3, 1) := by decide +kernel
theorem dL_law_337 : decode cL_law 337 = .ok (.iconst 1, 1) := by decide +kernel
theorem dL_law_338 : decode cL_law 338 = .ok (.iadd, 1) := by decide +kernel
theorem dL_law_339 : decode cL_law 339 = .ok (.iaload, 1) := by decide +kernel
theorem dL_law_340 : decode cL_law 340 = .ok (.aload_n 0, 1) := by decide +kernel
theorem dL_law_341 : decode cL_law 341 = .ok (.iload_n 3, 1) := by decide +kernel
theorem dL_law_342 : decode cL_law 342 = .ok (.iconst 2, 1) := by decide +kernel
theorem dL_law_343 : decode cL_law 343 = .ok (.iadd, 1) := by decide +kernel
theorem dL_law_344 : decode cL_law 344 = .ok (.iaload, 1) := by decide +kernel
theorem dL_law_345 : decode cL_law 345 = .ok (.aload_n 0, 1) := by decide +kernel
theorem dL_law_346 : decode cL_law 346 = .ok (.iload_n 3, 1) := by decide +kernel
theorem dL_law_347 : decode cL_law 347 = .ok (.iconst 3, 1) := by decide +kernel
theorem dL_law_348 : decode cL_law 348 = .ok (.iadd, 1) := by decide +kernel
theorem dL_law_349 : decode cL_law 349 = .ok (.iaload, 1) := by decide +kernel
theorem dL_law_350 : decode cL_law 350 = .ok (.invokevirtual 43, 3) := by decide +kernel
theorem dL_law_353 : decode cL_law 353 = .ok (.aload_n 2, 1) := by decide +kernel
theorem dL_law_354 : decode cL_law 354 = .ok (.aload_n 0, 1) := by decide +kernel
theorem dL_law_355 : decode cL_law 355 = .ok (.iload_n 3, 1) := by decide +kernel
theorem dL_law_356 : decode cL_law 356 = .ok (.iconst 1, 1) := by decide +kernel
theorem dL_law_357 : decode cL_law 357 = .ok (.iadd, 1) := by decide +kernel
theorem dL_law_358 : decode cL_law 358 = .ok (.iaload, 1) := by decide +kernel
theorem dL_law_359 : decode cL_law 359 = .ok (.aload_n 0, 1) := by decide +kernel
theorem dL_law_360 : decode cL_law 360 = .ok (.iload_n 3, 1) := by decide +kernel
theorem dL_law_361 : decode cL_law 361 = .ok (.iconst 2, 1) := by decide +kernel
theorem dL_law_362 : decode cL_law 362 = .ok (.iadd, 1) := by decide +kernel
theorem dL_law_363 : decode cL_law 363 = .ok (.iaload, 1) := by decide +kernel
theorem dL_law_364 : decode cL_law 364 = .ok (.aload_n 0, 1) := by decide +kernel
theorem dL_law_365 : decode cL_law 365 = .ok (.iload_n 3, 1) := by decide +kernel
theorem dL_law_366 : decode cL_law 366 = .ok (.iconst 3, 1) := by decide +kernel
theorem dL_law_367 : decode cL_law 367 = .ok (.iadd, 1) := by decide +kernel
theorem dL_law_368 : decode cL_law 368 = .ok (.iaload, 1) := by decide +kernel
theorem dL_law_369 : decode cL_law 369 = .ok (.invokevirtual 47, 3) := by decide +kernel
theorem dL_law_372 : decode cL_law 372 = .ok (.if_icmp .eq 670, 3) := by decide +kernel
theorem dL_law_375 : decode cL_law 375 = .ok (.iconst 0, 1) := by decide +kernel
theorem dL_law_376 : decode cL_law 376 = .ok (.ireturn, 1) := by decide +kernel
theorem dL_law_377 : decode cL_law 377 = .ok (.aload_n 1, 1) := by decide +kernel
theorem dL_law_378 : decode cL_law 378 = .ok (.aload_n 0, 1) := by decide +kernel
theorem dL_law_379 : decode cL_law 379 = .ok (.iload_n 3, 1) := by decide +kernel
theorem dL_law_380 : decode cL_law 380 = .ok (.iconst 1, 1) := by decide +kernel
theorem dL_law_381 : decode cL_law 381 = .ok (.iadd, 1) := by decide +kernel
theorem dL_law_382 : decode cL_law 382 = .ok (.iaload, 1) := by decide +kernel
theorem dL_law_383 : decode cL_law 383 = .ok (.aload_n 0, 1) := by decide +kernel
theorem dL_law_384 : decode cL_law 384 = .ok (.iload_n 3, 1) := by decide +kernel
theorem dL_law_385 : decode cL_law 385 = .ok (.iconst 2, 1) := by decide +kernel
theorem dL_law_386 : decode cL_law 386 = .ok (.iadd, 1) := by decide +kernel
theorem dL_law_387 : decode cL_law 387 = .ok (.iaload, 1) := by decide +kernel
theorem dL_law_388 : decode cL_law 388 = .ok (.invokevirtual 48, 3) := by decide +kernel
theorem dL_law_391 : decode cL_law 391 = .ok (.aload_n 2, 1) := by decide +kernel
theorem dL_law_392 : decode cL_law 392 = .ok (.aload_n 0, 1) := by decide +kernel
theorem dL_law_393 : decode cL_law 393 = .ok (.iload_n 3, 1) := by decide +kernel
theorem dL_law_394 : decode cL_law 394 = .ok (.iconst 1, 1) := by decide +kernel
theorem dL_law_395 : decode cL_law 395 = .ok (.iadd, 1) := by decide +kernel
theorem dL_law_396 : decode cL_law 396 = .ok (.iaload, 1) := by decide +kernel
theorem dL_law_397 : decode cL_law 397 = .ok (.aload_n 0, 1) := by decide +kernel
theorem dL_law_398 : decode cL_law 398 = .ok (.iload_n 3, 1) := by decide +kernel
theorem dL_law_399 : decode cL_law 399 = .ok (.iconst 2, 1) := by decide +kernel
theorem dL_law_400 : decode cL_law 400 = .ok (.iadd, 1) := by decide +kernel
theorem dL_law_401 : decode cL_law 401 = .ok (.iaload, 1) := by decide +kernel
theorem dL_law_402 : decode cL_law 402 = .ok (.invokevirtual 51, 3) := by decide +kernel
theorem dL_law_405 : decode cL_law 405 = .ok (.if_icmp .eq 637, 3) := by decide +kernel
theorem dL_law_408 : decode cL_law 408 = .ok (.iconst 0, 1) := by decide +kernel
theorem dL_law_409 : decode cL_law 409 = .ok (.ireturn, 1) := by decide +kernel
theorem dL_law_410 : decode cL_law 410 = .ok (.aload_n 1, 1) := by decide +kernel
theorem dL_law_411 : decode cL_law 411 = .ok (.aload_n 0, 1) := by decide +kernel
theorem dL_law_412 : decode cL_law 412 = .ok (.iload_n 3, 1) := by decide +kernel
theorem dL_law_413 : decode cL_law 413 = .ok (.iconst 1, 1) := by decide +kernel
theorem dL_law_414 : decode cL_law 414 = .ok (.iadd, 1) := by decide +kernel
theorem dL_law_415 : decode cL_law 415 = .ok (.iaload, 1) := by decide +kernel
theorem dL_law_416 : decode cL_law 416 = .ok (.invokevirtual 52, 3) := by decide +kernel
theorem dL_law_419 : decode cL_law 419 = .ok (.aload_n 2, 1) := by decide +kernel
theorem dL_law_420 : decode cL_law 420 = .ok (.aload_n 0, 1) := by decide +kernel
theorem dL_law_421 : decode cL_law 421 = .ok (.iload_n 3, 1) := by decide +kernel
theorem dL_law_422 : decode cL_law 422 = .ok (.iconst 1, 1) := by decide +kernel
theorem dL_law_423 : decode cL_law 423 = .ok (.iadd, 1) := by decide +kernel
theorem dL_law_424 : decode cL_law 424 = .ok (.iaload, 1) := by decide +kernel
theorem dL_law_425 : decode cL_law 425 = .ok (.invokevirtual 55, 3) := by decide +kernel
theorem dL_law_428 : decode cL_law 428 = .ok (.if_icmp .eq 614, 3) := by decide +kernel
theorem dL_law_431 : decode cL_law 431 = .ok (.iconst 0, 1) := by decide +kernel
theorem dL_law_432 : decode cL_law 432 = .ok (.ireturn, 1) := by decide +kernel
theorem dL_law_433 : decode cL_law 433 = .ok (.aload_n 1, 1) := by decide +kernel
theorem dL_law_434 : decode cL_law 434 = .ok (.aload_n 0, 1) := by decide +kernel
theorem dL_law_435 : decode cL_law 435 = .ok (.iload_n 3, 1) := by decide +kernel
theorem dL_law_436 : decode cL_law 436 = .ok (.iconst 1, 1) := by decide +kernel
theorem dL_law_437 : decode cL_law 437 = .ok (.iadd, 1) := by decide +kernel
theorem dL_law_438 : decode cL_law 438 = .ok (.iaload, 1) := by decide +kernel
theorem dL_law_439 : decode cL_law 439 = .ok (.aload_n 0, 1) := by decide +kernel
theorem dL_law_440 : decode cL_law 440 = .ok (.iload_n 3, 1) := by decide +kernel
theorem dL_law_441 : decode cL_law 441 = .ok (.iconst 2, 1) := by decide +kernel
theorem dL_law_442 : decode cL_law 442 = .ok (.iadd, 1) := by decide +kernel
theorem dL_law_443 : decode cL_law 443 = .ok (.iaload, 1) := by decide +kernel
theorem dL_law_444 : decode cL_law 444 = .ok (.invokevirtual 56, 3) := by decide +kernel
theorem dL_law_447 : decode cL_law 447 = .ok (.aload_n 2, 1) := by decide +kernel
theorem dL_law_448 : decode cL_law 448 = .ok (.aload_n 0, 1) := by decide +kernel
theorem dL_law_449 : decode cL_law 449 = .ok (.iload_n 3, 1) := by decide +kernel
theorem dL_law_450 : decode cL_law 450 = .ok (.iconst 1, 1) := by decide +kernel
theorem dL_law_451 : decode cL_law 451 = .ok (.iadd, 1) := by decide +kernel
theorem dL_law_452 : decode cL_law 452 = .ok (.iaload, 1) := by decide +kernel
theorem dL_law_453 : decode cL_law 453 = .ok (.aload_n 0, 1) := by decide +kernel
theorem dL_law_454 : decode cL_law 454 = .ok (.iload_n 3, 1) := by decide +kernel
theorem dL_law_455 : decode cL_law 455 = .ok (.iconst 2, 1) := by decide +kernel
theorem dL_law_456 : decode cL_law 456 = .ok (.iadd, 1) := by decide +kernel
theorem dL_law_457 : decode cL_law 457 = .ok (.iaload, 1) := by decide +kernel
theorem dL_law_458 : decode cL_law 458 = .ok (.invokevirtual 59, 3) := by decide +kernel
theorem dL_law_461 : decode cL_law 461 = .ok (.if_icmp .eq 581, 3) := by decide +kernel
theorem dL_law_464 : decode cL_law 464 = .ok (.iconst 0, 1) := by decide +kernel
theorem dL_law_465 : decode cL_law 465 = .ok (.ireturn, 1) := by decide +kernel
theorem dL_law_466 : decode cL_law 466 = .ok (.aload_n 1, 1) := by decide +kernel
theorem dL_law_467 : decode cL_law 467 = .ok (.aload_n 0, 1) := by decide +kernel
theorem dL_law_468 : decode cL_law 468 = .ok (.iload_n 3, 1) := by decide +kernel
theorem dL_law_469 : decode cL_law 469 = .ok (.iconst 1, 1) := by decide +kernel
theorem dL_law_470 : decode cL_law 470 = .ok (.iadd, 1) := by decide +kernel
theorem dL_law_471 : decode cL_law 471 = .ok (.iaload, 1) := by decide +kernel
theorem dL_law_472 : decode cL_law 472 = .ok (.invokevirtual 60, 3) := by decide +kernel
theorem dL_law_475 : decode cL_law 475 = .ok (.aload_n 2, 1) := by decide +kernel
theorem dL_law_476 : decode cL_law 476 = .ok (.aload_n 0, 1) := by decide +kernel
theorem dL_law_477 : decode cL_law 477 = .ok (.iload_n 3, 1) := by decide +kernel
theorem dL_law_478 : decode cL_law 478 = .ok (.iconst 1, 1) := by decide +kernel
theorem dL_law_479 : decode cL_law 479 = .ok (.iadd, 1) := by decide +kernel
theorem dL_law_480 : decode cL_law 480 = .ok (.iaload, 1) := by decide +kernel
theorem dL_law_481 : decode cL_law 481 = .ok (.invokevirtual 63, 3) := by decide +kernel
theorem dL_law_484 : decode cL_law 484 = .ok (.if_icmp .eq 558, 3) := by decide +kernel
theorem dL_law_487 : decode cL_law 487 = .ok (.iconst 0, 1) := by decide +kernel
theorem dL_law_488 : decode cL_law 488 = .ok (.ireturn, 1) := by decide +kernel
theorem dL_law_489 : decode cL_law 489 = .ok (.aload_n 1, 1) := by decide +kernel
theorem dL_law_490 : decode cL_law 490 = .ok (.aload_n 0, 1) := by decide +kernel
theorem dL_law_491 : decode cL_law 491 = .ok (.iload_n 3, 1) := by decide +kernel
theorem dL_law_492 : decode cL_law 492 = .ok (.iconst 1, 1) := by decide +kernel
theorem dL_law_493 : decode cL_law 493 = .ok (.iadd, 1) := by decide +kernel
theorem dL_law_494 : decode cL_law 494 = .ok (.iaload, 1) := by decide +kernel
theorem dL_law_495 : decode cL_law 495 = .ok (.invokevirtual 64, 3) := by decide +kernel
theorem dL_law_498 : decode cL_law 498 = .ok (.aload_n 2, 1) := by decide +kernel
theorem dL_law_499 : decode cL_law 499 = .ok (.aload_n 0, 1) := by decide +kernel
theorem dL_law_500 : decode cL_law 500 = .ok (.iload_n 3, 1) := by decide +kernel
theorem dL_law_501 : decode cL_law 501 = .ok (.iconst 1, 1) := by decide +kernel
theorem dL_law_502 : decode cL_law 502 = .ok (.iadd, 1) := by decide +kernel
theorem dL_law_503 : decode cL_law 503 = .ok (.iaload, 1) := by decide +kernel
theorem dL_law_504 : decode cL_law 504 = .ok (.invokevirtual 67, 3) := by decide +kernel
theorem dL_law_507 : decode cL_law 507 = .ok (.if_icmp .eq 535, 3) := by decide +kernel
theorem dL_law_510 : decode cL_law 510 = .ok (.iconst 0, 1) := by decide +kernel
theorem dL_law_511 : decode cL_law 511 = .ok (.ireturn, 1) := by decide +kernel
theorem dL_law_512 : decode cL_law 512 = .ok (.aload_n 1, 1) := by decide +kernel
theorem dL_law_513 : decode cL_law 513 = .ok (.aload_n 0, 1) := by decide +kernel
theorem dL_law_514 : decode cL_law 514 = .ok (.iload_n 3, 1) := by decide +kernel
theorem dL_law_515 : decode cL_law 515 = .ok (.iconst 1, 1) := by decide +kernel
theorem dL_law_516 : decode cL_law 516 = .ok (.iadd, 1) := by decide +kernel
theorem dL_law_517 : decode cL_law 517 = .ok (.iaload, 1) := by decide +kernel
theorem dL_law_518 : decode cL_law 518 = .ok (.invokevirtual 68, 3) := by decide +kernel
theorem dL_law_521 : decode cL_law 521 = .ok (.aload_n 2, 1) := by decide +kernel
theorem dL_law_522 : decode cL_law 522 = .ok (.aload_n 0, 1) := by decide +kernel
theorem dL_law_523 : decode cL_law 523 = .ok (.iload_n 3, 1) := by decide +kernel
theorem dL_law_524 : decode cL_law 524 = .ok (.iconst 1, 1) := by decide +kernel
theorem dL_law_525 : decode cL_law 525 = .ok (.iadd, 1) := by decide +kernel
theorem dL_law_526 : decode cL_law 526 = .ok (.iaload, 1) := by decide +kernel
theorem dL_law_527 : decode cL_law 527 = .ok (.invokevirtual 71, 3) := by decide +kernel
theorem dL_law_530 : decode cL_law 530 = .ok (.if_icmp .eq 512, 3) := by decide +kernel
theorem dL_law_533 : decode cL_law 533 = .ok (.iconst 0, 1) := by decide +kernel
theorem dL_law_534 : decode cL_law 534 = .ok (.ireturn, 1) := by decide +kernel
theorem dL_law_535 : decode cL_law 535 = .ok (.aload_n 1, 1) := by decide +kernel
theorem dL_law_536 : decode cL_law 536 = .ok (.aload_n 0, 1) := by decide +kernel
theorem dL_law_537 : decode cL_law 537 = .ok (.iload_n 3, 1) := by decide +kernel
theorem dL_law_538 : decode cL_law 538 = .ok (.iconst 1, 1) := by decide +kernel
theorem dL_law_539 : decode cL_law 539 = .ok (.iadd, 1) := by decide +kernel
theorem dL_law_540 : decode cL_law 540 = .ok (.iaload, 1) := by decide +kernel
theorem dL_law_541 : decode cL_law 541 = .ok (.invokevirtual 72, 3) := by decide +kernel
theorem dL_law_544 : decode cL_law 544 = .ok (.aload_n 2, 1) := by decide +kernel
theorem dL_law_545 : decode cL_law 545 = .ok (.aload_n 0, 1) := by decide +kernel
theorem dL_law_546 : decode cL_law 546 = .ok (.iload_n 3, 1) := by decide +kernel
theorem dL_law_547 : decode cL_law 547 = .ok (.iconst 1, 1) := by decide +kernel
theorem dL_law_548 : decode cL_law 548 = .ok (.iadd, 1) := by decide +kernel
theorem dL_law_549 : decode cL_law 549 = .ok (.iaload, 1) := by decide +kernel
theorem dL_law_550 : decode cL_law 550 = .ok (.invokevirtual 75, 3) := by decide +kernel
theorem dL_law_553 : decode cL_law 553 = .ok (.if_icmp .eq 489, 3) := by decide +kernel
theorem dL_law_556 : decode cL_law 556 = .ok (.iconst 0, 1) := by decide +kernel
theorem dL_law_557 : decode cL_law 557 = .ok (.ireturn, 1) := by decide +kernel
theorem dL_law_558 : decode cL_law 558 = .ok (.aload_n 1, 1) := by decide +kernel
theorem dL_law_559 : decode cL_law 559 = .ok (.aload_n 0, 1) := by decide +kernel
theorem dL_law_560 : decode cL_law 560 = .ok (.iload_n 3, 1) := by decide +kernel
theorem dL_law_561 : decode cL_law 561 = .ok (.iconst 1, 1) := by decide +kernel
theorem dL_law_562 : decode cL_law 562 = .ok (.iadd, 1) := by decide +kernel
theorem dL_law_563 : decode cL_law 563 = .ok (.iaload, 1) := by decide +kernel
theorem dL_law_564 : decode cL_law 564 = .ok (.invokevirtual 76, 3) := by decide +kernel
theorem dL_law_567 : decode cL_law 567 = .ok (.aload_n 2, 1) := by decide +kernel
theorem dL_law_568 : decode cL_law 568 = .ok (.aload_n 0, 1) := by decide +kernel
theorem dL_law_569 : decode cL_law 569 = .ok (.iload_n 3, 1) := by decide +kernel
theorem dL_law_570 : decode cL_law 570 = .ok (.iconst 1, 1) := by decide +kernel
theorem dL_law_571 : decode cL_law 571 = .ok (.iadd, 1) := by decide +kernel
theorem dL_law_572 : decode cL_law 572 = .ok (.iaload, 1) := by decide +kernel
theorem dL_law_573 : decode cL_law 573 = .ok (.invokevirtual 79, 3) := by decide +kernel
theorem dL_law_576 : decode cL_law 576 = .ok (.if_icmp .eq 466, 3) := by decide +kernel
theorem dL_law_579 : decode cL_law 579 = .ok (.iconst 0, 1) := by decide +kernel
theorem dL_law_580 : decode cL_law 580 = .ok (.ireturn, 1) := by decide +kernel
theorem dL_law_581 : decode cL_law 581 = .ok (.aload_n 1, 1) := by decide +kernel
theorem dL_law_582 : decode cL_law 582 = .ok (.aload_n 0, 1) := by decide +kernel
theorem dL_law_583 : decode cL_law 583 = .ok (.iload_n 3, 1) := by decide +kernel
theorem dL_law_584 : decode cL_law 584 = .ok (.iconst 1, 1) := by decide +kernel
theorem dL_law_585 : decode cL_law 585 = .ok (.iadd, 1) := by decide +kernel
theorem dL_law_586 : decode cL_law 586 = .ok (.iaload, 1) := by decide +kernel
theorem dL_law_587 : decode cL_law 587 = .ok (.invokevirtual 80, 3) := by decide +kernel
theorem dL_law_590 : decode cL_law 590 = .ok (.aload_n 2, 1) := by decide +kernel
theorem dL_law_591 : decode cL_law 591 = .ok (.aload_n 0, 1) := by decide +kernel
theorem dL_law_592 : decode cL_law 592 = .ok (.iload_n 3, 1) := by decide +kernel
theorem dL_law_593 : decode cL_law 593 = .ok (.iconst 1, 1) := by decide +kernel
theorem dL_law_594 : decode cL_law 594 = .ok (.iadd, 1) := by decide +kernel
theorem dL_law_595 : decode cL_law 595 = .ok (.iaload, 1) := by decide +kernel
theorem dL_law_596 : decode cL_law 596 = .ok (.invokevirtual 83, 3) := by decide +kernel
theorem dL_law_599 : decode cL_law 599 = .ok (.if_icmp .eq 443, 3) := by decide +kernel
theorem dL_law_602 : decode cL_law 602 = .ok (.iconst 0, 1) := by decide +kernel
theorem dL_law_603 : decode cL_law 603 = .ok (.ireturn, 1) := by decide +kernel
theorem dL_law_604 : decode cL_law 604 = .ok (.aload_n 1, 1) := by decide +kernel
theorem dL_law_605 : decode cL_law 605 = .ok (.aload_n 0, 1) := by decide +kernel
theorem dL_law_606 : decode cL_law 606 = .ok (.iload_n 3, 1) := by decide +kernel
theorem dL_law_607 : decode cL_law 607 = .ok (.iconst 1, 1) := by decide +kernel
theorem dL_law_608 : decode cL_law 608 = .ok (.iadd, 1) := by decide +kernel
theorem dL_law_609 : decode cL_law 609 = .ok (.iaload, 1) := by decide +kernel
theorem dL_law_610 : decode cL_law 610 = .ok (.aload_n 0, 1) := by decide +kernel
theorem dL_law_611 : decode cL_law 611 = .ok (.iload_n 3, 1) := by decide +kernel
theorem dL_law_612 : decode cL_law 612 = .ok (.iconst 2, 1) := by decide +kernel
theorem dL_law_613 : decode cL_law 613 = .ok (.iadd, 1) := by decide +kernel
theorem dL_law_614 : decode cL_law 614 = .ok (.iaload, 1) := by decide +kernel
theorem dL_law_615 : decode cL_law 615 = .ok (.invokevirtual 84, 3) := by decide +kernel
theorem dL_law_618 : decode cL_law 618 = .ok (.aload_n 2, 1) := by decide +kernel
theorem dL_law_619 : decode cL_law 619 = .ok (.aload_n 0, 1) := by decide +kernel
theorem dL_law_620 : decode cL_law 620 = .ok (.iload_n 3, 1) := by decide +kernel
theorem dL_law_621 : decode cL_law 621 = .ok (.iconst 1, 1) := by decide +kernel
theorem dL_law_622 : decode cL_law 622 = .ok (.iadd, 1) := by decide +kernel
theorem dL_law_623 : decode cL_law 623 = .ok (.iaload, 1) := by decide +kernel
theorem dL_law_624 : decode cL_law 624 = .ok (.aload_n 0, 1) := by decide +kernel
theorem dL_law_625 : decode cL_law 625 = .ok (.iload_n 3, 1) := by decide +kernel
theorem dL_law_626 : decode cL_law 626 = .ok (.iconst 2, 1) := by decide +kernel
theorem dL_law_627 : decode cL_law 627 = .ok (.iadd, 1) := by decide +kernel
theorem dL_law_628 : decode cL_law 628 = .ok (.iaload, 1) := by decide +kernel
theorem dL_law_629 : decode cL_law 629 = .ok (.invokevirtual 87, 3) := by decide +kernel
theorem dL_law_632 : decode cL_law 632 = .ok (.if_icmp .eq 410, 3) := by decide +kernel
theorem dL_law_635 : decode cL_law 635 = .ok (.iconst 0, 1) := by decide +kernel
theorem dL_law_636 : decode cL_law 636 = .ok (.ireturn, 1) := by decide +kernel
theorem dL_law_637 : decode cL_law 637 = .ok (.aload_n 1, 1) := by decide +kernel
theorem dL_law_638 : decode cL_law 638 = .ok (.aload_n 0, 1) := by decide +kernel
theorem dL_law_639 : decode cL_law 639 = .ok (.iload_n 3, 1) := by decide +kernel
theorem dL_law_640 : decode cL_law 640 = .ok (.iconst 1, 1) := by decide +kernel
theorem dL_law_641 : decode cL_law 641 = .ok (.iadd, 1) := by decide +kernel
theorem dL_law_642 : decode cL_law 642 = .ok (.iaload, 1) := by decide +kernel
theorem dL_law_643 : decode cL_law 643 = .ok (.aload_n 0, 1) := by decide +kernel
theorem dL_law_644 : decode cL_law 644 = .ok (.iload_n 3, 1) := by decide +kernel
theorem dL_law_645 : decode cL_law 645 = .ok (.iconst 2, 1) := by decide +kernel
theorem dL_law_646 : decode cL_law 646 = .ok (.iadd, 1) := by decide +kernel
theorem dL_law_647 : decode cL_law 647 = .ok (.iaload, 1) := by decide +kernel
theorem dL_law_648 : decode cL_law 648 = .ok (.invokevirtual 88, 3) := by decide +kernel
theorem dL_law_651 : decode cL_law 651 = .ok (.aload_n 2, 1) := by decide +kernel
theorem dL_law_652 : decode cL_law 652 = .ok (.aload_n 0, 1) := by decide +kernel
theorem dL_law_653 : decode cL_law 653 = .ok (.iload_n 3, 1) := by decide +kernel
theorem dL_law_654 : decode cL_law 654 = .ok (.iconst 1, 1) := by decide +kernel
theorem dL_law_655 : decode cL_law 655 = .ok (.iadd, 1) := by decide +kernel
theorem dL_law_656 : decode cL_law 656 = .ok (.iaload, 1) := by decide +kernel
theorem dL_law_657 : decode cL_law 657 = .ok (.aload_n 0, 1) := by decide +kernel
theorem dL_law_658 : decode cL_law 658 = .ok (.iload_n 3, 1) := by decide +kernel
theorem dL_law_659 : decode cL_law 659 = .ok (.iconst 2, 1) := by decide +kernel
theorem dL_law_660 : decode cL_law 660 = .ok (.iadd, 1) := by decide +kernel
theorem dL_law_661 : decode cL_law 661 = .ok (.iaload, 1) := by decide +kernel
theorem dL_law_662 : decode cL_law 662 = .ok (.invokevirtual 91, 3) := by decide +kernel
theorem dL_law_665 : decode cL_law 665 = .ok (.if_icmp .eq 377, 3) := by decide +kernel
theorem dL_law_668 : decode cL_law 668 = .ok (.iconst 0, 1) := by decide +kernel
theorem dL_law_669 : decode cL_law 669 = .ok (.ireturn, 1) := by decide +kernel
theorem dL_law_670 : decode cL_law 670 = .ok (.aload_n 1, 1) := by decide +kernel
theorem dL_law_671 : decode cL_law 671 = .ok (.aload_n 0, 1) := by decide +kernel
theorem dL_law_672 : decode cL_law 672 = .ok (.iload_n 3, 1) := by decide +kernel
theorem dL_law_673 : decode cL_law 673 = .ok (.iconst 1, 1) := by decide +kernel
theorem dL_law_674 : decode cL_law 674 = .ok (.iadd, 1) := by decide +kernel
theorem dL_law_675 : decode cL_law 675 = .ok (.iaload, 1) := by decide +kernel
theorem dL_law_676 : decode cL_law 676 = .ok (.invokevirtual 92, 3) := by decide +kernel
theorem dL_law_679 : decode cL_law 679 = .ok (.aload_n 2, 1) := by decide +kernel
theorem dL_law_680 : decode cL_law 680 = .ok (.aload_n 0, 1) := by decide +kernel
theorem dL_law_681 : decode cL_law 681 = .ok (.iload_n 3, 1) := by decide +kernel
theorem dL_law_682 : decode cL_law 682 = .ok (.iconst 1, 1) := by decide +kernel
theorem dL_law_683 : decode cL_law 683 = .ok (.iadd, 1) := by decide +kernel
theorem dL_law_684 : decode cL_law 684 = .ok (.iaload, 1) := by decide +kernel
theorem dL_law_685 : decode cL_law 685 = .ok (.invokevirtual 95, 3) := by decide +kernel
theorem dL_law_688 : decode cL_law 688 = .ok (.if_icmp .eq 354, 3) := by decide +kernel
theorem dL_law_691 : decode cL_law 691 = .ok (.iconst 0, 1) := by decide +kernel
theorem dL_law_692 : decode cL_law 692 = .ok (.ireturn, 1) := by decide +kernel
theorem dL_law_693 : decode cL_law 693 = .ok (.aload_n 1, 1) := by decide +kernel
theorem dL_law_694 : decode cL_law 694 = .ok (.invokevirtual 96, 3) := by decide +kernel
theorem dL_law_697 : decode cL_law 697 = .ok (.aload_n 2, 1) := by decide +kernel
theorem dL_law_698 : decode cL_law 698 = .ok (.invokevirtual 99, 3) := by decide +kernel
theorem dL_law_701 : decode cL_law 701 = .ok (.if_icmp .eq 341, 3) := by decide +kernel
theorem dL_law_704 : decode cL_law 704 = .ok (.iconst 0, 1) := by decide +kernel
theorem dL_law_705 : decode cL_law 705 = .ok (.ireturn, 1) := by decide +kernel
theorem dL_law_706 : decode cL_law 706 = .ok (.aload_n 1, 1) := by decide +kernel
theorem dL_law_707 : decode cL_law 707 = .ok (.aload_n 0, 1) := by decide +kernel
theorem dL_law_708 : decode cL_law 708 = .ok (.iload_n 3, 1) := by decide +kernel
theorem dL_law_709 : decode cL_law 709 = .ok (.iconst 1, 1) := by decide +kernel
theorem dL_law_710 : decode cL_law 710 = .ok (.iadd, 1) := by decide +kernel
theorem dL_law_711 : decode cL_law 711 = .ok (.iaload, 1) := by decide +kernel
theorem dL_law_712 : decode cL_law 712 = .ok (.aload_n 0, 1) := by decide +kernel
theorem dL_law_713 : decode cL_law 713 = .ok (.iload_n 3, 1) := by decide +kernel
theorem dL_law_714 : decode cL_law 714 = .ok (.iconst 2, 1) := by decide +kernel
theorem dL_law_715 : decode cL_law 715 = .ok (.iadd, 1) := by decide +kernel
theorem dL_law_716 : decode cL_law 716 = .ok (.iaload, 1) := by decide +kernel
theorem dL_law_717 : decode cL_law 717 = .ok (.invokevirtual 100, 3) := by decide +kernel
theorem dL_law_720 : decode cL_law 720 = .ok (.aload_n 2, 1) := by decide +kernel
theorem dL_law_721 : decode cL_law 721 = .ok (.aload_n 0, 1) := by decide +kernel
theorem dL_law_722 : decode cL_law 722 = .ok (.iload_n 3, 1) := by decide +kernel
theorem dL_law_723 : decode cL_law 723 = .ok (.iconst 1, 1) := by decide +kernel
theorem dL_law_724 : decode cL_law 724 = .ok (.iadd, 1) := by decide +kernel
theorem dL_law_725 : decode cL_law 725 = .ok (.iaload, 1) := by decide +kernel
theorem dL_law_726 : decode cL_law 726 = .ok (.aload_n 0, 1) := by decide +kernel
theorem dL_law_727 : decode cL_law 727 = .ok (.iload_n 3, 1) := by decide +kernel
theorem dL_law_728 : decode cL_law 728 = .ok (.iconst 2, 1) := by decide +kernel
theorem dL_law_729 : decode cL_law 729 = .ok (.iadd, 1) := by decide +kernel
theorem dL_law_730 : decode cL_law 730 = .ok (.iaload, 1) := by decide +kernel
theorem dL_law_731 : decode cL_law 731 = .ok (.invokevirtual 103, 3) := by decide +kernel
theorem dL_law_734 : decode cL_law 734 = .ok (.if_icmp .eq 308, 3) := by decide +kernel
theorem dL_law_737 : decode cL_law 737 = .ok (.iconst 0, 1) := by decide +kernel
theorem dL_law_738 : decode cL_law 738 = .ok (.ireturn, 1) := by decide +kernel
theorem dL_law_739 : decode cL_law 739 = .ok (.aload_n 1, 1) := by decide +kernel
theorem dL_law_740 : decode cL_law 740 = .ok (.aload_n 0, 1) := by decide +kernel
theorem dL_law_741 : decode cL_law 741 = .ok (.iload_n 3, 1) := by decide +kernel
theorem dL_law_742 : decode cL_law 742 = .ok (.iconst 1, 1) := by decide +kernel
theorem dL_law_743 : decode cL_law 743 = .ok (.iadd, 1) := by decide +kernel
theorem dL_law_744 : decode cL_law 744 = .ok (.iaload, 1) := by decide +kernel
theorem dL_law_745 : decode cL_law 745 = .ok (.aload_n 0, 1) := by decide +kernel
theorem dL_law_746 : decode cL_law 746 = .ok (.iload_n 3, 1) := by decide +kernel
theorem dL_law_747 : decode cL_law 747 = .ok (.iconst 2, 1) := by decide +kernel
theorem dL_law_748 : decode cL_law 748 = .ok (.iadd, 1) := by decide +kernel
theorem dL_law_749 : decode cL_law 749 = .ok (.iaload, 1) := by decide +kernel
theorem dL_law_750 : decode cL_law 750 = .ok (.aload_n 0, 1) := by decide +kernel
theorem dL_law_751 : decode cL_law 751 = .ok (.iload_n 3, 1) := by decide +kernel
theorem dL_law_752 : decode cL_law 752 = .ok (.iconst 3, 1) := by decide +kernel
theorem dL_law_753 : decode cL_law 753 = .ok (.iadd, 1) := by decide +kernel
theorem dL_law_754 : decode cL_law 754 = .ok (.iaload, 1) := by decide +kernel
theorem dL_law_755 : decode cL_law 755 = .ok (.invokevirtual 104, 3) := by decide +kernel
theorem dL_law_758 : decode cL_law 758 = .ok (.aload_n 2, 1) := by decide +kernel
theorem dL_law_759 : decode cL_law 759 = .ok (.aload_n 0, 1) := by decide +kernel
theorem dL_law_760 : decode cL_law 760 = .ok (.iload_n 3, 1) := by decide +kernel
theorem dL_law_761 : decode cL_law 761 = .ok (.iconst 1, 1) := by decide +kernel
theorem dL_law_762 : decode cL_law 762 = .ok (.iadd, 1) := by decide +kernel
theorem dL_law_763 : decode cL_law 763 = .ok (.iaload, 1) := by decide +kernel
theorem dL_law_764 : decode cL_law 764 = .ok (.aload_n 0, 1) := by decide +kernel
theorem dL_law_765 : decode cL_law 765 = .ok (.iload_n 3, 1) := by decide +kernel
theorem dL_law_766 : decode cL_law 766 = .ok (.iconst 2, 1) := by decide +kernel
theorem dL_law_767 : decode cL_law 767 = .ok (.iadd, 1) := by decide +kernel
theorem dL_law_768 : decode cL_law 768 = .ok (.iaload, 1) := by decide +kernel
theorem dL_law_769 : decode cL_law 769 = .ok (.aload_n 0, 1) := by decide +kernel
theorem dL_law_770 : decode cL_law 770 = .ok (.iload_n 3, 1) := by decide +kernel
theorem dL_law_771 : decode cL_law 771 = .ok (.iconst 3, 1) := by decide +kernel
theorem dL_law_772 : decode cL_law 772 = .ok (.iadd, 1) := by decide +kernel
theorem dL_law_773 : decode cL_law 773 = .ok (.iaload, 1) := by decide +kernel
theorem dL_law_774 : decode cL_law 774 = .ok (.invokevirtual 107, 3) := by decide +kernel
theorem dL_law_777 : decode cL_law 777 = .ok (.if_icmp .eq 265, 3) := by decide +kernel
theorem dL_law_780 : decode cL_law 780 = .ok (.iconst 0, 1) := by decide +kernel
theorem dL_law_781 : decode cL_law 781 = .ok (.ireturn, 1) := by decide +kernel
theorem dL_law_782 : decode cL_law 782 = .ok (.aload_n 1, 1) := by decide +kernel
theorem dL_law_783 : decode cL_law 783 = .ok (.aload_n 0, 1) := by decide +kernel
theorem dL_law_784 : decode cL_law 784 = .ok (.iload_n 3, 1) := by decide +kernel
theorem dL_law_785 : decode cL_law 785 = .ok (.iconst 1, 1) := by decide +kernel
theorem dL_law_786 : decode cL_law 786 = .ok (.iadd, 1) := by decide +kernel
theorem dL_law_787 : decode cL_law 787 = .ok (.iaload, 1) := by decide +kernel
theorem dL_law_788 : decode cL_law 788 = .ok (.aload_n 0, 1) := by decide +kernel
theorem dL_law_789 : decode cL_law 789 = .ok (.iload_n 3, 1) := by decide +kernel
theorem dL_law_790 : decode cL_law 790 = .ok (.iconst 2, 1) := by decide +kernel
theorem dL_law_791 : decode cL_law 791 = .ok (.iadd, 1) := by decide +kernel
theorem dL_law_792 : decode cL_law 792 = .ok (.iaload, 1) := by decide +kernel
theorem dL_law_793 : decode cL_law 793 = .ok (.aload_n 0, 1) := by decide +kernel
theorem dL_law_794 : decode cL_law 794 = .ok (.iload_n 3, 1) := by decide +kernel
theorem dL_law_795 : decode cL_law 795 = .ok (.iconst 3, 1) := by decide +kernel
theorem dL_law_796 : decode cL_law 796 = .ok (.iadd, 1) := by decide +kernel
theorem dL_law_797 : decode cL_law 797 = .ok (.iaload, 1) := by decide +kernel
theorem dL_law_798 : decode cL_law 798 = .ok (.aload_n 0, 1) := by decide +kernel
theorem dL_law_799 : decode cL_law 799 = .ok (.iload_n 3, 1) := by decide +kernel
theorem dL_law_800 : decode cL_law 800 = .ok (.iconst 4, 1) := by decide +kernel
theorem dL_law_801 : decode cL_law 801 = .ok (.iadd, 1) := by decide +kernel
theorem dL_law_802 : decode cL_law 802 = .ok (.iaload, 1) := by decide +kernel
theorem dL_law_803 : decode cL_law 803 = .ok (.invokevirtual 108, 3) := by decide +kernel
theorem dL_law_806 : decode cL_law 806 = .ok (.aload_n 2, 1) := by decide +kernel
theorem dL_law_807 : decode cL_law 807 = .ok (.aload_n 0, 1) := by decide +kernel
theorem dL_law_808 : decode cL_law 808 = .ok (.iload_n 3, 1) := by decide +kernel
theorem dL_law_809 : decode cL_law 809 = .ok (.iconst 1, 1) := by decide +kernel
theorem dL_law_810 : decode cL_law 810 = .ok (.iadd, 1) := by decide +kernel
theorem dL_law_811 : decode cL_law 811 = .ok (.iaload, 1) := by decide +kernel
theorem dL_law_812 : decode cL_law 812 = .ok (.aload_n 0, 1) := by decide +kernel
theorem dL_law_813 : decode cL_law 813 = .ok (.iload_n 3, 1) := by decide +kernel
theorem dL_law_814 : decode cL_law 814 = .ok (.iconst 2, 1) := by decide +kernel
theorem dL_law_815 : decode cL_law 815 = .ok (.iadd, 1) := by decide +kernel
theorem dL_law_816 : decode cL_law 816 = .ok (.iaload, 1) := by decide +kernel
theorem dL_law_817 : decode cL_law 817 = .ok (.aload_n 0, 1) := by decide +kernel
theorem dL_law_818 : decode cL_law 818 = .ok (.iload_n 3, 1) := by decide +kernel
theorem dL_law_819 : decode cL_law 819 = .ok (.iconst 3, 1) := by decide +kernel
theorem dL_law_820 : decode cL_law 820 = .ok (.iadd, 1) := by decide +kernel
theorem dL_law_821 : decode cL_law 821 = .ok (.iaload, 1) := by decide +kernel
theorem dL_law_822 : decode cL_law 822 = .ok (.aload_n 0, 1) := by decide +kernel
theorem dL_law_823 : decode cL_law 823 = .ok (.iload_n 3, 1) := by decide +kernel
theorem dL_law_824 : decode cL_law 824 = .ok (.iconst 4, 1) := by decide +kernel
theorem dL_law_825 : decode cL_law 825 = .ok (.iadd, 1) := by decide +kernel
theorem dL_law_826 : decode cL_law 826 = .ok (.iaload, 1) := by decide +kernel
theorem dL_law_827 : decode cL_law 827 = .ok (.invokevirtual 112, 3) := by decide +kernel
theorem dL_law_830 : decode cL_law 830 = .ok (.if_icmp .eq 212, 3) := by decide +kernel
theorem dL_law_833 : decode cL_law 833 = .ok (.iconst 0, 1) := by decide +kernel
theorem dL_law_834 : decode cL_law 834 = .ok (.ireturn, 1) := by decide +kernel
theorem dL_law_835 : decode cL_law 835 = .ok (.aload_n 1, 1) := by decide +kernel
theorem dL_law_836 : decode cL_law 836 = .ok (.invokevirtual 113, 3) := by decide +kernel
theorem dL_law_839 : decode cL_law 839 = .ok (.aload_n 2, 1) := by decide +kernel
theorem dL_law_840 : decode cL_law 840 = .ok (.invokevirtual 116, 3) := by decide +kernel
theorem dL_law_843 : decode cL_law 843 = .ok (.if_icmp .eq 199, 3) := by decide +kernel
theorem dL_law_846 : decode cL_law 846 = .ok (.iconst 0, 1) := by decide +kernel
theorem dL_law_847 : decode cL_law 847 = .ok (.ireturn, 1) := by decide +kernel
theorem dL_law_848 : decode cL_law 848 = .ok (.aload_n 1, 1) := by decide +kernel
theorem dL_law_849 : decode cL_law 849 = .ok (.aload_n 0, 1) := by decide +kernel
theorem dL_law_850 : decode cL_law 850 = .ok (.iload_n 3, 1) := by decide +kernel
theorem dL_law_851 : decode cL_law 851 = .ok (.iconst 1, 1) := by decide +kernel
theorem dL_law_852 : decode cL_law 852 = .ok (.iadd, 1) := by decide +kernel
theorem dL_law_853 : decode cL_law 853 = .ok (.iaload, 1) := by decide +kernel
theorem dL_law_854 : decode cL_law 854 = .ok (.invokevirtual 117, 3) := by decide +kernel
theorem dL_law_857 : decode cL_law 857 = .ok (.aload_n 2, 1) := by decide +kernel
theorem dL_law_858 : decode cL_law 858 = .ok (.aload_n 0, 1) := by decide +kernel
theorem dL_law_859 : decode cL_law 859 = .ok (.iload_n 3, 1) := by decide +kernel
theorem dL_law_860 : decode cL_law 860 = .ok (.iconst 1, 1) := by decide +kernel
theorem dL_law_861 : decode cL_law 861 = .ok (.iadd, 1) := by decide +kernel
theorem dL_law_862 : decode cL_law 862 = .ok (.iaload, 1) := by decide +kernel
theorem dL_law_863 : decode cL_law 863 = .ok (.invokevirtual 120, 3) := by decide +kernel
theorem dL_law_866 : decode cL_law 866 = .ok (.if_icmp .eq 176, 3) := by decide +kernel
theorem dL_law_869 : decode cL_law 869 = .ok (.iconst 0, 1) := by decide +kernel
theorem dL_law_870 : decode cL_law 870 = .ok (.ireturn, 1) := by decide +kernel
theorem dL_law_871 : decode cL_law 871 = .ok (.aload_n 1, 1) := by decide +kernel
theorem dL_law_872 : decode cL_law 872 = .ok (.aload_n 0, 1) := by decide +kernel
theorem dL_law_873 : decode cL_law 873 = .ok (.iload_n 3, 1) := by decide +kernel
theorem dL_law_874 : decode cL_law 874 = .ok (.iconst 1, 1) := by decide +kernel
theorem dL_law_875 : decode cL_law 875 = .ok (.iadd, 1) := by decide +kernel
theorem dL_law_876 : decode cL_law 876 = .ok (.iaload, 1) := by decide +kernel
theorem dL_law_877 : decode cL_law 877 = .ok (.aload_n 0, 1) := by decide +kernel
theorem dL_law_878 : decode cL_law 878 = .ok (.iload_n 3, 1) := by decide +kernel
theorem dL_law_879 : decode cL_law 879 = .ok (.iconst 2, 1) := by decide +kernel
theorem dL_law_880 : decode cL_law 880 = .ok (.iadd, 1) := by decide +kernel
theorem dL_law_881 : decode cL_law 881 = .ok (.iaload, 1) := by decide +kernel
theorem dL_law_882 : decode cL_law 882 = .ok (.aload_n 0, 1) := by decide +kernel
theorem dL_law_883 : decode cL_law 883 = .ok (.iload_n 3, 1) := by decide +kernel
theorem dL_law_884 : decode cL_law 884 = .ok (.iconst 3, 1) := by decide +kernel
theorem dL_law_885 : decode cL_law 885 = .ok (.iadd, 1) := by decide +kernel
theorem dL_law_886 : decode cL_law 886 = .ok (.iaload, 1) := by decide +kernel
theorem dL_law_887 : decode cL_law 887 = .ok (.invokevirtual 121, 3) := by decide +kernel
theorem dL_law_890 : decode cL_law 890 = .ok (.aload_n 2, 1) := by decide +kernel
theorem dL_law_891 : decode cL_law 891 = .ok (.aload_n 0, 1) := by decide +kernel
theorem dL_law_892 : decode cL_law 892 = .ok (.iload_n 3, 1) := by decide +kernel
theorem dL_law_893 : decode cL_law 893 = .ok (.iconst 1, 1) := by decide +kernel
theorem dL_law_894 : decode cL_law 894 = .ok (.iadd, 1) := by decide +kernel
theorem dL_law_895 : decode cL_law 895 = .ok (.iaload, 1) := by decide +kernel
theorem dL_law_896 : decode cL_law 896 = .ok (.aload_n 0, 1) := by decide +kernel
theorem dL_law_897 : decode cL_law 897 = .ok (.iload_n 3, 1) := by decide +kernel
theorem dL_law_898 : decode cL_law 898 = .ok (.iconst 2, 1) := by decide +kernel
theorem dL_law_899 : decode cL_law 899 = .ok (.iadd, 1) := by decide +kernel
theorem dL_law_900 : decode cL_law 900 = .ok (.iaload, 1) := by decide +kernel
theorem dL_law_901 : decode cL_law 901 = .ok (.aload_n 0, 1) := by decide +kernel
theorem dL_law_902 : decode cL_law 902 = .ok (.iload_n 3, 1) := by decide +kernel
theorem dL_law_903 : decode cL_law 903 = .ok (.iconst 3, 1) := by decide +kernel
theorem dL_law_904 : decode cL_law 904 = .ok (.iadd, 1) := by decide +kernel
theorem dL_law_905 : decode cL_law 905 = .ok (.iaload, 1) := by decide +kernel
theorem dL_law_906 : decode cL_law 906 = .ok (.invokevirtual 124, 3) := by decide +kernel
theorem dL_law_909 : decode cL_law 909 = .ok (.if_icmp .eq 133, 3) := by decide +kernel
theorem dL_law_912 : decode cL_law 912 = .ok (.iconst 0, 1) := by decide +kernel
theorem dL_law_913 : decode cL_law 913 = .ok (.ireturn, 1) := by decide +kernel
theorem dL_law_914 : decode cL_law 914 = .ok (.aload_n 1, 1) := by decide +kernel
theorem dL_law_915 : decode cL_law 915 = .ok (.invokevirtual 125, 3) := by decide +kernel
theorem dL_law_918 : decode cL_law 918 = .ok (.aload_n 2, 1) := by decide +kernel
theorem dL_law_919 : decode cL_law 919 = .ok (.invokevirtual 128, 3) := by decide +kernel
theorem dL_law_922 : decode cL_law 922 = .ok (.if_icmp .eq 120, 3) := by decide +kernel
theorem dL_law_925 : decode cL_law 925 = .ok (.iconst 0, 1) := by decide +kernel
theorem dL_law_926 : decode cL_law 926 = .ok (.ireturn, 1) := by decide +kernel
theorem dL_law_927 : decode cL_law 927 = .ok (.aload_n 1, 1) := by decide +kernel
theorem dL_law_928 : decode cL_law 928 = .ok (.invokevirtual 129, 3) := by decide +kernel
theorem dL_law_931 : decode cL_law 931 = .ok (.aload_n 2, 1) := by decide +kernel
theorem dL_law_932 : decode cL_law 932 = .ok (.invokevirtual 132, 3) := by decide +kernel
theorem dL_law_935 : decode cL_law 935 = .ok (.if_icmp .eq 107, 3) := by decide +kernel
theorem dL_law_938 : decode cL_law 938 = .ok (.iconst 0, 1) := by decide +kernel
theorem dL_law_939 : decode cL_law 939 = .ok (.ireturn, 1) := by decide +kernel
theorem dL_law_940 : decode cL_law 940 = .ok (.aload_n 1, 1) := by decide +kernel
theorem dL_law_941 : decode cL_law 941 = .ok (.aload_n 0, 1) := by decide +kernel
theorem dL_law_942 : decode cL_law 942 = .ok (.iload_n 3, 1) := by decide +kernel
theorem dL_law_943 : decode cL_law 943 = .ok (.iconst 1, 1) := by decide +kernel
theorem dL_law_944 : decode cL_law 944 = .ok (.iadd, 1) := by decide +kernel
theorem dL_law_945 : decode cL_law 945 = .ok (.iaload, 1) := by decide +kernel
theorem dL_law_946 : decode cL_law 946 = .ok (.aload_n 0, 1) := by decide +kernel
theorem dL_law_947 : decode cL_law 947 = .ok (.iload_n 3, 1) := by decide +kernel
theorem dL_law_948 : decode cL_law 948 = .ok (.iconst 2, 1) := by decide +kernel
theorem dL_law_949 : decode cL_law 949 = .ok (.iadd, 1) := by decide +kernel
theorem dL_law_950 : decode cL_law 950 = .ok (.iaload, 1) := by decide +kernel
theorem dL_law_951 : decode cL_law 951 = .ok (.invokevirtual 133, 3) := by decide +kernel
theorem dL_law_954 : decode cL_law 954 = .ok (.aload_n 2, 1) := by decide +kernel
theorem dL_law_955 : decode cL_law 955 = .ok (.aload_n 0, 1) := by decide +kernel
theorem dL_law_956 : decode cL_law 956 = .ok (.iload_n 3, 1) := by decide +kernel
theorem dL_law_957 : decode cL_law 957 = .ok (.iconst 1, 1) := by decide +kernel
theorem dL_law_958 : decode cL_law 958 = .ok (.iadd, 1) := by decide +kernel
theorem dL_law_959 : decode cL_law 959 = .ok (.iaload, 1) := by decide +kernel
theorem dL_law_960 : decode cL_law 960 = .ok (.aload_n 0, 1) := by decide +kernel
theorem dL_law_961 : decode cL_law 961 = .ok (.iload_n 3, 1) := by decide +kernel
theorem dL_law_962 : decode cL_law 962 = .ok (.iconst 2, 1) := by decide +kernel
theorem dL_law_963 : decode cL_law 963 = .ok (.iadd, 1) := by decide +kernel
theorem dL_law_964 : decode cL_law 964 = .ok (.iaload, 1) := by decide +kernel
theorem dL_law_965 : decode cL_law 965 = .ok (.invokevirtual 136, 3) := by decide +kernel
theorem dL_law_968 : decode cL_law 968 = .ok (.if_icmp .eq 74, 3) := by decide +kernel
theorem dL_law_971 : decode cL_law 971 = .ok (.iconst 0, 1) := by decide +kernel
theorem dL_law_972 : decode cL_law 972 = .ok (.ireturn, 1) := by decide +kernel
theorem dL_law_973 : decode cL_law 973 = .ok (.aload_n 1, 1) := by decide +kernel
theorem dL_law_974 : decode cL_law 974 = .ok (.aload_n 0, 1) := by decide +kernel
theorem dL_law_975 : decode cL_law 975 = .ok (.iload_n 3, 1) := by decide +kernel
theorem dL_law_976 : decode cL_law 976 = .ok (.iconst 1, 1) := by decide +kernel
theorem dL_law_977 : decode cL_law 977 = .ok (.iadd, 1) := by decide +kernel
theorem dL_law_978 : decode cL_law 978 = .ok (.iaload, 1) := by decide +kernel
theorem dL_law_979 : decode cL_law 979 = .ok (.invokevirtual 137, 3) := by decide +kernel
theorem dL_law_982 : decode cL_law 982 = .ok (.aload_n 2, 1) := by decide +kernel
theorem dL_law_983 : decode cL_law 983 = .ok (.aload_n 0, 1) := by decide +kernel
theorem dL_law_984 : decode cL_law 984 = .ok (.iload_n 3, 1) := by decide +kernel
theorem dL_law_985 : decode cL_law 985 = .ok (.iconst 1, 1) := by decide +kernel
theorem dL_law_986 : decode cL_law 986 = .ok (.iadd, 1) := by decide +kernel
theorem dL_law_987 : decode cL_law 987 = .ok (.iaload, 1) := by decide +kernel
theorem dL_law_988 : decode cL_law 988 = .ok (.invokevirtual 140, 3) := by decide +kernel
theorem dL_law_991 : decode cL_law 991 = .ok (.if_icmp .eq 51, 3) := by decide +kernel
theorem dL_law_994 : decode cL_law 994 = .ok (.iconst 0, 1) := by decide +kernel
theorem dL_law_995 : decode cL_law 995 = .ok (.ireturn, 1) := by decide +kernel
theorem dL_law_996 : decode cL_law 996 = .ok (.aload_n 1, 1) := by decide +kernel
theorem dL_law_997 : decode cL_law 997 = .ok (.aload_n 0, 1) := by decide +kernel
theorem dL_law_998 : decode cL_law 998 = .ok (.iload_n 3, 1) := by decide +kernel
theorem dL_law_999 : decode cL_law 999 = .ok (.iconst 1, 1) := by decide +kernel
theorem dL_law_1000 : decode cL_law 1000 = .ok (.iadd, 1) := by decide +kernel
theorem dL_law_1001 : decode cL_law 1001 = .ok (.iaload, 1) := by decide +kernel
theorem dL_law_1002 : decode cL_law 1002 = .ok (.invokevirtual 141, 3) := by decide +kernel
theorem dL_law_1005 : decode cL_law 1005 = .ok (.aload_n 2, 1) := by decide +kernel
theorem dL_law_1006 : decode cL_law 1006 = .ok (.aload_n 0, 1) := by decide +kernel
theorem dL_law_1007 : decode cL_law 1007 = .ok (.iload_n 3, 1) := by decide +kernel
theorem dL_law_1008 : decode cL_law 1008 = .ok (.iconst 1, 1) := by decide +kernel
theorem dL_law_1009 : decode cL_law 1009 = .ok (.iadd, 1) := by decide +kernel
theorem dL_law_1010 : decode cL_law 1010 = .ok (.iaload, 1) := by decide +kernel
theorem dL_law_1011 : decode cL_law 1011 = .ok (.invokevirtual 144, 3) := by decide +kernel
theorem dL_law_1014 : decode cL_law 1014 = .ok (.if_icmp .eq 28, 3) := by decide +kernel
theorem dL_law_1017 : decode cL_law 1017 = .ok (.iconst 0, 1) := by decide +kernel
theorem dL_law_1018 : decode cL_law 1018 = .ok (.ireturn, 1) := by decide +kernel
theorem dL_law_1019 : decode cL_law 1019 = .ok (.aload_n 1, 1) := by decide +kernel
theorem dL_law_1020 : decode cL_law 1020 = .ok (.aload_n 0, 1) := by decide +kernel
theorem dL_law_1021 : decode cL_law 1021 = .ok (.iload_n 3, 1) := by decide +kernel
theorem dL_law_1022 : decode cL_law 1022 = .ok (.iconst 1, 1) := by decide +kernel
theorem dL_law_1023 : decode cL_law 1023 = .ok (.iadd, 1) := by decide +kernel
theorem dL_law_1024 : decode cL_law 1024 = .ok (.iaload, 1) := by decide +kernel
theorem dL_law_1025 : decode cL_law 1025 = .ok (.invokevirtual 145, 3) := by decide +kernel
theorem dL_law_1028 : decode cL_law 1028 = .ok (.aload_n 2, 1) := by decide +kernel
theorem dL_law_1029 : decode cL_law 1029 = .ok (.aload_n 0, 1) := by decide +kernel
theorem dL_law_1030 : decode cL_law 1030 = .ok (.iload_n 3, 1) := by decide +kernel
theorem dL_law_1031 : decode cL_law 1031 = .ok (.iconst 1, 1) := by decide +kernel
theorem dL_law_1032 : decode cL_law 1032 = .ok (.iadd, 1) := by decide +kernel
theorem dL_law_1033 : decode cL_law 1033 = .ok (.iaload, 1) := by decide +kernel
theorem dL_law_1034 : decode cL_law 1034 = .ok (.invokevirtual 148, 3) := by decide +kernel
theorem dL_law_1037 : decode cL_law 1037 = .ok (.if_icmp .eq 5, 3) := by decide +kernel
theorem dL_law_1040 : decode cL_law 1040 = .ok (.iconst 0, 1) := by decide +kernel
theorem dL_law_1041 : decode cL_law 1041 = .ok (.ireturn, 1) := by decide +kernel
theorem dL_law_1042 : decode cL_law 1042 = .ok (.iinc 3 5, 3) := by decide +kernel
theorem dL_law_1045 : decode cL_law 1045 = .ok (.goto (-1027), 3) := by decide +kernel
theorem dL_law_1048 : decode cL_law 1048 = .ok (.iconst 1, 1) := by decide +kernel
theorem dL_law_1049 : decode cL_law 1049 = .ok (.ireturn, 1) := by decide +kernel
