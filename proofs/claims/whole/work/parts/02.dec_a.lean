theorem dX0_init_0 : decode cX0_init 0 = .ok (.aload_n 0, 1) := by decide +kernel
theorem dX0_init_1 : decode cX0_init 1 = .ok (.invokespecial 3, 3) := by decide +kernel
theorem dX0_init_4 : decode cX0_init 4 = .ok (.aload_n 0, 1) := by decide +kernel
theorem dX0_init_5 : decode cX0_init 5 = .ok (.bipush 35, 2) := by decide +kernel
theorem dX0_init_7 : decode cX0_init 7 = .ok (.newarray .int, 2) := by decide +kernel
theorem dX0_init_9 : decode cX0_init 9 = .ok (.putfield 9, 3) := by decide +kernel
theorem dX0_init_12 : decode cX0_init 12 = .ok (.aload_n 0, 1) := by decide +kernel
theorem dX0_init_13 : decode cX0_init 13 = .ok (.bipush 7, 2) := by decide +kernel
theorem dX0_init_15 : decode cX0_init 15 = .ok (.newarray .int, 2) := by decide +kernel
theorem dX0_init_17 : decode cX0_init 17 = .ok (.putfield 15, 3) := by decide +kernel
theorem dX0_init_20 : decode cX0_init 20 = .ok (.aload_n 0, 1) := by decide +kernel
theorem dX0_init_21 : decode cX0_init 21 = .ok (.iconst 5, 1) := by decide +kernel
theorem dX0_init_22 : decode cX0_init 22 = .ok (.newarray .int, 2) := by decide +kernel
theorem dX0_init_24 : decode cX0_init 24 = .ok (.putfield 18, 3) := by decide +kernel
theorem dX0_init_27 : decode cX0_init 27 = .ok (.aload_n 0, 1) := by decide +kernel
theorem dX0_init_28 : decode cX0_init 28 = .ok (.bipush 8, 2) := by decide +kernel
theorem dX0_init_30 : decode cX0_init 30 = .ok (.newarray .int, 2) := by decide +kernel
theorem dX0_init_32 : decode cX0_init 32 = .ok (.putfield 21, 3) := by decide +kernel
theorem dX0_init_35 : decode cX0_init 35 = .ok (.aload_n 0, 1) := by decide +kernel
theorem dX0_init_36 : decode cX0_init 36 = .ok (.bipush 7, 2) := by decide +kernel
theorem dX0_init_38 : decode cX0_init 38 = .ok (.newarray .int, 2) := by decide +kernel
theorem dX0_init_40 : decode cX0_init 40 = .ok (.putfield 24, 3) := by decide +kernel
theorem dX0_init_43 : decode cX0_init 43 = .ok (.aload_n 0, 1) := by decide +kernel
theorem dX0_init_44 : decode cX0_init 44 = .ok (.bipush 7, 2) := by decide +kernel
theorem dX0_init_46 : decode cX0_init 46 = .ok (.newarray .int, 2) := by decide +kernel
theorem dX0_init_48 : decode cX0_init 48 = .ok (.putfield 27, 3) := by decide +kernel
theorem dX0_init_51 : decode cX0_init 51 = .ok (.return_, 1) := by decide +kernel
theorem dX0_seek_0 : decode cX0_seek 0 = .ok (.aload_n 0, 1) := by decide +kernel
theorem dX0_seek_1 : decode cX0_seek 1 = .ok (.aload_n 1, 1) := by decide +kernel
theorem dX0_seek_2 : decode cX0_seek 2 = .ok (.getfield 30, 3) := by decide +kernel
theorem dX0_seek_5 : decode cX0_seek 5 = .ok (.bipush 7, 2) := by decide +kernel
theorem dX0_seek_7 : decode cX0_seek 7 = .ok (.invokestatic 36, 3) := by decide +kernel
theorem dX0_seek_10 : decode cX0_seek 10 = .ok (.putfield 42, 3) := by decide +kernel
theorem dX0_seek_13 : decode cX0_seek 13 = .ok (.aload_n 0, 1) := by decide +kernel
theorem dX0_seek_14 : decode cX0_seek 14 = .ok (.aload_n 1, 1) := by decide +kernel
theorem dX0_seek_15 : decode cX0_seek 15 = .ok (.getfield 43, 3) := by decide +kernel
theorem dX0_seek_18 : decode cX0_seek 18 = .ok (.putfield 46, 3) := by decide +kernel
theorem dX0_seek_21 : decode cX0_seek 21 = .ok (.iconst 0, 1) := by decide +kernel
theorem dX0_seek_22 : decode cX0_seek 22 = .ok (.istore_n 2, 1) := by decide +kernel
theorem dX0_seek_23 : decode cX0_seek 23 = .ok (.iload_n 2, 1) := by decide +kernel
theorem dX0_seek_24 : decode cX0_seek 24 = .ok (.aload_n 0, 1) := by decide +kernel
theorem dX0_seek_25 : decode cX0_seek 25 = .ok (.getfield 46, 3) := by decide +kernel
theorem dX0_seek_28 : decode cX0_seek 28 = .ok (.if_icmp .ge 21, 3) := by decide +kernel
theorem dX0_seek_31 : decode cX0_seek 31 = .ok (.aload_n 0, 1) := by decide +kernel
theorem dX0_seek_32 : decode cX0_seek 32 = .ok (.getfield 18, 3) := by decide +kernel
theorem dX0_seek_35 : decode cX0_seek 35 = .ok (.iload_n 2, 1) := by decide +kernel
theorem dX0_seek_36 : decode cX0_seek 36 = .ok (.aload_n 1, 1) := by decide +kernel
theorem dX0_seek_37 : decode cX0_seek 37 = .ok (.getfield 47, 3) := by decide +kernel
theorem dX0_seek_40 : decode cX0_seek 40 = .ok (.iload_n 2, 1) := by decide +kernel
theorem dX0_seek_41 : decode cX0_seek 41 = .ok (.iaload, 1) := by decide +kernel
theorem dX0_seek_42 : decode cX0_seek 42 = .ok (.iastore, 1) := by decide +kernel
theorem dX0_seek_43 : decode cX0_seek 43 = .ok (.iinc 2 1, 3) := by decide +kernel
theorem dX0_seek_46 : decode cX0_seek 46 = .ok (.goto (-23), 3) := by decide +kernel
theorem dX0_seek_49 : decode cX0_seek 49 = .ok (.aload_n 0, 1) := by decide +kernel
theorem dX0_seek_50 : decode cX0_seek 50 = .ok (.getfield 21, 3) := by decide +kernel
theorem dX0_seek_53 : decode cX0_seek 53 = .ok (.aload_n 0, 1) := by decide +kernel
theorem dX0_seek_54 : decode cX0_seek 54 = .ok (.getfield 42, 3) := by decide +kernel
theorem dX0_seek_57 : decode cX0_seek 57 = .ok (.iconst 0, 1) := by decide +kernel
theorem dX0_seek_58 : decode cX0_seek 58 = .ok (.iastore, 1) := by decide +kernel
theorem dX0_seek_59 : decode cX0_seek 59 = .ok (.aload_n 0, 1) := by decide +kernel
theorem dX0_seek_60 : decode cX0_seek 60 = .ok (.getfield 42, 3) := by decide +kernel
theorem dX0_seek_63 : decode cX0_seek 63 = .ok (.iconst 1, 1) := by decide +kernel
theorem dX0_seek_64 : decode cX0_seek 64 = .ok (.isub, 1) := by decide +kernel
theorem dX0_seek_65 : decode cX0_seek 65 = .ok (.istore_n 2, 1) := by decide +kernel
theorem dX0_seek_66 : decode cX0_seek 66 = .ok (.iload_n 2, 1) := by decide +kernel
theorem dX0_seek_67 : decode cX0_seek 67 = .ok (.ifCond .lt 47, 3) := by decide +kernel
theorem dX0_seek_70 : decode cX0_seek 70 = .ok (.aload_n 0, 1) := by decide +kernel
theorem dX0_seek_71 : decode cX0_seek 71 = .ok (.getfield 15, 3) := by decide +kernel
theorem dX0_seek_74 : decode cX0_seek 74 = .ok (.iload_n 2, 1) := by decide +kernel
theorem dX0_seek_75 : decode cX0_seek 75 = .ok (.aload_n 1, 1) := by decide +kernel
theorem dX0_seek_76 : decode cX0_seek 76 = .ok (.getfield 50, 3) := by decide +kernel
theorem dX0_seek_79 : decode cX0_seek 79 = .ok (.iload_n 2, 1) := by decide +kernel
theorem dX0_seek_80 : decode cX0_seek 80 = .ok (.iaload, 1) := by decide +kernel
theorem dX0_seek_81 : decode cX0_seek 81 = .ok (.iastore, 1) := by decide +kernel
theorem dX0_seek_82 : decode cX0_seek 82 = .ok (.aload_n 0, 1) := by decide +kernel
theorem dX0_seek_83 : decode cX0_seek 83 = .ok (.getfield 21, 3) := by decide +kernel
theorem dX0_seek_86 : decode cX0_seek 86 = .ok (.iload_n 2, 1) := by decide +kernel
theorem dX0_seek_87 : decode cX0_seek 87 = .ok (.ldc 51, 2) := by decide +kernel
theorem dX0_seek_89 : decode cX0_seek 89 = .ok (.aload_n 0, 1) := by decide +kernel
theorem dX0_seek_90 : decode cX0_seek 90 = .ok (.getfield 21, 3) := by decide +kernel
theorem dX0_seek_93 : decode cX0_seek 93 = .ok (.iload_n 2, 1) := by decide +kernel
theorem dX0_seek_94 : decode cX0_seek 94 = .ok (.iconst 1, 1) := by decide +kernel
theorem dX0_seek_95 : decode cX0_seek 95 = .ok (.iadd, 1) := by decide +kernel
theorem dX0_seek_96 : decode cX0_seek 96 = .ok (.iaload, 1) := by decide +kernel
theorem dX0_seek_97 : decode cX0_seek 97 = .ok (.aload_n 0, 1) := by decide +kernel
theorem dX0_seek_98 : decode cX0_seek 98 = .ok (.aload_n 1, 1) := by decide +kernel
theorem dX0_seek_99 : decode cX0_seek 99 = .ok (.iload_n 2, 1) := by decide +kernel
theorem dX0_seek_100 : decode cX0_seek 100 = .ok (.invokevirtual 52, 3) := by decide +kernel
theorem dX0_seek_103 : decode cX0_seek 103 = .ok (.iadd, 1) := by decide +kernel
theorem dX0_seek_104 : decode cX0_seek 104 = .ok (.invokestatic 36, 3) := by decide +kernel
theorem dX0_seek_107 : decode cX0_seek 107 = .ok (.iastore, 1) := by decide +kernel
theorem dX0_seek_108 : decode cX0_seek 108 = .ok (.iinc 2 (-1), 3) := by decide +kernel
theorem dX0_seek_111 : decode cX0_seek 111 = .ok (.goto (-45), 3) := by decide +kernel
theorem dX0_seek_114 : decode cX0_seek 114 = .ok (.aload_n 0, 1) := by decide +kernel
theorem dX0_seek_115 : decode cX0_seek 115 = .ok (.ldc 51, 2) := by decide +kernel
theorem dX0_seek_117 : decode cX0_seek 117 = .ok (.putfield 56, 3) := by decide +kernel
theorem dX0_seek_120 : decode cX0_seek 120 = .ok (.aload_n 0, 1) := by decide +kernel
theorem dX0_seek_121 : decode cX0_seek 121 = .ok (.iconst 0, 1) := by decide +kernel
theorem dX0_seek_122 : decode cX0_seek 122 = .ok (.iconst 0, 1) := by decide +kernel
theorem dX0_seek_123 : decode cX0_seek 123 = .ok (.invokevirtual 59, 3) := by decide +kernel
theorem dX0_seek_126 : decode cX0_seek 126 = .ok (.return_, 1) := by decide +kernel
theorem dX0_loadHome_0 : decode cX0_loadHome 0 = .ok (.ldc 51, 2) := by decide +kernel
theorem dX0_loadHome_2 : decode cX0_loadHome 2 = .ok (.istore_n 3, 1) := by decide +kernel
theorem dX0_loadHome_3 : decode cX0_loadHome 3 = .ok (.iconst 0, 1) := by decide +kernel
theorem dX0_loadHome_4 : decode cX0_loadHome 4 = .ok (.istore 4, 2) := by decide +kernel
theorem dX0_loadHome_6 : decode cX0_loadHome 6 = .ok (.iload 4, 2) := by decide +kernel
theorem dX0_loadHome_8 : decode cX0_loadHome 8 = .ok (.aload_n 0, 1) := by decide +kernel
theorem dX0_loadHome_9 : decode cX0_loadHome 9 = .ok (.getfield 46, 3) := by decide +kernel
theorem dX0_loadHome_12 : decode cX0_loadHome 12 = .ok (.if_icmp .ge 75, 3) := by decide +kernel
theorem dX0_loadHome_15 : decode cX0_loadHome 15 = .ok (.aload_n 1, 1) := by decide +kernel
theorem dX0_loadHome_16 : decode cX0_loadHome 16 = .ok (.iload 4, 2) := by decide +kernel
theorem dX0_loadHome_18 : decode cX0_loadHome 18 = .ok (.aload_n 1, 1) := by decide +kernel
theorem dX0_loadHome_19 : decode cX0_loadHome 19 = .ok (.getfield 63, 3) := by decide +kernel
theorem dX0_loadHome_22 : decode cX0_loadHome 22 = .ok (.iload_n 2, 1) := by decide +kernel
theorem dX0_loadHome_23 : decode cX0_loadHome 23 = .ok (.iaload, 1) := by decide +kernel
theorem dX0_loadHome_24 : decode cX0_loadHome 24 = .ok (.aload_n 1, 1) := by decide +kernel
theorem dX0_loadHome_25 : decode cX0_loadHome 25 = .ok (.getfield 66, 3) := by decide +kernel
theorem dX0_loadHome_28 : decode cX0_loadHome 28 = .ok (.iload_n 2, 1) := by decide +kernel
theorem dX0_loadHome_29 : decode cX0_loadHome 29 = .ok (.iaload, 1) := by decide +kernel
theorem dX0_loadHome_30 : decode cX0_loadHome 30 = .ok (.invokevirtual 69, 3) := by decide +kernel
theorem dX0_loadHome_33 : decode cX0_loadHome 33 = .ok (.istore 5, 2) := by decide +kernel
theorem dX0_loadHome_35 : decode cX0_loadHome 35 = .ok (.aload_n 1, 1) := by decide +kernel
theorem dX0_loadHome_36 : decode cX0_loadHome 36 = .ok (.iload_n 2, 1) := by decide +kernel
theorem dX0_loadHome_37 : decode cX0_loadHome 37 = .ok (.iload 4, 2) := by decide +kernel
theorem dX0_loadHome_39 : decode cX0_loadHome 39 = .ok (.invokevirtual 73, 3) := by decide +kernel
theorem dX0_loadHome_42 : decode cX0_loadHome 42 = .ok (.ifCond .eq 8, 3) := by decide +kernel
theorem dX0_loadHome_45 : decode cX0_loadHome 45 = .ok (.ldc 51, 2) := by decide +kernel
theorem dX0_loadHome_47 : decode cX0_loadHome 47 = .ok (.goto 12, 3) := by decide +kernel
theorem dX0_loadHome_50 : decode cX0_loadHome 50 = .ok (.iload 5, 2) := by decide +kernel
theorem dX0_loadHome_52 : decode cX0_loadHome 52 = .ok (.aload_n 1, 1) := by decide +kernel
theorem dX0_loadHome_53 : decode cX0_loadHome 53 = .ok (.getfield 50, 3) := by decide +kernel
theorem dX0_loadHome_56 : decode cX0_loadHome 56 = .ok (.iload_n 2, 1) := by decide +kernel
theorem dX0_loadHome_57 : decode cX0_loadHome 57 = .ok (.iaload, 1) := by decide +kernel
theorem dX0_loadHome_58 : decode cX0_loadHome 58 = .ok (.imul, 1) := by decide +kernel
theorem dX0_loadHome_59 : decode cX0_loadHome 59 = .ok (.istore 6, 2) := by decide +kernel
theorem dX0_loadHome_61 : decode cX0_loadHome 61 = .ok (.aload_n 0, 1) := by decide +kernel
theorem dX0_loadHome_62 : decode cX0_loadHome 62 = .ok (.getfield 9, 3) := by decide +kernel
theorem dX0_loadHome_65 : decode cX0_loadHome 65 = .ok (.iload_n 2, 1) := by decide +kernel
theorem dX0_loadHome_66 : decode cX0_loadHome 66 = .ok (.iconst 5, 1) := by decide +kernel
theorem dX0_loadHome_67 : decode cX0_loadHome 67 = .ok (.imul, 1) := by decide +kernel
theorem dX0_loadHome_68 : decode cX0_loadHome 68 = .ok (.iload 4, 2) := by decide +kernel
theorem dX0_loadHome_70 : decode cX0_loadHome 70 = .ok (.iadd, 1) := by decide +kernel
theorem dX0_loadHome_71 : decode cX0_loadHome 71 = .ok (.iload 6, 2) := by decide +kernel
theorem dX0_loadHome_73 : decode cX0_loadHome 73 = .ok (.iastore, 1) := by decide +kernel
theorem dX0_loadHome_74 : decode cX0_loadHome 74 = .ok (.iload_n 3, 1) := by decide +kernel
theorem dX0_loadHome_75 : decode cX0_loadHome 75 = .ok (.iload 6, 2) := by decide +kernel
theorem dX0_loadHome_77 : decode cX0_loadHome 77 = .ok (.invokestatic 36, 3) := by decide +kernel
theorem dX0_loadHome_80 : decode cX0_loadHome 80 = .ok (.istore_n 3, 1) := by decide +kernel
theorem dX0_loadHome_81 : decode cX0_loadHome 81 = .ok (.iinc 4 1, 3) := by decide +kernel
theorem dX0_loadHome_84 : decode cX0_loadHome 84 = .ok (.goto (-78), 3) := by decide +kernel
theorem dX0_loadHome_87 : decode cX0_loadHome 87 = .ok (.iload_n 3, 1) := by decide +kernel
theorem dX0_loadHome_88 : decode cX0_loadHome 88 = .ok (.ireturn, 1) := by decide +kernel
theorem dX0_tryHome_0 : decode cX0_tryHome 0 = .ok (.iload_n 2, 1) := by decide +kernel
theorem dX0_tryHome_1 : decode cX0_tryHome 1 = .ok (.aload_n 0, 1) := by decide +kernel
theorem dX0_tryHome_2 : decode cX0_tryHome 2 = .ok (.getfield 21, 3) := by decide +kernel
theorem dX0_tryHome_5 : decode cX0_tryHome 5 = .ok (.iload_n 1, 1) := by decide +kernel
theorem dX0_tryHome_6 : decode cX0_tryHome 6 = .ok (.iaload, 1) := by decide +kernel
theorem dX0_tryHome_7 : decode cX0_tryHome 7 = .ok (.iadd, 1) := by decide +kernel
theorem dX0_tryHome_8 : decode cX0_tryHome 8 = .ok (.aload_n 0, 1) := by decide +kernel
theorem dX0_tryHome_9 : decode cX0_tryHome 9 = .ok (.getfield 56, 3) := by decide +kernel
theorem dX0_tryHome_12 : decode cX0_tryHome 12 = .ok (.if_icmp .lt 4, 3) := by decide +kernel
theorem dX0_tryHome_15 : decode cX0_tryHome 15 = .ok (.return_, 1) := by decide +kernel
theorem dX0_tryHome_16 : decode cX0_tryHome 16 = .ok (.iload_n 1, 1) := by decide +kernel
theorem dX0_tryHome_17 : decode cX0_tryHome 17 = .ok (.aload_n 0, 1) := by decide +kernel
theorem dX0_tryHome_18 : decode cX0_tryHome 18 = .ok (.getfield 42, 3) := by decide +kernel
theorem dX0_tryHome_21 : decode cX0_tryHome 21 = .ok (.if_icmp .lt 9, 3) := by decide +kernel
theorem dX0_tryHome_24 : decode cX0_tryHome 24 = .ok (.aload_n 0, 1) := by decide +kernel
theorem dX0_tryHome_25 : decode cX0_tryHome 25 = .ok (.iload_n 2, 1) := by decide +kernel
theorem dX0_tryHome_26 : decode cX0_tryHome 26 = .ok (.invokevirtual 77, 3) := by decide +kernel
theorem dX0_tryHome_29 : decode cX0_tryHome 29 = .ok (.return_, 1) := by decide +kernel
theorem dX0_tryHome_30 : decode cX0_tryHome 30 = .ok (.iconst 0, 1) := by decide +kernel
theorem dX0_tryHome_31 : decode cX0_tryHome 31 = .ok (.istore_n 3, 1) := by decide +kernel
theorem dX0_tryHome_32 : decode cX0_tryHome 32 = .ok (.iload_n 3, 1) := by decide +kernel
theorem dX0_tryHome_33 : decode cX0_tryHome 33 = .ok (.aload_n 0, 1) := by decide +kernel
theorem dX0_tryHome_34 : decode cX0_tryHome 34 = .ok (.getfield 46, 3) := by decide +kernel
theorem dX0_tryHome_37 : decode cX0_tryHome 37 = .ok (.if_icmp .ge 91, 3) := by decide +kernel
theorem dX0_tryHome_40 : decode cX0_tryHome 40 = .ok (.aload_n 0, 1) := by decide +kernel
theorem dX0_tryHome_41 : decode cX0_tryHome 41 = .ok (.getfield 9, 3) := by decide +kernel
theorem dX0_tryHome_44 : decode cX0_tryHome 44 = .ok (.iload_n 1, 1) := by decide +kernel
theorem dX0_tryHome_45 : decode cX0_tryHome 45 = .ok (.iconst 5, 1) := by decide +kernel
theorem dX0_tryHome_46 : decode cX0_tryHome 46 = .ok (.imul, 1) := by decide +kernel
theorem dX0_tryHome_47 : decode cX0_tryHome 47 = .ok (.iload_n 3, 1) := by decide +kernel
theorem dX0_tryHome_48 : decode cX0_tryHome 48 = .ok (.iadd, 1) := by decide +kernel
theorem dX0_tryHome_49 : decode cX0_tryHome 49 = .ok (.iaload, 1) := by decide +kernel
theorem dX0_tryHome_50 : decode cX0_tryHome 50 = .ok (.istore 4, 2) := by decide +kernel
theorem dX0_tryHome_52 : decode cX0_tryHome 52 = .ok (.iload 4, 2) := by decide +kernel
theorem dX0_tryHome_54 : decode cX0_tryHome 54 = .ok (.ldc 51, 2) := by decide +kernel
theorem dX0_tryHome_56 : decode cX0_tryHome 56 = .ok (.if_icmp .ge 66, 3) := by decide +kernel
theorem dX0_tryHome_59 : decode cX0_tryHome 59 = .ok (.aload_n 0, 1) := by decide +kernel
theorem dX0_tryHome_60 : decode cX0_tryHome 60 = .ok (.getfield 15, 3) := by decide +kernel
theorem dX0_tryHome_63 : decode cX0_tryHome 63 = .ok (.iload_n 1, 1) := by decide +kernel
theorem dX0_tryHome_64 : decode cX0_tryHome 64 = .ok (.iaload, 1) := by decide +kernel
theorem dX0_tryHome_65 : decode cX0_tryHome 65 = .ok (.aload_n 0, 1) := by decide +kernel
theorem dX0_tryHome_66 : decode cX0_tryHome 66 = .ok (.getfield 18, 3) := by decide +kernel
theorem dX0_tryHome_69 : decode cX0_tryHome 69 = .ok (.iload_n 3, 1) := by decide +kernel
theorem dX0_tryHome_70 : decode cX0_tryHome 70 = .ok (.iaload, 1) := by decide +kernel
theorem dX0_tryHome_71 : decode cX0_tryHome 71 = .ok (.if_icmp .gt 51, 3) := by decide +kernel
theorem dX0_tryHome_74 : decode cX0_tryHome 74 = .ok (.aload_n 0, 1) := by decide +kernel
theorem dX0_tryHome_75 : decode cX0_tryHome 75 = .ok (.getfield 24, 3) := by decide +kernel
theorem dX0_tryHome_78 : decode cX0_tryHome 78 = .ok (.iload_n 1, 1) := by decide +kernel
theorem dX0_tryHome_79 : decode cX0_tryHome 79 = .ok (.iload_n 3, 1) := by decide +kernel
theorem dX0_tryHome_80 : decode cX0_tryHome 80 = .ok (.iastore, 1) := by decide +kernel
theorem dX0_tryHome_81 : decode cX0_tryHome 81 = .ok (.aload_n 0, 1) := by decide +kernel
theorem dX0_tryHome_82 : decode cX0_tryHome 82 = .ok (.getfield 18, 3) := by decide +kernel
theorem dX0_tryHome_85 : decode cX0_tryHome 85 = .ok (.iload_n 3, 1) := by decide +kernel
theorem dX0_tryHome_86 : decode cX0_tryHome 86 = .ok (.dup2, 1) := by decide +kernel
theorem dX0_tryHome_87 : decode cX0_tryHome 87 = .ok (.iaload, 1) := by decide +kernel
theorem dX0_tryHome_88 : decode cX0_tryHome 88 = .ok (.aload_n 0, 1) := by decide +kernel
theorem dX0_tryHome_89 : decode cX0_tryHome 89 = .ok (.getfield 15, 3) := by decide +kernel
theorem dX0_tryHome_92 : decode cX0_tryHome 92 = .ok (.iload_n 1, 1) := by decide +kernel
theorem dX0_tryHome_93 : decode cX0_tryHome 93 = .ok (.iaload, 1) := by decide +kernel
theorem dX0_tryHome_94 : decode cX0_tryHome 94 = .ok (.isub, 1) := by decide +kernel
theorem dX0_tryHome_95 : decode cX0_tryHome 95 = .ok (.iastore, 1) := by decide +kernel
theorem dX0_tryHome_96 : decode cX0_tryHome 96 = .ok (.aload_n 0, 1) := by decide +kernel
theorem dX0_tryHome_97 : decode cX0_tryHome 97 = .ok (.iload_n 1, 1) := by decide +kernel
theorem dX0_tryHome_98 : decode cX0_tryHome 98 = .ok (.iconst 1, 1) := by decide +kernel
theorem dX0_tryHome_99 : decode cX0_tryHome 99 = .ok (.iadd, 1) := by decide +kernel
theorem dX0_tryHome_100 : decode cX0_tryHome 100 = .ok (.iload_n 2, 1) := by decide +kernel
theorem dX0_tryHome_101 : decode cX0_tryHome 101 = .ok (.iload 4, 2) := by decide +kernel
theorem dX0_tryHome_103 : decode cX0_tryHome 103 = .ok (.iadd, 1) := by decide +kernel
theorem dX0_tryHome_104 : decode cX0_tryHome 104 = .ok (.invokevirtual 59, 3) := by decide +kernel
theorem dX0_tryHome_107 : decode cX0_tryHome 107 = .ok (.aload_n 0, 1) := by decide +kernel
theorem dX0_tryHome_108 : decode cX0_tryHome 108 = .ok (.getfield 18, 3) := by decide +kernel
theorem dX0_tryHome_111 : decode cX0_tryHome 111 = .ok (.iload_n 3, 1) := by decide +kernel
theorem dX0_tryHome_112 : decode cX0_tryHome 112 = .ok (.dup2, 1) := by decide +kernel
theorem dX0_tryHome_113 : decode cX0_tryHome 113 = .ok (.iaload, 1) := by decide +kernel
theorem dX0_tryHome_114 : decode cX0_tryHome 114 = .ok (.aload_n 0, 1) := by decide +kernel
theorem dX0_tryHome_115 : decode cX0_tryHome 115 = .ok (.getfield 15, 3) := by decide +kernel
theorem dX0_tryHome_118 : decode cX0_tryHome 118 = .ok (.iload_n 1, 1) := by decide +kernel
theorem dX0_tryHome_119 : decode cX0_tryHome 119 = .ok (.iaload, 1) := by decide +kernel
theorem dX0_tryHome_120 : decode cX0_tryHome 120 = .ok (.iadd, 1) := by decide +kernel
theorem dX0_tryHome_121 : decode cX0_tryHome 121 = .ok (.iastore, 1) := by decide +kernel
theorem dX0_tryHome_122 : decode cX0_tryHome 122 = .ok (.iinc 3 1, 3) := by decide +kernel
theorem dX0_tryHome_125 : decode cX0_tryHome 125 = .ok (.goto (-93), 3) := by decide +kernel
theorem dX0_tryHome_128 : decode cX0_tryHome 128 = .ok (.return_, 1) := by decide +kernel
theorem dX0_keep_0 : decode cX0_keep 0 = .ok (.aload_n 0, 1) := by decide +kernel
theorem dX0_keep_1 : decode cX0_keep 1 = .ok (.iload_n 1, 1) := by decide +kernel
theorem dX0_keep_2 : decode cX0_keep 2 = .ok (.putfield 56, 3) := by decide +kernel
theorem dX0_keep_5 : decode cX0_keep 5 = .ok (.iconst 0, 1) := by decide +kernel
theorem dX0_keep_6 : decode cX0_keep 6 = .ok (.istore_n 2, 1) := by decide +kernel
theorem dX0_keep_7 : decode cX0_keep 7 = .ok (.iload_n 2, 1) := by decide +kernel
theorem dX0_keep_8 : decode cX0_keep 8 = .ok (.aload_n 0, 1) := by decide +kernel
theorem dX0_keep_9 : decode cX0_keep 9 = .ok (.getfield 42, 3) := by decide +kernel
theorem dX0_keep_12 : decode cX0_keep 12 = .ok (.if_icmp .ge 21, 3) := by decide +kernel
theorem dX0_keep_15 : decode cX0_keep 15 = .ok (.aload_n 0, 1) := by decide +kernel
theorem dX0_keep_16 : decode cX0_keep 16 = .ok (.getfield 27, 3) := by decide +kernel
theorem dX0_keep_19 : decode cX0_keep 19 = .ok (.iload_n 2, 1) := by decide +kernel
theorem dX0_keep_20 : decode cX0_keep 20 = .ok (.aload_n 0, 1) := by decide +kernel
theorem dX0_keep_21 : decode cX0_keep 21 = .ok (.getfield 24, 3) := by decide +kernel
theorem dX0_keep_24 : decode cX0_keep 24 = .ok (.iload_n 2, 1) := by decide +kernel
theorem dX0_keep_25 : decode cX0_keep 25 = .ok (.iaload, 1) := by decide +kernel
theorem dX0_keep_26 : decode cX0_keep 26 = .ok (.iastore, 1) := by decide +kernel
theorem dX0_keep_27 : decode cX0_keep 27 = .ok (.iinc 2 1, 3) := by decide +kernel
theorem dX0_keep_30 : decode cX0_keep 30 = .ok (.goto (-23), 3) := by decide +kernel
theorem dX0_keep_33 : decode cX0_keep 33 = .ok (.return_, 1) := by decide +kernel
theorem dX1_init_0 : decode cX1_init 0 = .ok (.aload_n 0, 1) := by decide +kernel
theorem dX1_init_1 : decode cX1_init 1 = .ok (.invokespecial 3, 3) := by decide +kernel
theorem dX1_init_4 : decode cX1_init 4 = .ok (.aload_n 0, 1) := by decide +kernel
theorem dX1_init_5 : decode cX1_init 5 = .ok (.bipush 10, 2) := by decide +kernel
theorem dX1_init_7 : decode cX1_init 7 = .ok (.newarray .int, 2) := by decide +kernel
theorem dX1_init_9 : decode cX1_init 9 = .ok (.putfield 9, 3) := by decide +kernel
theorem dX1_init_12 : decode cX1_init 12 = .ok (.aload_n 0, 1) := by decide +kernel
theorem dX1_init_13 : decode cX1_init 13 = .ok (.bipush 10, 2) := by decide +kernel
theorem dX1_init_15 : decode cX1_init 15 = .ok (.newarray .int, 2) := by decide +kernel
theorem dX1_init_17 : decode cX1_init 17 = .ok (.putfield 15, 3) := by decide +kernel
theorem dX1_init_20 : decode cX1_init 20 = .ok (.aload_n 0, 1) := by decide +kernel
theorem dX1_init_21 : decode cX1_init 21 = .ok (.bipush 10, 2) := by decide +kernel
theorem dX1_init_23 : decode cX1_init 23 = .ok (.newarray .int, 2) := by decide +kernel
theorem dX1_init_25 : decode cX1_init 25 = .ok (.putfield 18, 3) := by decide +kernel
theorem dX1_init_28 : decode cX1_init 28 = .ok (.aload_n 0, 1) := by decide +kernel
theorem dX1_init_29 : decode cX1_init 29 = .ok (.bipush 10, 2) := by decide +kernel
theorem dX1_init_31 : decode cX1_init 31 = .ok (.newarray .int, 2) := by decide +kernel
theorem dX1_init_33 : decode cX1_init 33 = .ok (.putfield 21, 3) := by decide +kernel
theorem dX1_init_36 : decode cX1_init 36 = .ok (.aload_n 0, 1) := by decide +kernel
theorem dX1_init_37 : decode cX1_init 37 = .ok (.iconst 5, 1) := by decide +kernel
theorem dX1_init_38 : decode cX1_init 38 = .ok (.newarray .int, 2) := by decide +kernel
theorem dX1_init_40 : decode cX1_init 40 = .ok (.putfield 24, 3) := by decide +kernel
theorem dX1_init_43 : decode cX1_init 43 = .ok (.aload_n 0, 1) := by decide +kernel
theorem dX1_init_44 : decode cX1_init 44 = .ok (.iconst 5, 1) := by decide +kernel
theorem dX1_init_45 : decode cX1_init 45 = .ok (.newarray .int, 2) := by decide +kernel
theorem dX1_init_47 : decode cX1_init 47 = .ok (.putfield 27, 3) := by decide +kernel
theorem dX1_init_50 : decode cX1_init 50 = .ok (.aload_n 0, 1) := by decide +kernel
theorem dX1_init_51 : decode cX1_init 51 = .ok (.iconst 5, 1) := by decide +kernel
theorem dX1_init_52 : decode cX1_init 52 = .ok (.newarray .int, 2) := by decide +kernel
theorem dX1_init_54 : decode cX1_init 54 = .ok (.putfield 30, 3) := by decide +kernel
theorem dX1_init_57 : decode cX1_init 57 = .ok (.aload_n 0, 1) := by decide +kernel
theorem dX1_init_58 : decode cX1_init 58 = .ok (.iconst 5, 1) := by decide +kernel
theorem dX1_init_59 : decode cX1_init 59 = .ok (.newarray .int, 2) := by decide +kernel
theorem dX1_init_61 : decode cX1_init 61 = .ok (.putfield 33, 3) := by decide +kernel
theorem dX1_init_64 : decode cX1_init 64 = .ok (.aload_n 0, 1) := by decide +kernel
theorem dX1_init_65 : decode cX1_init 65 = .ok (.sipush 200, 3) := by decide +kernel
theorem dX1_init_68 : decode cX1_init 68 = .ok (.putfield 36, 3) := by decide +kernel
theorem dX1_init_71 : decode cX1_init 71 = .ok (.return_, 1) := by decide +kernel
theorem dX1_hasHome_0 : decode cX1_hasHome 0 = .ok (.iload_n 1, 1) := by decide +kernel
theorem dX1_hasHome_1 : decode cX1_hasHome 1 = .ok (.ifCond .lt 15, 3) := by decide +kernel
theorem dX1_hasHome_4 : decode cX1_hasHome 4 = .ok (.iload_n 1, 1) := by decide +kernel
theorem dX1_hasHome_5 : decode cX1_hasHome 5 = .ok (.aload_n 0, 1) := by decide +kernel
theorem dX1_hasHome_6 : decode cX1_hasHome 6 = .ok (.getfield 40, 3) := by decide +kernel
theorem dX1_hasHome_9 : decode cX1_hasHome 9 = .ok (.if_icmp .ge 7, 3) := by decide +kernel
theorem dX1_hasHome_12 : decode cX1_hasHome 12 = .ok (.iconst 1, 1) := by decide +kernel
theorem dX1_hasHome_13 : decode cX1_hasHome 13 = .ok (.goto 4, 3) := by decide +kernel
theorem dX1_hasHome_16 : decode cX1_hasHome 16 = .ok (.iconst 0, 1) := by decide +kernel
theorem dX1_hasHome_17 : decode cX1_hasHome 17 = .ok (.ireturn, 1) := by decide +kernel
theorem dX1_hasChurch_0 : decode cX1_hasChurch 0 = .ok (.iload_n 1, 1) := by decide +kernel
theorem dX1_hasChurch_1 : decode cX1_hasChurch 1 = .ok (.ifCond .lt 15, 3) := by decide +kernel
theorem dX1_hasChurch_4 : decode cX1_hasChurch 4 = .ok (.iload_n 1, 1) := by decide +kernel
theorem dX1_hasChurch_5 : decode cX1_hasChurch 5 = .ok (.aload_n 0, 1) := by decide +kernel
theorem dX1_hasChurch_6 : decode cX1_hasChurch 6 = .ok (.getfield 43, 3) := by decide +kernel
theorem dX1_hasChurch_9 : decode cX1_hasChurch 9 = .ok (.if_icmp .ge 7, 3) := by decide +kernel
theorem dX1_hasChurch_12 : decode cX1_hasChurch 12 = .ok (.iconst 1, 1) := by decide +kernel
theorem dX1_hasChurch_13 : decode cX1_hasChurch 13 = .ok (.goto 4, 3) := by decide +kernel
theorem dX1_hasChurch_16 : decode cX1_hasChurch 16 = .ok (.iconst 0, 1) := by decide +kernel
theorem dX1_hasChurch_17 : decode cX1_hasChurch 17 = .ok (.ireturn, 1) := by decide +kernel
theorem dX1_empty_0 : decode cX1_empty 0 = .ok (.aload_n 0, 1) := by decide +kernel
theorem dX1_empty_1 : decode cX1_empty 1 = .ok (.iconst 0, 1) := by decide +kernel
theorem dX1_empty_2 : decode cX1_empty 2 = .ok (.putfield 40, 3) := by decide +kernel
theorem dX1_empty_5 : decode cX1_empty 5 = .ok (.aload_n 0, 1) := by decide +kernel
theorem dX1_empty_6 : decode cX1_empty 6 = .ok (.iconst 0, 1) := by decide +kernel
theorem dX1_empty_7 : decode cX1_empty 7 = .ok (.putfield 43, 3) := by decide +kernel
theorem dX1_empty_10 : decode cX1_empty 10 = .ok (.aload_n 0, 1) := by decide +kernel
theorem dX1_empty_11 : decode cX1_empty 11 = .ok (.dup, 1) := by decide +kernel
theorem dX1_empty_12 : decode cX1_empty 12 = .ok (.getfield 46, 3) := by decide +kernel
theorem dX1_empty_15 : decode cX1_empty 15 = .ok (.iconst 1, 1) := by decide +kernel
theorem dX1_empty_16 : decode cX1_empty 16 = .ok (.iadd, 1) := by decide +kernel
theorem dX1_empty_17 : decode cX1_empty 17 = .ok (.putfield 46, 3) := by decide +kernel
theorem dX1_empty_20 : decode cX1_empty 20 = .ok (.return_, 1) := by decide +kernel
theorem dX1_addHome_0 : decode cX1_addHome 0 = .ok (.aload_n 0, 1) := by decide +kernel
theorem dX1_addHome_1 : decode cX1_addHome 1 = .ok (.getfield 40, 3) := by decide +kernel
theorem dX1_addHome_4 : decode cX1_addHome 4 = .ok (.istore 4, 2) := by decide +kernel
theorem dX1_addHome_6 : decode cX1_addHome 6 = .ok (.aload_n 0, 1) := by decide +kernel
theorem dX1_addHome_7 : decode cX1_addHome 7 = .ok (.getfield 9, 3) := by decide +kernel
theorem dX1_addHome_10 : decode cX1_addHome 10 = .ok (.iload 4, 2) := by decide +kernel
theorem dX1_addHome_12 : decode cX1_addHome 12 = .ok (.iload_n 1, 1) := by decide +kernel
theorem dX1_addHome_13 : decode cX1_addHome 13 = .ok (.iastore, 1) := by decide +kernel
theorem dX1_addHome_14 : decode cX1_addHome 14 = .ok (.aload_n 0, 1) := by decide +kernel
theorem dX1_addHome_15 : decode cX1_addHome 15 = .ok (.getfield 15, 3) := by decide +kernel
theorem dX1_addHome_18 : decode cX1_addHome 18 = .ok (.iload 4, 2) := by decide +kernel
theorem dX1_addHome_20 : decode cX1_addHome 20 = .ok (.iload_n 2, 1) := by decide +kernel
theorem dX1_addHome_21 : decode cX1_addHome 21 = .ok (.iastore, 1) := by decide +kernel
theorem dX1_addHome_22 : decode cX1_addHome 22 = .ok (.aload_n 0, 1) := by decide +kernel
theorem dX1_addHome_23 : decode cX1_addHome 23 = .ok (.getfield 18, 3) := by decide +kernel
theorem dX1_addHome_26 : decode cX1_addHome 26 = .ok (.iload 4, 2) := by decide +kernel
theorem dX1_addHome_28 : decode cX1_addHome 28 = .ok (.iload_n 3, 1) := by decide +kernel
theorem dX1_addHome_29 : decode cX1_addHome 29 = .ok (.iastore, 1) := by decide +kernel
theorem dX1_addHome_30 : decode cX1_addHome 30 = .ok (.aload_n 0, 1) := by decide +kernel
theorem dX1_addHome_31 : decode cX1_addHome 31 = .ok (.getfield 21, 3) := by decide +kernel
theorem dX1_addHome_34 : decode cX1_addHome 34 = .ok (.iload 4, 2) := by decide +kernel
theorem dX1_addHome_36 : decode cX1_addHome 36 = .ok (.iconst 0, 1) := by decide +kernel
theorem dX1_addHome_37 : decode cX1_addHome 37 = .ok (.iastore, 1) := by decide +kernel
theorem dX1_addHome_38 : decode cX1_addHome 38 = .ok (.aload_n 0, 1) := by decide +kernel
theorem dX1_addHome_39 : decode cX1_addHome 39 = .ok (.dup, 1) := by decide +kernel
theorem dX1_addHome_40 : decode cX1_addHome 40 = .ok (.getfield 40, 3) := by decide +kernel
theorem dX1_addHome_43 : decode cX1_addHome 43 = .ok (.iconst 1, 1) := by decide +kernel
theorem dX1_addHome_44 : decode cX1_addHome 44 = .ok (.iadd, 1) := by decide +kernel
theorem dX1_addHome_45 : decode cX1_addHome 45 = .ok (.putfield 40, 3) := by decide +kernel
theorem dX1_addHome_48 : decode cX1_addHome 48 = .ok (.aload_n 0, 1) := by decide +kernel
theorem dX1_addHome_49 : decode cX1_addHome 49 = .ok (.dup, 1) := by decide +kernel
theorem dX1_addHome_50 : decode cX1_addHome 50 = .ok (.getfield 46, 3) := by decide +kernel
theorem dX1_addHome_53 : decode cX1_addHome 53 = .ok (.iconst 1, 1) := by decide +kernel
theorem dX1_addHome_54 : decode cX1_addHome 54 = .ok (.iadd, 1) := by decide +kernel
theorem dX1_addHome_55 : decode cX1_addHome 55 = .ok (.putfield 46, 3) := by decide +kernel
theorem dX1_addHome_58 : decode cX1_addHome 58 = .ok (.iload 4, 2) := by decide +kernel
theorem dX1_addHome_60 : decode cX1_addHome 60 = .ok (.ireturn, 1) := by decide +kernel
theorem dX1_addChurch_0 : decode cX1_addChurch 0 = .ok (.aload_n 0, 1) := by decide +kernel
theorem dX1_addChurch_1 : decode cX1_addChurch 1 = .ok (.getfield 43, 3) := by decide +kernel
theorem dX1_addChurch_4 : decode cX1_addChurch 4 = .ok (.istore 5, 2) := by decide +kernel
theorem dX1_addChurch_6 : decode cX1_addChurch 6 = .ok (.aload_n 0, 1) := by decide +kernel
theorem dX1_addChurch_7 : decode cX1_addChurch 7 = .ok (.getfield 24, 3) := by decide +kernel
theorem dX1_addChurch_10 : decode cX1_addChurch 10 = .ok (.iload 5, 2) := by decide +kernel
theorem dX1_addChurch_12 : decode cX1_addChurch 12 = .ok (.iload_n 1, 1) := by decide +kernel
theorem dX1_addChurch_13 : decode cX1_addChurch 13 = .ok (.iastore, 1) := by decide +kernel
theorem dX1_addChurch_14 : decode cX1_addChurch 14 = .ok (.aload_n 0, 1) := by decide +kernel
theorem dX1_addChurch_15 : decode cX1_addChurch 15 = .ok (.getfield 27, 3) := by decide +kernel
theorem dX1_addChurch_18 : decode cX1_addChurch 18 = .ok (.iload 5, 2) := by decide +kernel
theorem dX1_addChurch_20 : decode cX1_addChurch 20 = .ok (.iload_n 2, 1) := by decide +kernel
theorem dX1_addChurch_21 : decode cX1_addChurch 21 = .ok (.iastore, 1) := by decide +kernel
theorem dX1_addChurch_22 : decode cX1_addChurch 22 = .ok (.aload_n 0, 1) := by decide +kernel
theorem dX1_addChurch_23 : decode cX1_addChurch 23 = .ok (.getfield 30, 3) := by decide +kernel
theorem dX1_addChurch_26 : decode cX1_addChurch 26 = .ok (.iload 5, 2) := by decide +kernel
theorem dX1_addChurch_28 : decode cX1_addChurch 28 = .ok (.iload_n 3, 1) := by decide +kernel
theorem dX1_addChurch_29 : decode cX1_addChurch 29 = .ok (.iastore, 1) := by decide +kernel
theorem dX1_addChurch_30 : decode cX1_addChurch 30 = .ok (.aload_n 0, 1) := by decide +kernel
theorem dX1_addChurch_31 : decode cX1_addChurch 31 = .ok (.getfield 33, 3) := by decide +kernel
theorem dX1_addChurch_34 : decode cX1_addChurch 34 = .ok (.iload 5, 2) := by decide +kernel
theorem dX1_addChurch_36 : decode cX1_addChurch 36 = .ok (.iload 4, 2) := by decide +kernel
theorem dX1_addChurch_38 : decode cX1_addChurch 38 = .ok (.iastore, 1) := by decide +kernel
theorem dX1_addChurch_39 : decode cX1_addChurch 39 = .ok (.aload_n 0, 1) := by decide +kernel
theorem dX1_addChurch_40 : decode cX1_addChurch 40 = .ok (.dup, 1) := by decide +kernel
theorem dX1_addChurch_41 : decode cX1_addChurch 41 = .ok (.getfield 43, 3) := by decide +kernel
theorem dX1_addChurch_44 : decode cX1_addChurch 44 = .ok (.iconst 1, 1) := by decide +kernel
theorem dX1_addChurch_45 : decode cX1_addChurch 45 = .ok (.iadd, 1) := by decide +kernel
theorem dX1_addChurch_46 : decode cX1_addChurch 46 = .ok (.putfield 43, 3) := by decide +kernel
theorem dX1_addChurch_49 : decode cX1_addChurch 49 = .ok (.aload_n 0, 1) := by decide +kernel
theorem dX1_addChurch_50 : decode cX1_addChurch 50 = .ok (.dup, 1) := by decide +kernel
theorem dX1_addChurch_51 : decode cX1_addChurch 51 = .ok (.getfield 46, 3) := by decide +kernel
theorem dX1_addChurch_54 : decode cX1_addChurch 54 = .ok (.iconst 1, 1) := by decide +kernel
theorem dX1_addChurch_55 : decode cX1_addChurch 55 = .ok (.iadd, 1) := by decide +kernel
theorem dX1_addChurch_56 : decode cX1_addChurch 56 = .ok (.putfield 46, 3) := by decide +kernel
theorem dX1_addChurch_59 : decode cX1_addChurch 59 = .ok (.iload 5, 2) := by decide +kernel
theorem dX1_addChurch_61 : decode cX1_addChurch 61 = .ok (.ireturn, 1) := by decide +kernel
theorem dX1_isBarred_0 : decode cX1_isBarred 0 = .ok (.aload_n 0, 1) := by decide +kernel
theorem dX1_isBarred_1 : decode cX1_isBarred 1 = .ok (.getfield 21, 3) := by decide +kernel
theorem dX1_isBarred_4 : decode cX1_isBarred 4 = .ok (.iload_n 1, 1) := by decide +kernel
theorem dX1_isBarred_5 : decode cX1_isBarred 5 = .ok (.iaload, 1) := by decide +kernel
theorem dX1_isBarred_6 : decode cX1_isBarred 6 = .ok (.iload_n 2, 1) := by decide +kernel
theorem dX1_isBarred_7 : decode cX1_isBarred 7 = .ok (.ishr, 1) := by decide +kernel
theorem dX1_isBarred_8 : decode cX1_isBarred 8 = .ok (.iconst 1, 1) := by decide +kernel
theorem dX1_isBarred_9 : decode cX1_isBarred 9 = .ok (.iand, 1) := by decide +kernel
theorem dX1_isBarred_10 : decode cX1_isBarred 10 = .ok (.iconst 1, 1) := by decide +kernel
theorem dX1_isBarred_11 : decode cX1_isBarred 11 = .ok (.if_icmp .ne 7, 3) := by decide +kernel
theorem dX1_isBarred_14 : decode cX1_isBarred 14 = .ok (.iconst 1, 1) := by decide +kernel
theorem dX1_isBarred_15 : decode cX1_isBarred 15 = .ok (.goto 4, 3) := by decide +kernel
theorem dX1_isBarred_18 : decode cX1_isBarred 18 = .ok (.iconst 0, 1) := by decide +kernel
theorem dX1_isBarred_19 : decode cX1_isBarred 19 = .ok (.ireturn, 1) := by decide +kernel
theorem dX1_turnBar_0 : decode cX1_turnBar 0 = .ok (.aload_n 0, 1) := by decide +kernel
theorem dX1_turnBar_1 : decode cX1_turnBar 1 = .ok (.getfield 21, 3) := by decide +kernel
theorem dX1_turnBar_4 : decode cX1_turnBar 4 = .ok (.iload_n 1, 1) := by decide +kernel
theorem dX1_turnBar_5 : decode cX1_turnBar 5 = .ok (.dup2, 1) := by decide +kernel
theorem dX1_turnBar_6 : decode cX1_turnBar 6 = .ok (.iaload, 1) := by decide +kernel
theorem dX1_turnBar_7 : decode cX1_turnBar 7 = .ok (.iconst 1, 1) := by decide +kernel
theorem dX1_turnBar_8 : decode cX1_turnBar 8 = .ok (.iload_n 2, 1) := by decide +kernel
theorem dX1_turnBar_9 : decode cX1_turnBar 9 = .ok (.ishl, 1) := by decide +kernel
theorem dX1_turnBar_10 : decode cX1_turnBar 10 = .ok (.ixor, 1) := by decide +kernel
theorem dX1_turnBar_11 : decode cX1_turnBar 11 = .ok (.iastore, 1) := by decide +kernel
theorem dX1_turnBar_12 : decode cX1_turnBar 12 = .ok (.aload_n 0, 1) := by decide +kernel
theorem dX1_turnBar_13 : decode cX1_turnBar 13 = .ok (.dup, 1) := by decide +kernel
theorem dX1_turnBar_14 : decode cX1_turnBar 14 = .ok (.getfield 46, 3) := by decide +kernel
theorem dX1_turnBar_17 : decode cX1_turnBar 17 = .ok (.iconst 1, 1) := by decide +kernel
theorem dX1_turnBar_18 : decode cX1_turnBar 18 = .ok (.iadd, 1) := by decide +kernel
theorem dX1_turnBar_19 : decode cX1_turnBar 19 = .ok (.putfield 46, 3) := by decide +kernel
theorem dX1_turnBar_22 : decode cX1_turnBar 22 = .ok (.return_, 1) := by decide +kernel
theorem dX1_changeSeats_0 : decode cX1_changeSeats 0 = .ok (.aload_n 0, 1) := by decide +kernel
theorem dX1_changeSeats_1 : decode cX1_changeSeats 1 = .ok (.getfield 33, 3) := by decide +kernel
theorem dX1_changeSeats_4 : decode cX1_changeSeats 4 = .ok (.iload_n 1, 1) := by decide +kernel
theorem dX1_changeSeats_5 : decode cX1_changeSeats 5 = .ok (.iaload, 1) := by decide +kernel
theorem dX1_changeSeats_6 : decode cX1_changeSeats 6 = .ok (.istore_n 3, 1) := by decide +kernel
theorem dX1_changeSeats_7 : decode cX1_changeSeats 7 = .ok (.aload_n 0, 1) := by decide +kernel
theorem dX1_changeSeats_8 : decode cX1_changeSeats 8 = .ok (.getfield 33, 3) := by decide +kernel
theorem dX1_changeSeats_11 : decode cX1_changeSeats 11 = .ok (.iload_n 1, 1) := by decide +kernel
theorem dX1_changeSeats_12 : decode cX1_changeSeats 12 = .ok (.iload_n 2, 1) := by decide +kernel
theorem dX1_changeSeats_13 : decode cX1_changeSeats 13 = .ok (.iastore, 1) := by decide +kernel
theorem dX1_changeSeats_14 : decode cX1_changeSeats 14 = .ok (.aload_n 0, 1) := by decide +kernel
theorem dX1_changeSeats_15 : decode cX1_changeSeats 15 = .ok (.dup, 1) := by decide +kernel
theorem dX1_changeSeats_16 : decode cX1_changeSeats 16 = .ok (.getfield 46, 3) := by decide +kernel
theorem dX1_changeSeats_19 : decode cX1_changeSeats 19 = .ok (.iconst 1, 1) := by decide +kernel
theorem dX1_changeSeats_20 : decode cX1_changeSeats 20 = .ok (.iadd, 1) := by decide +kernel
theorem dX1_changeSeats_21 : decode cX1_changeSeats 21 = .ok (.putfield 46, 3) := by decide +kernel
theorem dX1_changeSeats_24 : decode cX1_changeSeats 24 = .ok (.iload_n 3, 1) := by decide +kernel
theorem dX1_changeSeats_25 : decode cX1_changeSeats 25 = .ok (.ireturn, 1) := by decide +kernel
theorem dX1_changeToll_0 : decode cX1_changeToll 0 = .ok (.aload_n 0, 1) := by decide +kernel
theorem dX1_changeToll_1 : decode cX1_changeToll 1 = .ok (.getfield 36, 3) := by decide +kernel
theorem dX1_changeToll_4 : decode cX1_changeToll 4 = .ok (.istore_n 2, 1) := by decide +kernel
theorem dX1_changeToll_5 : decode cX1_changeToll 5 = .ok (.aload_n 0, 1) := by decide +kernel
theorem dX1_changeToll_6 : decode cX1_changeToll 6 = .ok (.iload_n 1, 1) := by decide +kernel
theorem dX1_changeToll_7 : decode cX1_changeToll 7 = .ok (.putfield 36, 3) := by decide +kernel
theorem dX1_changeToll_10 : decode cX1_changeToll 10 = .ok (.aload_n 0, 1) := by decide +kernel
theorem dX1_changeToll_11 : decode cX1_changeToll 11 = .ok (.dup, 1) := by decide +kernel
theorem dX1_changeToll_12 : decode cX1_changeToll 12 = .ok (.getfield 46, 3) := by decide +kernel
theorem dX1_changeToll_15 : decode cX1_changeToll 15 = .ok (.iconst 1, 1) := by decide +kernel
theorem dX1_changeToll_16 : decode cX1_changeToll 16 = .ok (.iadd, 1) := by decide +kernel
theorem dX1_changeToll_17 : decode cX1_changeToll 17 = .ok (.putfield 46, 3) := by decide +kernel
theorem dX1_changeToll_20 : decode cX1_changeToll 20 = .ok (.iload_n 2, 1) := by decide +kernel
theorem dX1_changeToll_21 : decode cX1_changeToll 21 = .ok (.ireturn, 1) := by decide +kernel
theorem dX1_moveChurch_0 : decode cX1_moveChurch 0 = .ok (.aload_n 0, 1) := by decide +kernel
theorem dX1_moveChurch_1 : decode cX1_moveChurch 1 = .ok (.getfield 27, 3) := by decide +kernel
theorem dX1_moveChurch_4 : decode cX1_moveChurch 4 = .ok (.iload_n 1, 1) := by decide +kernel
theorem dX1_moveChurch_5 : decode cX1_moveChurch 5 = .ok (.iload_n 2, 1) := by decide +kernel
theorem dX1_moveChurch_6 : decode cX1_moveChurch 6 = .ok (.iastore, 1) := by decide +kernel
theorem dX1_moveChurch_7 : decode cX1_moveChurch 7 = .ok (.aload_n 0, 1) := by decide +kernel
theorem dX1_moveChurch_8 : decode cX1_moveChurch 8 = .ok (.getfield 30, 3) := by decide +kernel
theorem dX1_moveChurch_11 : decode cX1_moveChurch 11 = .ok (.iload_n 1, 1) := by decide +kernel
theorem dX1_moveChurch_12 : decode cX1_moveChurch 12 = .ok (.iload_n 3, 1) := by decide +kernel
theorem dX1_moveChurch_13 : decode cX1_moveChurch 13 = .ok (.iastore, 1) := by decide +kernel
theorem dX1_moveChurch_14 : decode cX1_moveChurch 14 = .ok (.aload_n 0, 1) := by decide +kernel
theorem dX1_moveChurch_15 : decode cX1_moveChurch 15 = .ok (.dup, 1) := by decide +kernel
theorem dX1_moveChurch_16 : decode cX1_moveChurch 16 = .ok (.getfield 46, 3) := by decide +kernel
theorem dX1_moveChurch_19 : decode cX1_moveChurch 19 = .ok (.iconst 1, 1) := by decide +kernel
theorem dX1_moveChurch_20 : decode cX1_moveChurch 20 = .ok (.iadd, 1) := by decide +kernel
theorem dX1_moveChurch_21 : decode cX1_moveChurch 21 = .ok (.putfield 46, 3) := by decide +kernel
theorem dX1_moveChurch_24 : decode cX1_moveChurch 24 = .ok (.return_, 1) := by decide +kernel
theorem dX1_atOneSpot_0 : decode cX1_atOneSpot 0 = .ok (.aload_n 0, 1) := by decide +kernel
theorem dX1_atOneSpot_1 : decode cX1_atOneSpot 1 = .ok (.getfield 27, 3) := by decide +kernel
theorem dX1_atOneSpot_4 : decode cX1_atOneSpot 4 = .ok (.iload_n 1, 1) := by decide +kernel
theorem dX1_atOneSpot_5 : decode cX1_atOneSpot 5 = .ok (.iaload, 1) := by decide +kernel
theorem dX1_atOneSpot_6 : decode cX1_atOneSpot 6 = .ok (.aload_n 0, 1) := by decide +kernel
theorem dX1_atOneSpot_7 : decode cX1_atOneSpot 7 = .ok (.getfield 27, 3) := by decide +kernel
theorem dX1_atOneSpot_10 : decode cX1_atOneSpot 10 = .ok (.iload_n 2, 1) := by decide +kernel
theorem dX1_atOneSpot_11 : decode cX1_atOneSpot 11 = .ok (.iaload, 1) := by decide +kernel
theorem dX1_atOneSpot_12 : decode cX1_atOneSpot 12 = .ok (.if_icmp .ne 22, 3) := by decide +kernel
theorem dX1_atOneSpot_15 : decode cX1_atOneSpot 15 = .ok (.aload_n 0, 1) := by decide +kernel
theorem dX1_atOneSpot_16 : decode cX1_atOneSpot 16 = .ok (.getfield 30, 3) := by decide +kernel
theorem dX1_atOneSpot_19 : decode cX1_atOneSpot 19 = .ok (.iload_n 1, 1) := by decide +kernel
theorem dX1_atOneSpot_20 : decode cX1_atOneSpot 20 = .ok (.iaload, 1) := by decide +kernel
theorem dX1_atOneSpot_21 : decode cX1_atOneSpot 21 = .ok (.aload_n 0, 1) := by decide +kernel
theorem dX1_atOneSpot_22 : decode cX1_atOneSpot 22 = .ok (.getfield 30, 3) := by decide +kernel
theorem dX1_atOneSpot_25 : decode cX1_atOneSpot 25 = .ok (.iload_n 2, 1) := by decide +kernel
theorem dX1_atOneSpot_26 : decode cX1_atOneSpot 26 = .ok (.iaload, 1) := by decide +kernel
theorem dX1_atOneSpot_27 : decode cX1_atOneSpot 27 = .ok (.if_icmp .ne 7, 3) := by decide +kernel
theorem dX1_atOneSpot_30 : decode cX1_atOneSpot 30 = .ok (.iconst 1, 1) := by decide +kernel
theorem dX1_atOneSpot_31 : decode cX1_atOneSpot 31 = .ok (.goto 4, 3) := by decide +kernel
theorem dX1_atOneSpot_34 : decode cX1_atOneSpot 34 = .ok (.iconst 0, 1) := by decide +kernel
theorem dX1_atOneSpot_35 : decode cX1_atOneSpot 35 = .ok (.ireturn, 1) := by decide +kernel
theorem dX1_farTo_0 : decode cX1_farTo 0 = .ok (.aload_n 0, 1) := by decide +kernel
theorem dX1_farTo_1 : decode cX1_farTo 1 = .ok (.aload_n 0, 1) := by decide +kernel
theorem dX1_farTo_2 : decode cX1_farTo 2 = .ok (.getfield 24, 3) := by decide +kernel
theorem dX1_farTo_5 : decode cX1_farTo 5 = .ok (.iload_n 1, 1) := by decide +kernel
theorem dX1_farTo_6 : decode cX1_farTo 6 = .ok (.iaload, 1) := by decide +kernel
theorem dX1_farTo_7 : decode cX1_farTo 7 = .ok (.iload_n 2, 1) := by decide +kernel
theorem dX1_farTo_8 : decode cX1_farTo 8 = .ok (.iload_n 3, 1) := by decide +kernel
theorem dX1_farTo_9 : decode cX1_farTo 9 = .ok (.aload_n 0, 1) := by decide +kernel
theorem dX1_farTo_10 : decode cX1_farTo 10 = .ok (.getfield 27, 3) := by decide +kernel
theorem dX1_farTo_13 : decode cX1_farTo 13 = .ok (.iload_n 1, 1) := by decide +kernel
theorem dX1_farTo_14 : decode cX1_farTo 14 = .ok (.iaload, 1) := by decide +kernel
theorem dX1_farTo_15 : decode cX1_farTo 15 = .ok (.aload_n 0, 1) := by decide +kernel
theorem dX1_farTo_16 : decode cX1_farTo 16 = .ok (.getfield 30, 3) := by decide +kernel
theorem dX1_farTo_19 : decode cX1_farTo 19 = .ok (.iload_n 1, 1) := by decide +kernel
theorem dX1_farTo_20 : decode cX1_farTo 20 = .ok (.iaload, 1) := by decide +kernel
theorem dX1_farTo_21 : decode cX1_farTo 21 = .ok (.invokevirtual 49, 3) := by decide +kernel
theorem dX1_farTo_24 : decode cX1_farTo 24 = .ok (.ireturn, 1) := by decide +kernel
theorem dX1_farBetween_0 : decode cX1_farBetween 0 = .ok (.iload_n 2, 1) := by decide +kernel
theorem dX1_farBetween_1 : decode cX1_farBetween 1 = .ok (.iload 4, 2) := by decide +kernel
theorem dX1_farBetween_3 : decode cX1_farBetween 3 = .ok (.isub, 1) := by decide +kernel
theorem dX1_farBetween_4 : decode cX1_farBetween 4 = .ok (.invokestatic 53, 3) := by decide +kernel
theorem dX1_farBetween_7 : decode cX1_farBetween 7 = .ok (.istore 6, 2) := by decide +kernel
theorem dX1_farBetween_9 : decode cX1_farBetween 9 = .ok (.iload_n 3, 1) := by decide +kernel
theorem dX1_farBetween_10 : decode cX1_farBetween 10 = .ok (.iload 5, 2) := by decide +kernel
theorem dX1_farBetween_12 : decode cX1_farBetween 12 = .ok (.isub, 1) := by decide +kernel
theorem dX1_farBetween_13 : decode cX1_farBetween 13 = .ok (.invokestatic 53, 3) := by decide +kernel
theorem dX1_farBetween_16 : decode cX1_farBetween 16 = .ok (.istore 7, 2) := by decide +kernel
theorem dX1_farBetween_18 : decode cX1_farBetween 18 = .ok (.iload_n 1, 1) := by decide +kernel
theorem dX1_farBetween_19 : decode cX1_farBetween 19 = .ok (.ifCond .ne 15, 3) := by decide +kernel
theorem dX1_farBetween_22 : decode cX1_farBetween 22 = .ok (.iload 6, 2) := by decide +kernel
theorem dX1_farBetween_24 : decode cX1_farBetween 24 = .ok (.iload 6, 2) := by decide +kernel
theorem dX1_farBetween_26 : decode cX1_farBetween 26 = .ok (.imul, 1) := by decide +kernel
theorem dX1_farBetween_27 : decode cX1_farBetween 27 = .ok (.iload 7, 2) := by decide +kernel
theorem dX1_farBetween_29 : decode cX1_farBetween 29 = .ok (.iload 7, 2) := by decide +kernel
theorem dX1_farBetween_31 : decode cX1_farBetween 31 = .ok (.imul, 1) := by decide +kernel
theorem dX1_farBetween_32 : decode cX1_farBetween 32 = .ok (.iadd, 1) := by decide +kernel
theorem dX1_farBetween_33 : decode cX1_farBetween 33 = .ok (.ireturn, 1) := by decide +kernel
theorem dX1_farBetween_34 : decode cX1_farBetween 34 = .ok (.iload_n 1, 1) := by decide +kernel
theorem dX1_farBetween_35 : decode cX1_farBetween 35 = .ok (.iconst 2, 1) := by decide +kernel
theorem dX1_farBetween_36 : decode cX1_farBetween 36 = .ok (.if_icmp .ne 33, 3) := by decide +kernel
theorem dX1_farBetween_39 : decode cX1_farBetween 39 = .ok (.iload_n 2, 1) := by decide +kernel
theorem dX1_farBetween_40 : decode cX1_farBetween 40 = .ok (.bipush 30, 2) := by decide +kernel
theorem dX1_farBetween_42 : decode cX1_farBetween 42 = .ok (.if_icmp .ge 7, 3) := by decide +kernel
theorem dX1_farBetween_45 : decode cX1_farBetween 45 = .ok (.iconst 1, 1) := by decide +kernel
theorem dX1_farBetween_46 : decode cX1_farBetween 46 = .ok (.goto 4, 3) := by decide +kernel
theorem dX1_farBetween_49 : decode cX1_farBetween 49 = .ok (.iconst 0, 1) := by decide +kernel
theorem dX1_farBetween_50 : decode cX1_farBetween 50 = .ok (.iload 4, 2) := by decide +kernel
theorem dX1_farBetween_52 : decode cX1_farBetween 52 = .ok (.bipush 30, 2) := by decide +kernel
theorem dX1_farBetween_54 : decode cX1_farBetween 54 = .ok (.if_icmp .ge 7, 3) := by decide +kernel
theorem dX1_farBetween_57 : decode cX1_farBetween 57 = .ok (.iconst 1, 1) := by decide +kernel
theorem dX1_farBetween_58 : decode cX1_farBetween 58 = .ok (.goto 4, 3) := by decide +kernel
theorem dX1_farBetween_61 : decode cX1_farBetween 61 = .ok (.iconst 0, 1) := by decide +kernel
theorem dX1_farBetween_62 : decode cX1_farBetween 62 = .ok (.if_icmp .eq 7, 3) := by decide +kernel
theorem dX1_farBetween_65 : decode cX1_farBetween 65 = .ok (.iconst 1, 1) := by decide +kernel
theorem dX1_farBetween_66 : decode cX1_farBetween 66 = .ok (.goto 4, 3) := by decide +kernel
theorem dX1_farBetween_69 : decode cX1_farBetween 69 = .ok (.iconst 0, 1) := by decide +kernel
theorem dX1_farBetween_70 : decode cX1_farBetween 70 = .ok (.istore 8, 2) := by decide +kernel
theorem dX1_farBetween_72 : decode cX1_farBetween 72 = .ok (.bipush 10, 2) := by decide +kernel
theorem dX1_farBetween_74 : decode cX1_farBetween 74 = .ok (.iload 6, 2) := by decide +kernel
theorem dX1_farBetween_76 : decode cX1_farBetween 76 = .ok (.iload 7, 2) := by decide +kernel
theorem dX1_farBetween_78 : decode cX1_farBetween 78 = .ok (.iadd, 1) := by decide +kernel
theorem dX1_farBetween_79 : decode cX1_farBetween 79 = .ok (.imul, 1) := by decide +kernel
theorem dX1_farBetween_80 : decode cX1_farBetween 80 = .ok (.iload 8, 2) := by decide +kernel
theorem dX1_farBetween_82 : decode cX1_farBetween 82 = .ok (.ifCond .eq 10, 3) := by decide +kernel
theorem dX1_farBetween_85 : decode cX1_farBetween 85 = .ok (.aload_n 0, 1) := by decide +kernel
theorem dX1_farBetween_86 : decode cX1_farBetween 86 = .ok (.getfield 36, 3) := by decide +kernel
theorem dX1_farBetween_89 : decode cX1_farBetween 89 = .ok (.goto 4, 3) := by decide +kernel
theorem dX1_farBetween_92 : decode cX1_farBetween 92 = .ok (.iconst 0, 1) := by decide +kernel
theorem dX1_farBetween_93 : decode cX1_farBetween 93 = .ok (.iadd, 1) := by decide +kernel
theorem dX1_farBetween_94 : decode cX1_farBetween 94 = .ok (.ireturn, 1) := by decide +kernel
theorem dX1_cannotSit_0 : decode cX1_cannotSit 0 = .ok (.iconst 0, 1) := by decide +kernel
theorem dX1_cannotSit_1 : decode cX1_cannotSit 1 = .ok (.istore_n 2, 1) := by decide +kernel
theorem dX1_cannotSit_2 : decode cX1_cannotSit 2 = .ok (.iconst (-1), 1) := by decide +kernel
theorem dX1_cannotSit_3 : decode cX1_cannotSit 3 = .ok (.istore_n 3, 1) := by decide +kernel
theorem dX1_cannotSit_4 : decode cX1_cannotSit 4 = .ok (.iconst 0, 1) := by decide +kernel
theorem dX1_cannotSit_5 : decode cX1_cannotSit 5 = .ok (.istore 4, 2) := by decide +kernel
theorem dX1_cannotSit_7 : decode cX1_cannotSit 7 = .ok (.iload 4, 2) := by decide +kernel
theorem dX1_cannotSit_9 : decode cX1_cannotSit 9 = .ok (.aload_n 0, 1) := by decide +kernel
theorem dX1_cannotSit_10 : decode cX1_cannotSit 10 = .ok (.getfield 40, 3) := by decide +kernel
theorem dX1_cannotSit_13 : decode cX1_cannotSit 13 = .ok (.if_icmp .ge 39, 3) := by decide +kernel
theorem dX1_cannotSit_16 : decode cX1_cannotSit 16 = .ok (.iload_n 1, 1) := by decide +kernel
theorem dX1_cannotSit_17 : decode cX1_cannotSit 17 = .ok (.iload 4, 2) := by decide +kernel
theorem dX1_cannotSit_19 : decode cX1_cannotSit 19 = .ok (.ishr, 1) := by decide +kernel
theorem dX1_cannotSit_20 : decode cX1_cannotSit 20 = .ok (.iconst 1, 1) := by decide +kernel
theorem dX1_cannotSit_21 : decode cX1_cannotSit 21 = .ok (.iand, 1) := by decide +kernel
theorem dX1_cannotSit_22 : decode cX1_cannotSit 22 = .ok (.iconst 1, 1) := by decide +kernel
theorem dX1_cannotSit_23 : decode cX1_cannotSit 23 = .ok (.if_icmp .ne 23, 3) := by decide +kernel
theorem dX1_cannotSit_26 : decode cX1_cannotSit 26 = .ok (.iload_n 2, 1) := by decide +kernel
theorem dX1_cannotSit_27 : decode cX1_cannotSit 27 = .ok (.aload_n 0, 1) := by decide +kernel
theorem dX1_cannotSit_28 : decode cX1_cannotSit 28 = .ok (.getfield 18, 3) := by decide +kernel
theorem dX1_cannotSit_31 : decode cX1_cannotSit 31 = .ok (.iload 4, 2) := by decide +kernel
theorem dX1_cannotSit_33 : decode cX1_cannotSit 33 = .ok (.iaload, 1) := by decide +kernel
theorem dX1_cannotSit_34 : decode cX1_cannotSit 34 = .ok (.iadd, 1) := by decide +kernel
theorem dX1_cannotSit_35 : decode cX1_cannotSit 35 = .ok (.istore_n 2, 1) := by decide +kernel
theorem dX1_cannotSit_36 : decode cX1_cannotSit 36 = .ok (.iload_n 3, 1) := by decide +kernel
theorem dX1_cannotSit_37 : decode cX1_cannotSit 37 = .ok (.aload_n 0, 1) := by decide +kernel
theorem dX1_cannotSit_38 : decode cX1_cannotSit 38 = .ok (.getfield 21, 3) := by decide +kernel
theorem dX1_cannotSit_41 : decode cX1_cannotSit 41 = .ok (.iload 4, 2) := by decide +kernel
theorem dX1_cannotSit_43 : decode cX1_cannotSit 43 = .ok (.iaload, 1) := by decide +kernel
theorem dX1_cannotSit_44 : decode cX1_cannotSit 44 = .ok (.iand, 1) := by decide +kernel
theorem dX1_cannotSit_45 : decode cX1_cannotSit 45 = .ok (.istore_n 3, 1) := by decide +kernel
theorem dX1_cannotSit_46 : decode cX1_cannotSit 46 = .ok (.iinc 4 1, 3) := by decide +kernel
theorem dX1_cannotSit_49 : decode cX1_cannotSit 49 = .ok (.goto (-42), 3) := by decide +kernel
theorem dX1_cannotSit_52 : decode cX1_cannotSit 52 = .ok (.iconst 0, 1) := by decide +kernel
theorem dX1_cannotSit_53 : decode cX1_cannotSit 53 = .ok (.istore 4, 2) := by decide +kernel
theorem dX1_cannotSit_55 : decode cX1_cannotSit 55 = .ok (.iload 4, 2) := by decide +kernel
theorem dX1_cannotSit_57 : decode cX1_cannotSit 57 = .ok (.aload_n 0, 1) := by decide +kernel
theorem dX1_cannotSit_58 : decode cX1_cannotSit 58 = .ok (.getfield 43, 3) := by decide +kernel
theorem dX1_cannotSit_61 : decode cX1_cannotSit 61 = .ok (.if_icmp .ge 28, 3) := by decide +kernel
theorem dX1_cannotSit_64 : decode cX1_cannotSit 64 = .ok (.iload_n 3, 1) := by decide +kernel
theorem dX1_cannotSit_65 : decode cX1_cannotSit 65 = .ok (.iload 4, 2) := by decide +kernel
theorem dX1_cannotSit_67 : decode cX1_cannotSit 67 = .ok (.ishr, 1) := by decide +kernel
theorem dX1_cannotSit_68 : decode cX1_cannotSit 68 = .ok (.iconst 1, 1) := by decide +kernel
theorem dX1_cannotSit_69 : decode cX1_cannotSit 69 = .ok (.iand, 1) := by decide +kernel
theorem dX1_cannotSit_70 : decode cX1_cannotSit 70 = .ok (.ifCond .ne 13, 3) := by decide +kernel
theorem dX1_cannotSit_73 : decode cX1_cannotSit 73 = .ok (.iload_n 2, 1) := by decide +kernel
theorem dX1_cannotSit_74 : decode cX1_cannotSit 74 = .ok (.aload_n 0, 1) := by decide +kernel
theorem dX1_cannotSit_75 : decode cX1_cannotSit 75 = .ok (.getfield 33, 3) := by decide +kernel
theorem dX1_cannotSit_78 : decode cX1_cannotSit 78 = .ok (.iload 4, 2) := by decide +kernel
theorem dX1_cannotSit_80 : decode cX1_cannotSit 80 = .ok (.iaload, 1) := by decide +kernel
theorem dX1_cannotSit_81 : decode cX1_cannotSit 81 = .ok (.isub, 1) := by decide +kernel
theorem dX1_cannotSit_82 : decode cX1_cannotSit 82 = .ok (.istore_n 2, 1) := by decide +kernel
theorem dX1_cannotSit_83 : decode cX1_cannotSit 83 = .ok (.iinc 4 1, 3) := by decide +kernel
theorem dX1_cannotSit_86 : decode cX1_cannotSit 86 = .ok (.goto (-31), 3) := by decide +kernel
theorem dX1_cannotSit_89 : decode cX1_cannotSit 89 = .ok (.iload_n 2, 1) := by decide +kernel
theorem dX1_cannotSit_90 : decode cX1_cannotSit 90 = .ok (.ifCond .le 7, 3) := by decide +kernel
theorem dX1_cannotSit_93 : decode cX1_cannotSit 93 = .ok (.iconst 1, 1) := by decide +kernel
theorem dX1_cannotSit_94 : decode cX1_cannotSit 94 = .ok (.goto 4, 3) := by decide +kernel
theorem dX1_cannotSit_97 : decode cX1_cannotSit 97 = .ok (.iconst 0, 1) := by decide +kernel
theorem dX1_cannotSit_98 : decode cX1_cannotSit 98 = .ok (.ireturn, 1) := by decide +kernel
theorem dX1_proofHolds_0 : decode cX1_proofHolds 0 = .ok (.iload_n 2, 1) := by decide +kernel
theorem dX1_proofHolds_1 : decode cX1_proofHolds 1 = .ok (.aload_n 0, 1) := by decide +kernel
theorem dX1_proofHolds_2 : decode cX1_proofHolds 2 = .ok (.getfield 40, 3) := by decide +kernel
theorem dX1_proofHolds_5 : decode cX1_proofHolds 5 = .ok (.aload_n 0, 1) := by decide +kernel
theorem dX1_proofHolds_6 : decode cX1_proofHolds 6 = .ok (.getfield 43, 3) := by decide +kernel
theorem dX1_proofHolds_9 : decode cX1_proofHolds 9 = .ok (.imul, 1) := by decide +kernel
theorem dX1_proofHolds_10 : decode cX1_proofHolds 10 = .ok (.iadd, 1) := by decide +kernel
theorem dX1_proofHolds_11 : decode cX1_proofHolds 11 = .ok (.istore_n 3, 1) := by decide +kernel
theorem dX1_proofHolds_12 : decode cX1_proofHolds 12 = .ok (.iconst 0, 1) := by decide +kernel
theorem dX1_proofHolds_13 : decode cX1_proofHolds 13 = .ok (.istore 4, 2) := by decide +kernel
theorem dX1_proofHolds_15 : decode cX1_proofHolds 15 = .ok (.iload 4, 2) := by decide +kernel
theorem dX1_proofHolds_17 : decode cX1_proofHolds 17 = .ok (.aload_n 0, 1) := by decide +kernel
theorem dX1_proofHolds_18 : decode cX1_proofHolds 18 = .ok (.getfield 40, 3) := by decide +kernel
theorem dX1_proofHolds_21 : decode cX1_proofHolds 21 = .ok (.if_icmp .ge 30, 3) := by decide +kernel
theorem dX1_proofHolds_24 : decode cX1_proofHolds 24 = .ok (.aload_n 0, 1) := by decide +kernel
theorem dX1_proofHolds_25 : decode cX1_proofHolds 25 = .ok (.iload 4, 2) := by decide +kernel
theorem dX1_proofHolds_27 : decode cX1_proofHolds 27 = .ok (.aload_n 1, 1) := by decide +kernel
theorem dX1_proofHolds_28 : decode cX1_proofHolds 28 = .ok (.iload_n 2, 1) := by decide +kernel
theorem dX1_proofHolds_29 : decode cX1_proofHolds 29 = .ok (.iload 4, 2) := by decide +kernel
theorem dX1_proofHolds_31 : decode cX1_proofHolds 31 = .ok (.aload_n 0, 1) := by decide +kernel
theorem dX1_proofHolds_32 : decode cX1_proofHolds 32 = .ok (.getfield 43, 3) := by decide +kernel
theorem dX1_proofHolds_35 : decode cX1_proofHolds 35 = .ok (.imul, 1) := by decide +kernel
theorem dX1_proofHolds_36 : decode cX1_proofHolds 36 = .ok (.iadd, 1) := by decide +kernel
theorem dX1_proofHolds_37 : decode cX1_proofHolds 37 = .ok (.invokevirtual 59, 3) := by decide +kernel
theorem dX1_proofHolds_40 : decode cX1_proofHolds 40 = .ok (.ifCond .ne 5, 3) := by decide +kernel
theorem dX1_proofHolds_43 : decode cX1_proofHolds 43 = .ok (.iconst 0, 1) := by decide +kernel
theorem dX1_proofHolds_44 : decode cX1_proofHolds 44 = .ok (.ireturn, 1) := by decide +kernel
theorem dX1_proofHolds_45 : decode cX1_proofHolds 45 = .ok (.iinc 4 1, 3) := by decide +kernel
theorem dX1_proofHolds_48 : decode cX1_proofHolds 48 = .ok (.goto (-33), 3) := by decide +kernel
theorem dX1_proofHolds_51 : decode cX1_proofHolds 51 = .ok (.iconst 0, 1) := by decide +kernel
theorem dX1_proofHolds_52 : decode cX1_proofHolds 52 = .ok (.istore 4, 2) := by decide +kernel
theorem dX1_proofHolds_54 : decode cX1_proofHolds 54 = .ok (.iload 4, 2) := by decide +kernel
theorem dX1_proofHolds_56 : decode cX1_proofHolds 56 = .ok (.aload_n 0, 1) := by decide +kernel
theorem dX1_proofHolds_57 : decode cX1_proofHolds 57 = .ok (.getfield 43, 3) := by decide +kernel
theorem dX1_proofHolds_60 : decode cX1_proofHolds 60 = .ok (.if_icmp .ge 28, 3) := by decide +kernel
theorem dX1_proofHolds_63 : decode cX1_proofHolds 63 = .ok (.aload_n 0, 1) := by decide +kernel
theorem dX1_proofHolds_64 : decode cX1_proofHolds 64 = .ok (.iload 4, 2) := by decide +kernel
theorem dX1_proofHolds_66 : decode cX1_proofHolds 66 = .ok (.aload_n 1, 1) := by decide +kernel
theorem dX1_proofHolds_67 : decode cX1_proofHolds 67 = .ok (.iload_n 2, 1) := by decide +kernel
theorem dX1_proofHolds_68 : decode cX1_proofHolds 68 = .ok (.aload_n 1, 1) := by decide +kernel
theorem dX1_proofHolds_69 : decode cX1_proofHolds 69 = .ok (.iload_n 3, 1) := by decide +kernel
theorem dX1_proofHolds_70 : decode cX1_proofHolds 70 = .ok (.iload 4, 2) := by decide +kernel
theorem dX1_proofHolds_72 : decode cX1_proofHolds 72 = .ok (.iadd, 1) := by decide +kernel
theorem dX1_proofHolds_73 : decode cX1_proofHolds 73 = .ok (.iaload, 1) := by decide +kernel
theorem dX1_proofHolds_74 : decode cX1_proofHolds 74 = .ok (.invokevirtual 63, 3) := by decide +kernel
theorem dX1_proofHolds_77 : decode cX1_proofHolds 77 = .ok (.ifCond .ne 5, 3) := by decide +kernel
theorem dX1_proofHolds_80 : decode cX1_proofHolds 80 = .ok (.iconst 0, 1) := by decide +kernel
theorem dX1_proofHolds_81 : decode cX1_proofHolds 81 = .ok (.ireturn, 1) := by decide +kernel
theorem dX1_proofHolds_82 : decode cX1_proofHolds 82 = .ok (.iinc 4 1, 3) := by decide +kernel
theorem dX1_proofHolds_85 : decode cX1_proofHolds 85 = .ok (.goto (-31), 3) := by decide +kernel
theorem dX1_proofHolds_88 : decode cX1_proofHolds 88 = .ok (.iconst 0, 1) := by decide +kernel
theorem dX1_proofHolds_89 : decode cX1_proofHolds 89 = .ok (.istore 4, 2) := by decide +kernel
theorem dX1_proofHolds_91 : decode cX1_proofHolds 91 = .ok (.iload 4, 2) := by decide +kernel
theorem dX1_proofHolds_93 : decode cX1_proofHolds 93 = .ok (.aload_n 0, 1) := by decide +kernel
theorem dX1_proofHolds_94 : decode cX1_proofHolds 94 = .ok (.getfield 40, 3) := by decide +kernel
theorem dX1_proofHolds_97 : decode cX1_proofHolds 97 = .ok (.if_icmp .ge 31, 3) := by decide +kernel
theorem dX1_proofHolds_100 : decode cX1_proofHolds 100 = .ok (.aload_n 0, 1) := by decide +kernel
theorem dX1_proofHolds_101 : decode cX1_proofHolds 101 = .ok (.iload 4, 2) := by decide +kernel
theorem dX1_proofHolds_103 : decode cX1_proofHolds 103 = .ok (.aload_n 1, 1) := by decide +kernel
theorem dX1_proofHolds_104 : decode cX1_proofHolds 104 = .ok (.iload_n 2, 1) := by decide +kernel
theorem dX1_proofHolds_105 : decode cX1_proofHolds 105 = .ok (.iload 4, 2) := by decide +kernel
theorem dX1_proofHolds_107 : decode cX1_proofHolds 107 = .ok (.aload_n 0, 1) := by decide +kernel
theorem dX1_proofHolds_108 : decode cX1_proofHolds 108 = .ok (.getfield 43, 3) := by decide +kernel
theorem dX1_proofHolds_111 : decode cX1_proofHolds 111 = .ok (.imul, 1) := by decide +kernel
theorem dX1_proofHolds_112 : decode cX1_proofHolds 112 = .ok (.iadd, 1) := by decide +kernel
theorem dX1_proofHolds_113 : decode cX1_proofHolds 113 = .ok (.iload_n 3, 1) := by decide +kernel
theorem dX1_proofHolds_114 : decode cX1_proofHolds 114 = .ok (.invokevirtual 67, 3) := by decide +kernel
theorem dX1_proofHolds_117 : decode cX1_proofHolds 117 = .ok (.ifCond .ne 5, 3) := by decide +kernel
theorem dX1_proofHolds_120 : decode cX1_proofHolds 120 = .ok (.iconst 0, 1) := by decide +kernel
theorem dX1_proofHolds_121 : decode cX1_proofHolds 121 = .ok (.ireturn, 1) := by decide +kernel
theorem dX1_proofHolds_122 : decode cX1_proofHolds 122 = .ok (.iinc 4 1, 3) := by decide +kernel
theorem dX1_proofHolds_125 : decode cX1_proofHolds 125 = .ok (.goto (-34), 3) := by decide +kernel
theorem dX1_proofHolds_128 : decode cX1_proofHolds 128 = .ok (.iconst 1, 1) := by decide +kernel
theorem dX1_proofHolds_129 : decode cX1_proofHolds 129 = .ok (.ireturn, 1) := by decide +kernel
theorem dX1_allOfHomeGo_0 : decode cX1_allOfHomeGo 0 = .ok (.aload_n 0, 1) := by decide +kernel
theorem dX1_allOfHomeGo_1 : decode cX1_allOfHomeGo 1 = .ok (.getfield 18, 3) := by decide +kernel
theorem dX1_allOfHomeGo_4 : decode cX1_allOfHomeGo 4 = .ok (.iload_n 1, 1) := by decide +kernel
theorem dX1_allOfHomeGo_5 : decode cX1_allOfHomeGo 5 = .ok (.iaload, 1) := by decide +kernel
theorem dX1_allOfHomeGo_6 : decode cX1_allOfHomeGo 6 = .ok (.istore 4, 2) := by decide +kernel
theorem dX1_allOfHomeGo_8 : decode cX1_allOfHomeGo 8 = .ok (.iconst 0, 1) := by decide +kernel
theorem dX1_allOfHomeGo_9 : decode cX1_allOfHomeGo 9 = .ok (.istore 5, 2) := by decide +kernel
theorem dX1_allOfHomeGo_11 : decode cX1_allOfHomeGo 11 = .ok (.iload 5, 2) := by decide +kernel
theorem dX1_allOfHomeGo_13 : decode cX1_allOfHomeGo 13 = .ok (.aload_n 0, 1) := by decide +kernel
theorem dX1_allOfHomeGo_14 : decode cX1_allOfHomeGo 14 = .ok (.getfield 43, 3) := by decide +kernel
theorem dX1_allOfHomeGo_17 : decode cX1_allOfHomeGo 17 = .ok (.if_icmp .ge 53, 3) := by decide +kernel
theorem dX1_allOfHomeGo_20 : decode cX1_allOfHomeGo 20 = .ok (.aload_n 2, 1) := by decide +kernel
theorem dX1_allOfHomeGo_21 : decode cX1_allOfHomeGo 21 = .ok (.iload_n 3, 1) := by decide +kernel
theorem dX1_allOfHomeGo_22 : decode cX1_allOfHomeGo 22 = .ok (.iload 5, 2) := by decide +kernel
theorem dX1_allOfHomeGo_24 : decode cX1_allOfHomeGo 24 = .ok (.iadd, 1) := by decide +kernel
theorem dX1_allOfHomeGo_25 : decode cX1_allOfHomeGo 25 = .ok (.iaload, 1) := by decide +kernel
theorem dX1_allOfHomeGo_26 : decode cX1_allOfHomeGo 26 = .ok (.istore 6, 2) := by decide +kernel
theorem dX1_allOfHomeGo_28 : decode cX1_allOfHomeGo 28 = .ok (.iload 6, 2) := by decide +kernel
theorem dX1_allOfHomeGo_30 : decode cX1_allOfHomeGo 30 = .ok (.ifCond .lt 25, 3) := by decide +kernel
theorem dX1_allOfHomeGo_33 : decode cX1_allOfHomeGo 33 = .ok (.iload 6, 2) := by decide +kernel
theorem dX1_allOfHomeGo_35 : decode cX1_allOfHomeGo 35 = .ok (.iload 4, 2) := by decide +kernel
theorem dX1_allOfHomeGo_37 : decode cX1_allOfHomeGo 37 = .ok (.if_icmp .gt 18, 3) := by decide +kernel
theorem dX1_allOfHomeGo_40 : decode cX1_allOfHomeGo 40 = .ok (.iload 6, 2) := by decide +kernel
theorem dX1_allOfHomeGo_42 : decode cX1_allOfHomeGo 42 = .ok (.ifCond .le 15, 3) := by decide +kernel
theorem dX1_allOfHomeGo_45 : decode cX1_allOfHomeGo 45 = .ok (.aload_n 0, 1) := by decide +kernel
theorem dX1_allOfHomeGo_46 : decode cX1_allOfHomeGo 46 = .ok (.iload_n 1, 1) := by decide +kernel
theorem dX1_allOfHomeGo_47 : decode cX1_allOfHomeGo 47 = .ok (.iload 5, 2) := by decide +kernel
theorem dX1_allOfHomeGo_49 : decode cX1_allOfHomeGo 49 = .ok (.invokevirtual 70, 3) := by decide +kernel
theorem dX1_allOfHomeGo_52 : decode cX1_allOfHomeGo 52 = .ok (.ifCond .eq 5, 3) := by decide +kernel
theorem dX1_allOfHomeGo_55 : decode cX1_allOfHomeGo 55 = .ok (.iconst 0, 1) := by decide +kernel
theorem dX1_allOfHomeGo_56 : decode cX1_allOfHomeGo 56 = .ok (.ireturn, 1) := by decide +kernel
theorem dX1_allOfHomeGo_57 : decode cX1_allOfHomeGo 57 = .ok (.iload 4, 2) := by decide +kernel
theorem dX1_allOfHomeGo_59 : decode cX1_allOfHomeGo 59 = .ok (.iload 6, 2) := by decide +kernel
theorem dX1_allOfHomeGo_61 : decode cX1_allOfHomeGo 61 = .ok (.isub, 1) := by decide +kernel
theorem dX1_allOfHomeGo_62 : decode cX1_allOfHomeGo 62 = .ok (.istore 4, 2) := by decide +kernel
theorem dX1_allOfHomeGo_64 : decode cX1_allOfHomeGo 64 = .ok (.iinc 5 1, 3) := by decide +kernel
theorem dX1_allOfHomeGo_67 : decode cX1_allOfHomeGo 67 = .ok (.goto (-56), 3) := by decide +kernel
theorem dX1_allOfHomeGo_70 : decode cX1_allOfHomeGo 70 = .ok (.iload 4, 2) := by decide +kernel
theorem dX1_allOfHomeGo_72 : decode cX1_allOfHomeGo 72 = .ok (.ifCond .ne 7, 3) := by decide +kernel
theorem dX1_allOfHomeGo_75 : decode cX1_allOfHomeGo 75 = .ok (.iconst 1, 1) := by decide +kernel
theorem dX1_allOfHomeGo_76 : decode cX1_allOfHomeGo 76 = .ok (.goto 4, 3) := by decide +kernel
theorem dX1_allOfHomeGo_79 : decode cX1_allOfHomeGo 79 = .ok (.iconst 0, 1) := by decide +kernel
theorem dX1_allOfHomeGo_80 : decode cX1_allOfHomeGo 80 = .ok (.ireturn, 1) := by decide +kernel
theorem dX1_numberFits_0 : decode cX1_numberFits 0 = .ok (.aload_n 0, 1) := by decide +kernel
theorem dX1_numberFits_1 : decode cX1_numberFits 1 = .ok (.getfield 33, 3) := by decide +kernel
theorem dX1_numberFits_4 : decode cX1_numberFits 4 = .ok (.iload_n 1, 1) := by decide +kernel
theorem dX1_numberFits_5 : decode cX1_numberFits 5 = .ok (.iaload, 1) := by decide +kernel
theorem dX1_numberFits_6 : decode cX1_numberFits 6 = .ok (.istore 5, 2) := by decide +kernel
theorem dX1_numberFits_8 : decode cX1_numberFits 8 = .ok (.iconst 0, 1) := by decide +kernel
theorem dX1_numberFits_9 : decode cX1_numberFits 9 = .ok (.istore 6, 2) := by decide +kernel
theorem dX1_numberFits_11 : decode cX1_numberFits 11 = .ok (.iload 6, 2) := by decide +kernel
theorem dX1_numberFits_13 : decode cX1_numberFits 13 = .ok (.aload_n 0, 1) := by decide +kernel
theorem dX1_numberFits_14 : decode cX1_numberFits 14 = .ok (.getfield 40, 3) := by decide +kernel
theorem dX1_numberFits_17 : decode cX1_numberFits 17 = .ok (.if_icmp .ge 27, 3) := by decide +kernel
theorem dX1_numberFits_20 : decode cX1_numberFits 20 = .ok (.iload 5, 2) := by decide +kernel
theorem dX1_numberFits_22 : decode cX1_numberFits 22 = .ok (.aload_n 2, 1) := by decide +kernel
theorem dX1_numberFits_23 : decode cX1_numberFits 23 = .ok (.iload_n 3, 1) := by decide +kernel
theorem dX1_numberFits_24 : decode cX1_numberFits 24 = .ok (.iload 6, 2) := by decide +kernel
theorem dX1_numberFits_26 : decode cX1_numberFits 26 = .ok (.aload_n 0, 1) := by decide +kernel
theorem dX1_numberFits_27 : decode cX1_numberFits 27 = .ok (.getfield 43, 3) := by decide +kernel
theorem dX1_numberFits_30 : decode cX1_numberFits 30 = .ok (.imul, 1) := by decide +kernel
theorem dX1_numberFits_31 : decode cX1_numberFits 31 = .ok (.iadd, 1) := by decide +kernel
theorem dX1_numberFits_32 : decode cX1_numberFits 32 = .ok (.iload_n 1, 1) := by decide +kernel
theorem dX1_numberFits_33 : decode cX1_numberFits 33 = .ok (.iadd, 1) := by decide +kernel
theorem dX1_numberFits_34 : decode cX1_numberFits 34 = .ok (.iaload, 1) := by decide +kernel
theorem dX1_numberFits_35 : decode cX1_numberFits 35 = .ok (.isub, 1) := by decide +kernel
theorem dX1_numberFits_36 : decode cX1_numberFits 36 = .ok (.istore 5, 2) := by decide +kernel
theorem dX1_numberFits_38 : decode cX1_numberFits 38 = .ok (.iinc 6 1, 3) := by decide +kernel
theorem dX1_numberFits_41 : decode cX1_numberFits 41 = .ok (.goto (-30), 3) := by decide +kernel
theorem dX1_numberFits_44 : decode cX1_numberFits 44 = .ok (.iload 5, 2) := by decide +kernel
theorem dX1_numberFits_46 : decode cX1_numberFits 46 = .ok (.ifCond .lt 15, 3) := by decide +kernel
theorem dX1_numberFits_49 : decode cX1_numberFits 49 = .ok (.iload 4, 2) := by decide +kernel
theorem dX1_numberFits_51 : decode cX1_numberFits 51 = .ok (.ifCond .lt 10, 3) := by decide +kernel
theorem dX1_numberFits_54 : decode cX1_numberFits 54 = .ok (.iload 4, 2) := by decide +kernel
theorem dX1_numberFits_56 : decode cX1_numberFits 56 = .ok (.ldc 74, 2) := by decide +kernel
theorem dX1_numberFits_58 : decode cX1_numberFits 58 = .ok (.if_icmp .le 5, 3) := by decide +kernel
theorem dX1_numberFits_61 : decode cX1_numberFits 61 = .ok (.iconst 0, 1) := by decide +kernel
theorem dX1_numberFits_62 : decode cX1_numberFits 62 = .ok (.ireturn, 1) := by decide +kernel
theorem dX1_numberFits_63 : decode cX1_numberFits 63 = .ok (.iload 5, 2) := by decide +kernel
theorem dX1_numberFits_65 : decode cX1_numberFits 65 = .ok (.ifCond .eq 8, 3) := by decide +kernel
theorem dX1_numberFits_68 : decode cX1_numberFits 68 = .ok (.iload 4, 2) := by decide +kernel
theorem dX1_numberFits_70 : decode cX1_numberFits 70 = .ok (.ifCond .ne 7, 3) := by decide +kernel
theorem dX1_numberFits_73 : decode cX1_numberFits 73 = .ok (.iconst 1, 1) := by decide +kernel
theorem dX1_numberFits_74 : decode cX1_numberFits 74 = .ok (.goto 4, 3) := by decide +kernel
theorem dX1_numberFits_77 : decode cX1_numberFits 77 = .ok (.iconst 0, 1) := by decide +kernel
theorem dX1_numberFits_78 : decode cX1_numberFits 78 = .ok (.ireturn, 1) := by decide +kernel
theorem dX1_goesToLeast_0 : decode cX1_goesToLeast 0 = .ok (.ldc 75, 2) := by decide +kernel
theorem dX1_goesToLeast_2 : decode cX1_goesToLeast 2 = .ok (.istore 5, 2) := by decide +kernel
theorem dX1_goesToLeast_4 : decode cX1_goesToLeast 4 = .ok (.iconst 0, 1) := by decide +kernel
theorem dX1_goesToLeast_5 : decode cX1_goesToLeast 5 = .ok (.istore 6, 2) := by decide +kernel
theorem dX1_goesToLeast_7 : decode cX1_goesToLeast 7 = .ok (.iconst 0, 1) := by decide +kernel
theorem dX1_goesToLeast_8 : decode cX1_goesToLeast 8 = .ok (.istore 7, 2) := by decide +kernel
theorem dX1_goesToLeast_10 : decode cX1_goesToLeast 10 = .ok (.iload 7, 2) := by decide +kernel
theorem dX1_goesToLeast_12 : decode cX1_goesToLeast 12 = .ok (.aload_n 0, 1) := by decide +kernel
theorem dX1_goesToLeast_13 : decode cX1_goesToLeast 13 = .ok (.getfield 43, 3) := by decide +kernel
theorem dX1_goesToLeast_16 : decode cX1_goesToLeast 16 = .ok (.if_icmp .ge 74, 3) := by decide +kernel
theorem dX1_goesToLeast_19 : decode cX1_goesToLeast 19 = .ok (.aload_n 0, 1) := by decide +kernel
theorem dX1_goesToLeast_20 : decode cX1_goesToLeast 20 = .ok (.iload_n 1, 1) := by decide +kernel
theorem dX1_goesToLeast_21 : decode cX1_goesToLeast 21 = .ok (.iload 7, 2) := by decide +kernel
theorem dX1_goesToLeast_23 : decode cX1_goesToLeast 23 = .ok (.invokevirtual 70, 3) := by decide +kernel
theorem dX1_goesToLeast_26 : decode cX1_goesToLeast 26 = .ok (.ifCond .ne 58, 3) := by decide +kernel
theorem dX1_goesToLeast_29 : decode cX1_goesToLeast 29 = .ok (.aload_n 0, 1) := by decide +kernel
theorem dX1_goesToLeast_30 : decode cX1_goesToLeast 30 = .ok (.iload 7, 2) := by decide +kernel
theorem dX1_goesToLeast_32 : decode cX1_goesToLeast 32 = .ok (.aload_n 0, 1) := by decide +kernel
theorem dX1_goesToLeast_33 : decode cX1_goesToLeast 33 = .ok (.getfield 9, 3) := by decide +kernel
theorem dX1_goesToLeast_36 : decode cX1_goesToLeast 36 = .ok (.iload_n 1, 1) := by decide +kernel
theorem dX1_goesToLeast_37 : decode cX1_goesToLeast 37 = .ok (.iaload, 1) := by decide +kernel
theorem dX1_goesToLeast_38 : decode cX1_goesToLeast 38 = .ok (.aload_n 0, 1) := by decide +kernel
theorem dX1_goesToLeast_39 : decode cX1_goesToLeast 39 = .ok (.getfield 15, 3) := by decide +kernel
theorem dX1_goesToLeast_42 : decode cX1_goesToLeast 42 = .ok (.iload_n 1, 1) := by decide +kernel
theorem dX1_goesToLeast_43 : decode cX1_goesToLeast 43 = .ok (.iaload, 1) := by decide +kernel
theorem dX1_goesToLeast_44 : decode cX1_goesToLeast 44 = .ok (.invokevirtual 76, 3) := by decide +kernel
theorem dX1_goesToLeast_47 : decode cX1_goesToLeast 47 = .ok (.aload_n 2, 1) := by decide +kernel
theorem dX1_goesToLeast_48 : decode cX1_goesToLeast 48 = .ok (.iload 4, 2) := by decide +kernel
theorem dX1_goesToLeast_50 : decode cX1_goesToLeast 50 = .ok (.iload 7, 2) := by decide +kernel
theorem dX1_goesToLeast_52 : decode cX1_goesToLeast 52 = .ok (.iadd, 1) := by decide +kernel
theorem dX1_goesToLeast_53 : decode cX1_goesToLeast 53 = .ok (.iaload, 1) := by decide +kernel
theorem dX1_goesToLeast_54 : decode cX1_goesToLeast 54 = .ok (.iadd, 1) := by decide +kernel
theorem dX1_goesToLeast_55 : decode cX1_goesToLeast 55 = .ok (.istore 8, 2) := by decide +kernel
theorem dX1_goesToLeast_57 : decode cX1_goesToLeast 57 = .ok (.iload 5, 2) := by decide +kernel
theorem dX1_goesToLeast_59 : decode cX1_goesToLeast 59 = .ok (.iload 8, 2) := by decide +kernel
theorem dX1_goesToLeast_61 : decode cX1_goesToLeast 61 = .ok (.invokestatic 80, 3) := by decide +kernel
theorem dX1_goesToLeast_64 : decode cX1_goesToLeast 64 = .ok (.istore 5, 2) := by decide +kernel
theorem dX1_goesToLeast_66 : decode cX1_goesToLeast 66 = .ok (.aload_n 2, 1) := by decide +kernel
theorem dX1_goesToLeast_67 : decode cX1_goesToLeast 67 = .ok (.iload_n 3, 1) := by decide +kernel
theorem dX1_goesToLeast_68 : decode cX1_goesToLeast 68 = .ok (.iload 7, 2) := by decide +kernel
theorem dX1_goesToLeast_70 : decode cX1_goesToLeast 70 = .ok (.iadd, 1) := by decide +kernel
theorem dX1_goesToLeast_71 : decode cX1_goesToLeast 71 = .ok (.iaload, 1) := by decide +kernel
theorem dX1_goesToLeast_72 : decode cX1_goesToLeast 72 = .ok (.ifCond .le 12, 3) := by decide +kernel
theorem dX1_goesToLeast_75 : decode cX1_goesToLeast 75 = .ok (.iload 6, 2) := by decide +kernel
theorem dX1_goesToLeast_77 : decode cX1_goesToLeast 77 = .ok (.iload 8, 2) := by decide +kernel
theorem dX1_goesToLeast_79 : decode cX1_goesToLeast 79 = .ok (.invokestatic 84, 3) := by decide +kernel
theorem dX1_goesToLeast_82 : decode cX1_goesToLeast 82 = .ok (.istore 6, 2) := by decide +kernel
theorem dX1_goesToLeast_84 : decode cX1_goesToLeast 84 = .ok (.iinc 7 1, 3) := by decide +kernel
theorem dX1_goesToLeast_87 : decode cX1_goesToLeast 87 = .ok (.goto (-77), 3) := by decide +kernel
theorem dX1_goesToLeast_90 : decode cX1_goesToLeast 90 = .ok (.iload 6, 2) := by decide +kernel
theorem dX1_goesToLeast_92 : decode cX1_goesToLeast 92 = .ok (.iload 5, 2) := by decide +kernel
theorem dX1_goesToLeast_94 : decode cX1_goesToLeast 94 = .ok (.if_icmp .gt 7, 3) := by decide +kernel
theorem dX1_goesToLeast_97 : decode cX1_goesToLeast 97 = .ok (.iconst 1, 1) := by decide +kernel
theorem dX1_goesToLeast_98 : decode cX1_goesToLeast 98 = .ok (.goto 4, 3) := by decide +kernel
theorem dX1_goesToLeast_101 : decode cX1_goesToLeast 101 = .ok (.iconst 0, 1) := by decide +kernel
theorem dX1_goesToLeast_102 : decode cX1_goesToLeast 102 = .ok (.ireturn, 1) := by decide +kernel
theorem dX2_init_0 : decode cX2_init 0 = .ok (.aload_n 0, 1) := by decide +kernel
theorem dX2_init_1 : decode cX2_init 1 = .ok (.invokespecial 3, 3) := by decide +kernel
theorem dX2_init_4 : decode cX2_init 4 = .ok (.aload_n 0, 1) := by decide +kernel
theorem dX2_init_5 : decode cX2_init 5 = .ok (.bipush 15, 2) := by decide +kernel
theorem dX2_init_7 : decode cX2_init 7 = .ok (.newarray .int, 2) := by decide +kernel
theorem dX2_init_9 : decode cX2_init 9 = .ok (.putfield 9, 3) := by decide +kernel
theorem dX2_init_12 : decode cX2_init 12 = .ok (.aload_n 0, 1) := by decide +kernel
theorem dX2_init_13 : decode cX2_init 13 = .ok (.bipush 15, 2) := by decide +kernel
theorem dX2_init_15 : decode cX2_init 15 = .ok (.newarray .int, 2) := by decide +kernel
theorem dX2_init_17 : decode cX2_init 17 = .ok (.putfield 15, 3) := by decide +kernel
theorem dX2_init_20 : decode cX2_init 20 = .ok (.aload_n 0, 1) := by decide +kernel
theorem dX2_init_21 : decode cX2_init 21 = .ok (.bipush 15, 2) := by decide +kernel
theorem dX2_init_23 : decode cX2_init 23 = .ok (.newarray .int, 2) := by decide +kernel
theorem dX2_init_25 : decode cX2_init 25 = .ok (.putfield 18, 3) := by decide +kernel
theorem dX2_init_28 : decode cX2_init 28 = .ok (.aload_n 0, 1) := by decide +kernel
theorem dX2_init_29 : decode cX2_init 29 = .ok (.bipush 15, 2) := by decide +kernel
theorem dX2_init_31 : decode cX2_init 31 = .ok (.newarray .int, 2) := by decide +kernel
theorem dX2_init_33 : decode cX2_init 33 = .ok (.putfield 21, 3) := by decide +kernel
theorem dX2_init_36 : decode cX2_init 36 = .ok (.aload_n 0, 1) := by decide +kernel
theorem dX2_init_37 : decode cX2_init 37 = .ok (.bipush 80, 2) := by decide +kernel
theorem dX2_init_39 : decode cX2_init 39 = .ok (.newarray .int, 2) := by decide +kernel
theorem dX2_init_41 : decode cX2_init 41 = .ok (.putfield 24, 3) := by decide +kernel
theorem dX2_init_44 : decode cX2_init 44 = .ok (.return_, 1) := by decide +kernel
theorem dX2_readItems_0 : decode cX2_readItems 0 = .ok (.aload_n 0, 1) := by decide +kernel
theorem dX2_readItems_1 : decode cX2_readItems 1 = .ok (.aload_n 1, 1) := by decide +kernel
theorem dX2_readItems_2 : decode cX2_readItems 2 = .ok (.iload_n 2, 1) := by decide +kernel
theorem dX2_readItems_3 : decode cX2_readItems 3 = .ok (.iload_n 3, 1) := by decide +kernel
theorem dX2_readItems_4 : decode cX2_readItems 4 = .ok (.invokevirtual 27, 3) := by decide +kernel
theorem dX2_readItems_7 : decode cX2_readItems 7 = .ok (.iconst 0, 1) := by decide +kernel
theorem dX2_readItems_8 : decode cX2_readItems 8 = .ok (.istore 4, 2) := by decide +kernel
theorem dX2_readItems_10 : decode cX2_readItems 10 = .ok (.iload 4, 2) := by decide +kernel
theorem dX2_readItems_12 : decode cX2_readItems 12 = .ok (.bipush 15, 2) := by decide +kernel
theorem dX2_readItems_14 : decode cX2_readItems 14 = .ok (.if_icmp .ge 73, 3) := by decide +kernel
theorem dX2_readItems_17 : decode cX2_readItems 17 = .ok (.aload_n 0, 1) := by decide +kernel
theorem dX2_readItems_18 : decode cX2_readItems 18 = .ok (.getfield 31, 3) := by decide +kernel
theorem dX2_readItems_21 : decode cX2_readItems 21 = .ok (.ifCond .eq 66, 3) := by decide +kernel
theorem dX2_readItems_24 : decode cX2_readItems 24 = .ok (.aload_n 0, 1) := by decide +kernel
theorem dX2_readItems_25 : decode cX2_readItems 25 = .ok (.iload 4, 2) := by decide +kernel
theorem dX2_readItems_27 : decode cX2_readItems 27 = .ok (.invokevirtual 35, 3) := by decide +kernel
theorem dX2_readItems_30 : decode cX2_readItems 30 = .ok (.aload_n 0, 1) := by decide +kernel
theorem dX2_readItems_31 : decode cX2_readItems 31 = .ok (.getfield 31, 3) := by decide +kernel
theorem dX2_readItems_34 : decode cX2_readItems 34 = .ok (.ifCond .eq 19, 3) := by decide +kernel
theorem dX2_readItems_37 : decode cX2_readItems 37 = .ok (.aload_n 0, 1) := by decide +kernel
theorem dX2_readItems_38 : decode cX2_readItems 38 = .ok (.getfield 39, 3) := by decide +kernel
theorem dX2_readItems_41 : decode cX2_readItems 41 = .ok (.aload_n 0, 1) := by decide +kernel
theorem dX2_readItems_42 : decode cX2_readItems 42 = .ok (.getfield 43, 3) := by decide +kernel
theorem dX2_readItems_45 : decode cX2_readItems 45 = .ok (.if_icmp .ne 8, 3) := by decide +kernel
theorem dX2_readItems_48 : decode cX2_readItems 48 = .ok (.iload 4, 2) := by decide +kernel
theorem dX2_readItems_50 : decode cX2_readItems 50 = .ok (.iconst 1, 1) := by decide +kernel
theorem dX2_readItems_51 : decode cX2_readItems 51 = .ok (.iadd, 1) := by decide +kernel
theorem dX2_readItems_52 : decode cX2_readItems 52 = .ok (.ireturn, 1) := by decide +kernel
theorem dX2_readItems_53 : decode cX2_readItems 53 = .ok (.aload_n 0, 1) := by decide +kernel
theorem dX2_readItems_54 : decode cX2_readItems 54 = .ok (.getfield 31, 3) := by decide +kernel
theorem dX2_readItems_57 : decode cX2_readItems 57 = .ok (.ifCond .eq 18, 3) := by decide +kernel
theorem dX2_readItems_60 : decode cX2_readItems 60 = .ok (.iload 4, 2) := by decide +kernel
theorem dX2_readItems_62 : decode cX2_readItems 62 = .ok (.bipush 14, 2) := by decide +kernel
theorem dX2_readItems_64 : decode cX2_readItems 64 = .ok (.if_icmp .ne 11, 3) := by decide +kernel
theorem dX2_readItems_67 : decode cX2_readItems 67 = .ok (.aload_n 0, 1) := by decide +kernel
theorem dX2_readItems_68 : decode cX2_readItems 68 = .ok (.aload_n 0, 1) := by decide +kernel
theorem dX2_readItems_69 : decode cX2_readItems 69 = .ok (.getfield 39, 3) := by decide +kernel
theorem dX2_readItems_72 : decode cX2_readItems 72 = .ok (.invokevirtual 46, 3) := by decide +kernel
theorem dX2_readItems_75 : decode cX2_readItems 75 = .ok (.aload_n 0, 1) := by decide +kernel
theorem dX2_readItems_76 : decode cX2_readItems 76 = .ok (.bipush 59, 2) := by decide +kernel
theorem dX2_readItems_78 : decode cX2_readItems 78 = .ok (.invokevirtual 49, 3) := by decide +kernel
theorem dX2_readItems_81 : decode cX2_readItems 81 = .ok (.iinc 4 1, 3) := by decide +kernel
theorem dX2_readItems_84 : decode cX2_readItems 84 = .ok (.goto (-74), 3) := by decide +kernel
theorem dX2_readItems_87 : decode cX2_readItems 87 = .ok (.iconst (-1), 1) := by decide +kernel
theorem dX2_readItems_88 : decode cX2_readItems 88 = .ok (.ireturn, 1) := by decide +kernel
theorem dX2_begin_0 : decode cX2_begin 0 = .ok (.aload_n 1, 1) := by decide +kernel
theorem dX2_begin_1 : decode cX2_begin 1 = .ok (.iload_n 2, 1) := by decide +kernel
theorem dX2_begin_2 : decode cX2_begin 2 = .ok (.aload_n 0, 1) := by decide +kernel
theorem dX2_begin_3 : decode cX2_begin 3 = .ok (.getfield 24, 3) := by decide +kernel
theorem dX2_begin_6 : decode cX2_begin 6 = .ok (.iconst 0, 1) := by decide +kernel
theorem dX2_begin_7 : decode cX2_begin 7 = .ok (.iload_n 3, 1) := by decide +kernel
theorem dX2_begin_8 : decode cX2_begin 8 = .ok (.invokestatic 52, 3) := by decide +kernel
theorem dX2_begin_11 : decode cX2_begin 11 = .ok (.aload_n 0, 1) := by decide +kernel
theorem dX2_begin_12 : decode cX2_begin 12 = .ok (.iload_n 3, 1) := by decide +kernel
theorem dX2_begin_13 : decode cX2_begin 13 = .ok (.putfield 43, 3) := by decide +kernel
theorem dX2_begin_16 : decode cX2_begin 16 = .ok (.aload_n 0, 1) := by decide +kernel
theorem dX2_begin_17 : decode cX2_begin 17 = .ok (.iconst 0, 1) := by decide +kernel
theorem dX2_begin_18 : decode cX2_begin 18 = .ok (.putfield 39, 3) := by decide +kernel
theorem dX2_begin_21 : decode cX2_begin 21 = .ok (.aload_n 0, 1) := by decide +kernel
theorem dX2_begin_22 : decode cX2_begin 22 = .ok (.iconst 0, 1) := by decide +kernel
theorem dX2_begin_23 : decode cX2_begin 23 = .ok (.putfield 58, 3) := by decide +kernel
theorem dX2_begin_26 : decode cX2_begin 26 = .ok (.aload_n 0, 1) := by decide +kernel
theorem dX2_begin_27 : decode cX2_begin 27 = .ok (.iconst 0, 1) := by decide +kernel
theorem dX2_begin_28 : decode cX2_begin 28 = .ok (.putfield 61, 3) := by decide +kernel
theorem dX2_begin_31 : decode cX2_begin 31 = .ok (.aload_n 0, 1) := by decide +kernel
theorem dX2_begin_32 : decode cX2_begin 32 = .ok (.iconst 1, 1) := by decide +kernel
theorem dX2_begin_33 : decode cX2_begin 33 = .ok (.putfield 31, 3) := by decide +kernel
theorem dX2_begin_36 : decode cX2_begin 36 = .ok (.return_, 1) := by decide +kernel
theorem dX2_layOut_0 : decode cX2_layOut 0 = .ok (.aload_n 1, 1) := by decide +kernel
theorem dX2_layOut_1 : decode cX2_layOut 1 = .ok (.invokevirtual 64, 3) := by decide +kernel
theorem dX2_layOut_4 : decode cX2_layOut 4 = .ok (.iconst 0, 1) := by decide +kernel
theorem dX2_layOut_5 : decode cX2_layOut 5 = .ok (.istore_n 3, 1) := by decide +kernel
theorem dX2_layOut_6 : decode cX2_layOut 6 = .ok (.iload_n 3, 1) := by decide +kernel
theorem dX2_layOut_7 : decode cX2_layOut 7 = .ok (.iload_n 2, 1) := by decide +kernel
theorem dX2_layOut_8 : decode cX2_layOut 8 = .ok (.if_icmp .ge 80, 3) := by decide +kernel
theorem dX2_layOut_11 : decode cX2_layOut 11 = .ok (.iload_n 3, 1) := by decide +kernel
theorem dX2_layOut_12 : decode cX2_layOut 12 = .ok (.bipush 15, 2) := by decide +kernel
theorem dX2_layOut_14 : decode cX2_layOut 14 = .ok (.if_icmp .ge 74, 3) := by decide +kernel
theorem dX2_layOut_17 : decode cX2_layOut 17 = .ok (.aload_n 0, 1) := by decide +kernel
theorem dX2_layOut_18 : decode cX2_layOut 18 = .ok (.getfield 9, 3) := by decide +kernel
theorem dX2_layOut_21 : decode cX2_layOut 21 = .ok (.iload_n 3, 1) := by decide +kernel
theorem dX2_layOut_22 : decode cX2_layOut 22 = .ok (.iaload, 1) := by decide +kernel
theorem dX2_layOut_23 : decode cX2_layOut 23 = .ok (.iconst (-1), 1) := by decide +kernel
theorem dX2_layOut_24 : decode cX2_layOut 24 = .ok (.if_icmp .ne 29, 3) := by decide +kernel
theorem dX2_layOut_27 : decode cX2_layOut 27 = .ok (.aload_n 1, 1) := by decide +kernel
theorem dX2_layOut_28 : decode cX2_layOut 28 = .ok (.aload_n 0, 1) := by decide +kernel
theorem dX2_layOut_29 : decode cX2_layOut 29 = .ok (.getfield 15, 3) := by decide +kernel
theorem dX2_layOut_32 : decode cX2_layOut 32 = .ok (.iload_n 3, 1) := by decide +kernel
theorem dX2_layOut_33 : decode cX2_layOut 33 = .ok (.iaload, 1) := by decide +kernel
theorem dX2_layOut_34 : decode cX2_layOut 34 = .ok (.aload_n 0, 1) := by decide +kernel
theorem dX2_layOut_35 : decode cX2_layOut 35 = .ok (.getfield 18, 3) := by decide +kernel
theorem dX2_layOut_38 : decode cX2_layOut 38 = .ok (.iload_n 3, 1) := by decide +kernel
theorem dX2_layOut_39 : decode cX2_layOut 39 = .ok (.iaload, 1) := by decide +kernel
theorem dX2_layOut_40 : decode cX2_layOut 40 = .ok (.aload_n 0, 1) := by decide +kernel
theorem dX2_layOut_41 : decode cX2_layOut 41 = .ok (.getfield 21, 3) := by decide +kernel
theorem dX2_layOut_44 : decode cX2_layOut 44 = .ok (.iload_n 3, 1) := by decide +kernel
theorem dX2_layOut_45 : decode cX2_layOut 45 = .ok (.iaload, 1) := by decide +kernel
theorem dX2_layOut_46 : decode cX2_layOut 46 = .ok (.invokevirtual 69, 3) := by decide +kernel
theorem dX2_layOut_49 : decode cX2_layOut 49 = .ok (.pop, 1) := by decide +kernel
theorem dX2_layOut_50 : decode cX2_layOut 50 = .ok (.goto 32, 3) := by decide +kernel
theorem dX2_layOut_53 : decode cX2_layOut 53 = .ok (.aload_n 1, 1) := by decide +kernel
theorem dX2_layOut_54 : decode cX2_layOut 54 = .ok (.aload_n 0, 1) := by decide +kernel
theorem dX2_layOut_55 : decode cX2_layOut 55 = .ok (.getfield 9, 3) := by decide +kernel
theorem dX2_layOut_58 : decode cX2_layOut 58 = .ok (.iload_n 3, 1) := by decide +kernel
theorem dX2_layOut_59 : decode cX2_layOut 59 = .ok (.iaload, 1) := by decide +kernel
theorem dX2_layOut_60 : decode cX2_layOut 60 = .ok (.aload_n 0, 1) := by decide +kernel
theorem dX2_layOut_61 : decode cX2_layOut 61 = .ok (.getfield 15, 3) := by decide +kernel
theorem dX2_layOut_64 : decode cX2_layOut 64 = .ok (.iload_n 3, 1) := by decide +kernel
theorem dX2_layOut_65 : decode cX2_layOut 65 = .ok (.iaload, 1) := by decide +kernel
theorem dX2_layOut_66 : decode cX2_layOut 66 = .ok (.aload_n 0, 1) := by decide +kernel
theorem dX2_layOut_67 : decode cX2_layOut 67 = .ok (.getfield 18, 3) := by decide +kernel
theorem dX2_layOut_70 : decode cX2_layOut 70 = .ok (.iload_n 3, 1) := by decide +kernel
theorem dX2_layOut_71 : decode cX2_layOut 71 = .ok (.iaload, 1) := by decide +kernel
theorem dX2_layOut_72 : decode cX2_layOut 72 = .ok (.aload_n 0, 1) := by decide +kernel
theorem dX2_layOut_73 : decode cX2_layOut 73 = .ok (.getfield 21, 3) := by decide +kernel
theorem dX2_layOut_76 : decode cX2_layOut 76 = .ok (.iload_n 3, 1) := by decide +kernel
theorem dX2_layOut_77 : decode cX2_layOut 77 = .ok (.iaload, 1) := by decide +kernel
theorem dX2_layOut_78 : decode cX2_layOut 78 = .ok (.invokevirtual 73, 3) := by decide +kernel
theorem dX2_layOut_81 : decode cX2_layOut 81 = .ok (.pop, 1) := by decide +kernel
theorem dX2_layOut_82 : decode cX2_layOut 82 = .ok (.iinc 3 1, 3) := by decide +kernel
theorem dX2_layOut_85 : decode cX2_layOut 85 = .ok (.goto (-79), 3) := by decide +kernel
theorem dX2_layOut_88 : decode cX2_layOut 88 = .ok (.return_, 1) := by decide +kernel
theorem dX2_readItem_0 : decode cX2_readItem 0 = .ok (.aload_n 0, 1) := by decide +kernel
theorem dX2_readItem_1 : decode cX2_readItem 1 = .ok (.iload_n 1, 1) := by decide +kernel
theorem dX2_readItem_2 : decode cX2_readItem 2 = .ok (.invokevirtual 77, 3) := by decide +kernel
theorem dX2_readItem_5 : decode cX2_readItem 5 = .ok (.aload_n 0, 1) := by decide +kernel
theorem dX2_readItem_6 : decode cX2_readItem 6 = .ok (.getfield 15, 3) := by decide +kernel
theorem dX2_readItem_9 : decode cX2_readItem 9 = .ok (.iload_n 1, 1) := by decide +kernel
theorem dX2_readItem_10 : decode cX2_readItem 10 = .ok (.aload_n 0, 1) := by decide +kernel
theorem dX2_readItem_11 : decode cX2_readItem 11 = .ok (.iconst 0, 1) := by decide +kernel
theorem dX2_readItem_12 : decode cX2_readItem 12 = .ok (.bipush 60, 2) := by decide +kernel
theorem dX2_readItem_14 : decode cX2_readItem 14 = .ok (.invokevirtual 80, 3) := by decide +kernel
theorem dX2_readItem_17 : decode cX2_readItem 17 = .ok (.iastore, 1) := by decide +kernel
theorem dX2_readItem_18 : decode cX2_readItem 18 = .ok (.aload_n 0, 1) := by decide +kernel
theorem dX2_readItem_19 : decode cX2_readItem 19 = .ok (.bipush 44, 2) := by decide +kernel
theorem dX2_readItem_21 : decode cX2_readItem 21 = .ok (.invokevirtual 49, 3) := by decide +kernel
theorem dX2_readItem_24 : decode cX2_readItem 24 = .ok (.aload_n 0, 1) := by decide +kernel
theorem dX2_readItem_25 : decode cX2_readItem 25 = .ok (.getfield 18, 3) := by decide +kernel
theorem dX2_readItem_28 : decode cX2_readItem 28 = .ok (.iload_n 1, 1) := by decide +kernel
theorem dX2_readItem_29 : decode cX2_readItem 29 = .ok (.aload_n 0, 1) := by decide +kernel
theorem dX2_readItem_30 : decode cX2_readItem 30 = .ok (.iconst 0, 1) := by decide +kernel
theorem dX2_readItem_31 : decode cX2_readItem 31 = .ok (.bipush 60, 2) := by decide +kernel
theorem dX2_readItem_33 : decode cX2_readItem 33 = .ok (.invokevirtual 80, 3) := by decide +kernel
theorem dX2_readItem_36 : decode cX2_readItem 36 = .ok (.iastore, 1) := by decide +kernel
theorem dX2_readItem_37 : decode cX2_readItem 37 = .ok (.aload_n 0, 1) := by decide +kernel
theorem dX2_readItem_38 : decode cX2_readItem 38 = .ok (.getfield 9, 3) := by decide +kernel
theorem dX2_readItem_41 : decode cX2_readItem 41 = .ok (.iload_n 1, 1) := by decide +kernel
theorem dX2_readItem_42 : decode cX2_readItem 42 = .ok (.iaload, 1) := by decide +kernel
theorem dX2_readItem_43 : decode cX2_readItem 43 = .ok (.iconst (-1), 1) := by decide +kernel
theorem dX2_readItem_44 : decode cX2_readItem 44 = .ok (.if_icmp .ne 24, 3) := by decide +kernel
theorem dX2_readItem_47 : decode cX2_readItem 47 = .ok (.aload_n 0, 1) := by decide +kernel
theorem dX2_readItem_48 : decode cX2_readItem 48 = .ok (.bipush 42, 2) := by decide +kernel
theorem dX2_readItem_50 : decode cX2_readItem 50 = .ok (.invokevirtual 49, 3) := by decide +kernel
theorem dX2_readItem_53 : decode cX2_readItem 53 = .ok (.aload_n 0, 1) := by decide +kernel
theorem dX2_readItem_54 : decode cX2_readItem 54 = .ok (.getfield 21, 3) := by decide +kernel
theorem dX2_readItem_57 : decode cX2_readItem 57 = .ok (.iload_n 1, 1) := by decide +kernel
theorem dX2_readItem_58 : decode cX2_readItem 58 = .ok (.aload_n 0, 1) := by decide +kernel
theorem dX2_readItem_59 : decode cX2_readItem 59 = .ok (.iconst 1, 1) := by decide +kernel
theorem dX2_readItem_60 : decode cX2_readItem 60 = .ok (.iconst 5, 1) := by decide +kernel
theorem dX2_readItem_61 : decode cX2_readItem 61 = .ok (.invokevirtual 80, 3) := by decide +kernel
theorem dX2_readItem_64 : decode cX2_readItem 64 = .ok (.iastore, 1) := by decide +kernel
theorem dX2_readItem_65 : decode cX2_readItem 65 = .ok (.goto 22, 3) := by decide +kernel
theorem dX2_readItem_68 : decode cX2_readItem 68 = .ok (.aload_n 0, 1) := by decide +kernel
theorem dX2_readItem_69 : decode cX2_readItem 69 = .ok (.bipush 61, 2) := by decide +kernel
theorem dX2_readItem_71 : decode cX2_readItem 71 = .ok (.invokevirtual 49, 3) := by decide +kernel
theorem dX2_readItem_74 : decode cX2_readItem 74 = .ok (.aload_n 0, 1) := by decide +kernel
theorem dX2_readItem_75 : decode cX2_readItem 75 = .ok (.getfield 21, 3) := by decide +kernel
theorem dX2_readItem_78 : decode cX2_readItem 78 = .ok (.iload_n 1, 1) := by decide +kernel
theorem dX2_readItem_79 : decode cX2_readItem 79 = .ok (.aload_n 0, 1) := by decide +kernel
theorem dX2_readItem_80 : decode cX2_readItem 80 = .ok (.iconst 0, 1) := by decide +kernel
theorem dX2_readItem_81 : decode cX2_readItem 81 = .ok (.bipush 50, 2) := by decide +kernel
theorem dX2_readItem_83 : decode cX2_readItem 83 = .ok (.invokevirtual 80, 3) := by decide +kernel
theorem dX2_readItem_86 : decode cX2_readItem 86 = .ok (.iastore, 1) := by decide +kernel
theorem dX2_readItem_87 : decode cX2_readItem 87 = .ok (.return_, 1) := by decide +kernel
theorem dX2_readKind_0 : decode cX2_readKind 0 = .ok (.aload_n 0, 1) := by decide +kernel
theorem dX2_readKind_1 : decode cX2_readKind 1 = .ok (.invokevirtual 84, 3) := by decide +kernel
theorem dX2_readKind_4 : decode cX2_readKind 4 = .ok (.istore_n 2, 1) := by decide +kernel
theorem dX2_readKind_5 : decode cX2_readKind 5 = .ok (.aload_n 0, 1) := by decide +kernel
theorem dX2_readKind_6 : decode cX2_readKind 6 = .ok (.getfield 9, 3) := by decide +kernel
theorem dX2_readKind_9 : decode cX2_readKind 9 = .ok (.iload_n 1, 1) := by decide +kernel
theorem dX2_readKind_10 : decode cX2_readKind 10 = .ok (.iload_n 2, 1) := by decide +kernel
theorem dX2_readKind_11 : decode cX2_readKind 11 = .ok (.invokestatic 88, 3) := by decide +kernel
theorem dX2_readKind_14 : decode cX2_readKind 14 = .ok (.iastore, 1) := by decide +kernel
theorem dX2_readKind_15 : decode cX2_readKind 15 = .ok (.iload_n 2, 1) := by decide +kernel
theorem dX2_readKind_16 : decode cX2_readKind 16 = .ok (.bipush 104, 2) := by decide +kernel
theorem dX2_readKind_18 : decode cX2_readKind 18 = .ok (.if_icmp .ne 16, 3) := by decide +kernel
theorem dX2_readKind_21 : decode cX2_readKind 21 = .ok (.aload_n 0, 1) := by decide +kernel
theorem dX2_readKind_22 : decode cX2_readKind 22 = .ok (.dup, 1) := by decide +kernel
theorem dX2_readKind_23 : decode cX2_readKind 23 = .ok (.getfield 58, 3) := by decide +kernel
theorem dX2_readKind_26 : decode cX2_readKind 26 = .ok (.iconst 1, 1) := by decide +kernel
theorem dX2_readKind_27 : decode cX2_readKind 27 = .ok (.iadd, 1) := by decide +kernel
theorem dX2_readKind_28 : decode cX2_readKind 28 = .ok (.putfield 58, 3) := by decide +kernel
theorem dX2_readKind_31 : decode cX2_readKind 31 = .ok (.goto 13, 3) := by decide +kernel
theorem dX2_readKind_34 : decode cX2_readKind 34 = .ok (.aload_n 0, 1) := by decide +kernel
theorem dX2_readKind_35 : decode cX2_readKind 35 = .ok (.dup, 1) := by decide +kernel
theorem dX2_readKind_36 : decode cX2_readKind 36 = .ok (.getfield 61, 3) := by decide +kernel
theorem dX2_readKind_39 : decode cX2_readKind 39 = .ok (.iconst 1, 1) := by decide +kernel
theorem dX2_readKind_40 : decode cX2_readKind 40 = .ok (.iadd, 1) := by decide +kernel
theorem dX2_readKind_41 : decode cX2_readKind 41 = .ok (.putfield 61, 3) := by decide +kernel
theorem dX2_readKind_44 : decode cX2_readKind 44 = .ok (.aload_n 0, 1) := by decide +kernel
theorem dX2_readKind_45 : decode cX2_readKind 45 = .ok (.getfield 9, 3) := by decide +kernel
theorem dX2_readKind_48 : decode cX2_readKind 48 = .ok (.iload_n 1, 1) := by decide +kernel
theorem dX2_readKind_49 : decode cX2_readKind 49 = .ok (.iaload, 1) := by decide +kernel
theorem dX2_readKind_50 : decode cX2_readKind 50 = .ok (.bipush (-2), 2) := by decide +kernel
theorem dX2_readKind_52 : decode cX2_readKind 52 = .ok (.if_icmp .eq 20, 3) := by decide +kernel
theorem dX2_readKind_55 : decode cX2_readKind 55 = .ok (.aload_n 0, 1) := by decide +kernel
theorem dX2_readKind_56 : decode cX2_readKind 56 = .ok (.getfield 58, 3) := by decide +kernel
theorem dX2_readKind_59 : decode cX2_readKind 59 = .ok (.bipush 10, 2) := by decide +kernel
theorem dX2_readKind_61 : decode cX2_readKind 61 = .ok (.if_icmp .gt 11, 3) := by decide +kernel
theorem dX2_readKind_64 : decode cX2_readKind 64 = .ok (.aload_n 0, 1) := by decide +kernel
theorem dX2_readKind_65 : decode cX2_readKind 65 = .ok (.getfield 61, 3) := by decide +kernel
theorem dX2_readKind_68 : decode cX2_readKind 68 = .ok (.iconst 5, 1) := by decide +kernel
theorem dX2_readKind_69 : decode cX2_readKind 69 = .ok (.if_icmp .le 11, 3) := by decide +kernel
theorem dX2_readKind_72 : decode cX2_readKind 72 = .ok (.aload_n 0, 1) := by decide +kernel
theorem dX2_readKind_73 : decode cX2_readKind 73 = .ok (.aload_n 0, 1) := by decide +kernel
theorem dX2_readKind_74 : decode cX2_readKind 74 = .ok (.getfield 39, 3) := by decide +kernel
theorem dX2_readKind_77 : decode cX2_readKind 77 = .ok (.invokevirtual 46, 3) := by decide +kernel
theorem dX2_readKind_80 : decode cX2_readKind 80 = .ok (.aload_n 0, 1) := by decide +kernel
theorem dX2_readKind_81 : decode cX2_readKind 81 = .ok (.dup, 1) := by decide +kernel
theorem dX2_readKind_82 : decode cX2_readKind 82 = .ok (.getfield 39, 3) := by decide +kernel
theorem dX2_readKind_85 : decode cX2_readKind 85 = .ok (.iconst 1, 1) := by decide +kernel
theorem dX2_readKind_86 : decode cX2_readKind 86 = .ok (.iadd, 1) := by decide +kernel
theorem dX2_readKind_87 : decode cX2_readKind 87 = .ok (.putfield 39, 3) := by decide +kernel
theorem dX2_readKind_90 : decode cX2_readKind 90 = .ok (.return_, 1) := by decide +kernel
theorem dX2_kindOf_0 : decode cX2_kindOf 0 = .ok (.iload_n 0, 1) := by decide +kernel
theorem dX2_kindOf_1 : decode cX2_kindOf 1 = .ok (.lookupswitch 51 #[(102, 49), (104, 43), (113, 45), (115, 47)], 43) := by decide +kernel
theorem dX2_kindOf_44 : decode cX2_kindOf 44 = .ok (.iconst (-1), 1) := by decide +kernel
theorem dX2_kindOf_45 : decode cX2_kindOf 45 = .ok (.ireturn, 1) := by decide +kernel
theorem dX2_kindOf_46 : decode cX2_kindOf 46 = .ok (.iconst 0, 1) := by decide +kernel
theorem dX2_kindOf_47 : decode cX2_kindOf 47 = .ok (.ireturn, 1) := by decide +kernel
theorem dX2_kindOf_48 : decode cX2_kindOf 48 = .ok (.iconst 1, 1) := by decide +kernel
theorem dX2_kindOf_49 : decode cX2_kindOf 49 = .ok (.ireturn, 1) := by decide +kernel
theorem dX2_kindOf_50 : decode cX2_kindOf 50 = .ok (.iconst 2, 1) := by decide +kernel
theorem dX2_kindOf_51 : decode cX2_kindOf 51 = .ok (.ireturn, 1) := by decide +kernel
theorem dX2_kindOf_52 : decode cX2_kindOf 52 = .ok (.bipush (-2), 2) := by decide +kernel
theorem dX2_kindOf_54 : decode cX2_kindOf 54 = .ok (.ireturn, 1) := by decide +kernel
theorem dX2_readNumber_0 : decode cX2_readNumber 0 = .ok (.aload_n 0, 1) := by decide +kernel
theorem dX2_readNumber_1 : decode cX2_readNumber 1 = .ok (.getfield 39, 3) := by decide +kernel
theorem dX2_readNumber_4 : decode cX2_readNumber 4 = .ok (.istore_n 3, 1) := by decide +kernel
theorem dX2_readNumber_5 : decode cX2_readNumber 5 = .ok (.aload_n 0, 1) := by decide +kernel
theorem dX2_readNumber_6 : decode cX2_readNumber 6 = .ok (.invokevirtual 84, 3) := by decide +kernel
theorem dX2_readNumber_9 : decode cX2_readNumber 9 = .ok (.invokestatic 92, 3) := by decide +kernel
theorem dX2_readNumber_12 : decode cX2_readNumber 12 = .ok (.ifCond .ne 10, 3) := by decide +kernel
theorem dX2_readNumber_15 : decode cX2_readNumber 15 = .ok (.aload_n 0, 1) := by decide +kernel
theorem dX2_readNumber_16 : decode cX2_readNumber 16 = .ok (.iload_n 3, 1) := by decide +kernel
theorem dX2_readNumber_17 : decode cX2_readNumber 17 = .ok (.invokevirtual 46, 3) := by decide +kernel
theorem dX2_readNumber_20 : decode cX2_readNumber 20 = .ok (.iconst 0, 1) := by decide +kernel
theorem dX2_readNumber_21 : decode cX2_readNumber 21 = .ok (.ireturn, 1) := by decide +kernel
theorem dX2_readNumber_22 : decode cX2_readNumber 22 = .ok (.aload_n 0, 1) := by decide +kernel
theorem dX2_readNumber_23 : decode cX2_readNumber 23 = .ok (.invokevirtual 84, 3) := by decide +kernel
theorem dX2_readNumber_26 : decode cX2_readNumber 26 = .ok (.bipush 48, 2) := by decide +kernel
theorem dX2_readNumber_28 : decode cX2_readNumber 28 = .ok (.isub, 1) := by decide +kernel
theorem dX2_readNumber_29 : decode cX2_readNumber 29 = .ok (.istore 4, 2) := by decide +kernel
theorem dX2_readNumber_31 : decode cX2_readNumber 31 = .ok (.aload_n 0, 1) := by decide +kernel
theorem dX2_readNumber_32 : decode cX2_readNumber 32 = .ok (.dup, 1) := by decide +kernel
theorem dX2_readNumber_33 : decode cX2_readNumber 33 = .ok (.getfield 39, 3) := by decide +kernel
theorem dX2_readNumber_36 : decode cX2_readNumber 36 = .ok (.iconst 1, 1) := by decide +kernel
theorem dX2_readNumber_37 : decode cX2_readNumber 37 = .ok (.iadd, 1) := by decide +kernel
theorem dX2_readNumber_38 : decode cX2_readNumber 38 = .ok (.putfield 39, 3) := by decide +kernel
theorem dX2_readNumber_41 : decode cX2_readNumber 41 = .ok (.aload_n 0, 1) := by decide +kernel
theorem dX2_readNumber_42 : decode cX2_readNumber 42 = .ok (.invokevirtual 84, 3) := by decide +kernel
theorem dX2_readNumber_45 : decode cX2_readNumber 45 = .ok (.invokestatic 92, 3) := by decide +kernel
theorem dX2_readNumber_48 : decode cX2_readNumber 48 = .ok (.ifCond .eq 28, 3) := by decide +kernel
theorem dX2_readNumber_51 : decode cX2_readNumber 51 = .ok (.bipush 10, 2) := by decide +kernel
theorem dX2_readNumber_53 : decode cX2_readNumber 53 = .ok (.iload 4, 2) := by decide +kernel
theorem dX2_readNumber_55 : decode cX2_readNumber 55 = .ok (.imul, 1) := by decide +kernel
theorem dX2_readNumber_56 : decode cX2_readNumber 56 = .ok (.aload_n 0, 1) := by decide +kernel
theorem dX2_readNumber_57 : decode cX2_readNumber 57 = .ok (.invokevirtual 84, 3) := by decide +kernel
theorem dX2_readNumber_60 : decode cX2_readNumber 60 = .ok (.iadd, 1) := by decide +kernel
theorem dX2_readNumber_61 : decode cX2_readNumber 61 = .ok (.bipush 48, 2) := by decide +kernel
theorem dX2_readNumber_63 : decode cX2_readNumber 63 = .ok (.isub, 1) := by decide +kernel
theorem dX2_readNumber_64 : decode cX2_readNumber 64 = .ok (.istore 4, 2) := by decide +kernel
theorem dX2_readNumber_66 : decode cX2_readNumber 66 = .ok (.aload_n 0, 1) := by decide +kernel
theorem dX2_readNumber_67 : decode cX2_readNumber 67 = .ok (.dup, 1) := by decide +kernel
theorem dX2_readNumber_68 : decode cX2_readNumber 68 = .ok (.getfield 39, 3) := by decide +kernel
theorem dX2_readNumber_71 : decode cX2_readNumber 71 = .ok (.iconst 1, 1) := by decide +kernel
theorem dX2_readNumber_72 : decode cX2_readNumber 72 = .ok (.iadd, 1) := by decide +kernel
theorem dX2_readNumber_73 : decode cX2_readNumber 73 = .ok (.putfield 39, 3) := by decide +kernel
theorem dX2_readNumber_76 : decode cX2_readNumber 76 = .ok (.iload 4, 2) := by decide +kernel
theorem dX2_readNumber_78 : decode cX2_readNumber 78 = .ok (.iload_n 1, 1) := by decide +kernel
theorem dX2_readNumber_79 : decode cX2_readNumber 79 = .ok (.iload_n 2, 1) := by decide +kernel
theorem dX2_readNumber_80 : decode cX2_readNumber 80 = .ok (.invokestatic 96, 3) := by decide +kernel
theorem dX2_readNumber_83 : decode cX2_readNumber 83 = .ok (.ifCond .ne 8, 3) := by decide +kernel
theorem dX2_readNumber_86 : decode cX2_readNumber 86 = .ok (.aload_n 0, 1) := by decide +kernel
theorem dX2_readNumber_87 : decode cX2_readNumber 87 = .ok (.iload_n 3, 1) := by decide +kernel
theorem dX2_readNumber_88 : decode cX2_readNumber 88 = .ok (.invokevirtual 46, 3) := by decide +kernel
theorem dX2_readNumber_91 : decode cX2_readNumber 91 = .ok (.iload 4, 2) := by decide +kernel
theorem dX2_readNumber_93 : decode cX2_readNumber 93 = .ok (.ireturn, 1) := by decide +kernel
theorem dX2_takeCode_0 : decode cX2_takeCode 0 = .ok (.aload_n 0, 1) := by decide +kernel
theorem dX2_takeCode_1 : decode cX2_takeCode 1 = .ok (.invokevirtual 84, 3) := by decide +kernel
theorem dX2_takeCode_4 : decode cX2_takeCode 4 = .ok (.iload_n 1, 1) := by decide +kernel
theorem dX2_takeCode_5 : decode cX2_takeCode 5 = .ok (.if_icmp .eq 11, 3) := by decide +kernel
theorem dX2_takeCode_8 : decode cX2_takeCode 8 = .ok (.aload_n 0, 1) := by decide +kernel
theorem dX2_takeCode_9 : decode cX2_takeCode 9 = .ok (.aload_n 0, 1) := by decide +kernel
theorem dX2_takeCode_10 : decode cX2_takeCode 10 = .ok (.getfield 39, 3) := by decide +kernel
theorem dX2_takeCode_13 : decode cX2_takeCode 13 = .ok (.invokevirtual 46, 3) := by decide +kernel
theorem dX2_takeCode_16 : decode cX2_takeCode 16 = .ok (.aload_n 0, 1) := by decide +kernel
theorem dX2_takeCode_17 : decode cX2_takeCode 17 = .ok (.dup, 1) := by decide +kernel
theorem dX2_takeCode_18 : decode cX2_takeCode 18 = .ok (.getfield 39, 3) := by decide +kernel
theorem dX2_takeCode_21 : decode cX2_takeCode 21 = .ok (.iconst 1, 1) := by decide +kernel
theorem dX2_takeCode_22 : decode cX2_takeCode 22 = .ok (.iadd, 1) := by decide +kernel
theorem dX2_takeCode_23 : decode cX2_takeCode 23 = .ok (.putfield 39, 3) := by decide +kernel
theorem dX2_takeCode_26 : decode cX2_takeCode 26 = .ok (.return_, 1) := by decide +kernel
theorem dX2_isDigit_0 : decode cX2_isDigit 0 = .ok (.iload_n 0, 1) := by decide +kernel
theorem dX2_isDigit_1 : decode cX2_isDigit 1 = .ok (.bipush 48, 2) := by decide +kernel
theorem dX2_isDigit_3 : decode cX2_isDigit 3 = .ok (.bipush 57, 2) := by decide +kernel
theorem dX2_isDigit_5 : decode cX2_isDigit 5 = .ok (.invokestatic 96, 3) := by decide +kernel
theorem dX2_isDigit_8 : decode cX2_isDigit 8 = .ok (.ireturn, 1) := by decide +kernel
theorem dX2_codeHere_0 : decode cX2_codeHere 0 = .ok (.aload_n 0, 1) := by decide +kernel
theorem dX2_codeHere_1 : decode cX2_codeHere 1 = .ok (.getfield 39, 3) := by decide +kernel
theorem dX2_codeHere_4 : decode cX2_codeHere 4 = .ok (.aload_n 0, 1) := by decide +kernel
theorem dX2_codeHere_5 : decode cX2_codeHere 5 = .ok (.getfield 43, 3) := by decide +kernel
theorem dX2_codeHere_8 : decode cX2_codeHere 8 = .ok (.if_icmp .ge 15, 3) := by decide +kernel
theorem dX2_codeHere_11 : decode cX2_codeHere 11 = .ok (.aload_n 0, 1) := by decide +kernel
theorem dX2_codeHere_12 : decode cX2_codeHere 12 = .ok (.getfield 24, 3) := by decide +kernel
theorem dX2_codeHere_15 : decode cX2_codeHere 15 = .ok (.aload_n 0, 1) := by decide +kernel
theorem dX2_codeHere_16 : decode cX2_codeHere 16 = .ok (.getfield 39, 3) := by decide +kernel
theorem dX2_codeHere_19 : decode cX2_codeHere 19 = .ok (.iaload, 1) := by decide +kernel
theorem dX2_codeHere_20 : decode cX2_codeHere 20 = .ok (.goto 4, 3) := by decide +kernel
theorem dX2_codeHere_23 : decode cX2_codeHere 23 = .ok (.iconst (-1), 1) := by decide +kernel
theorem dX2_codeHere_24 : decode cX2_codeHere 24 = .ok (.ireturn, 1) := by decide +kernel
theorem dX2_failAt_0 : decode cX2_failAt 0 = .ok (.aload_n 0, 1) := by decide +kernel
theorem dX2_failAt_1 : decode cX2_failAt 1 = .ok (.getfield 31, 3) := by decide +kernel
theorem dX2_failAt_4 : decode cX2_failAt 4 = .ok (.ifCond .eq 13, 3) := by decide +kernel
theorem dX2_failAt_7 : decode cX2_failAt 7 = .ok (.aload_n 0, 1) := by decide +kernel
theorem dX2_failAt_8 : decode cX2_failAt 8 = .ok (.iload_n 1, 1) := by decide +kernel
theorem dX2_failAt_9 : decode cX2_failAt 9 = .ok (.putfield 100, 3) := by decide +kernel
theorem dX2_failAt_12 : decode cX2_failAt 12 = .ok (.aload_n 0, 1) := by decide +kernel
theorem dX2_failAt_13 : decode cX2_failAt 13 = .ok (.iconst 0, 1) := by decide +kernel
theorem dX2_failAt_14 : decode cX2_failAt 14 = .ok (.putfield 31, 3) := by decide +kernel
theorem dX2_failAt_17 : decode cX2_failAt 17 = .ok (.return_, 1) := by decide +kernel
theorem dX3_init_0 : decode cX3_init 0 = .ok (.aload_n 0, 1) := by decide +kernel
theorem dX3_init_1 : decode cX3_init 1 = .ok (.invokespecial 3, 3) := by decide +kernel
theorem dX3_init_4 : decode cX3_init 4 = .ok (.aload_n 0, 1) := by decide +kernel
theorem dX3_init_5 : decode cX3_init 5 = .ok (.bipush 50, 2) := by decide +kernel
theorem dX3_init_7 : decode cX3_init 7 = .ok (.newarray .int, 2) := by decide +kernel
theorem dX3_init_9 : decode cX3_init 9 = .ok (.putfield 9, 3) := by decide +kernel
theorem dX3_init_12 : decode cX3_init 12 = .ok (.aload_n 0, 1) := by decide +kernel
theorem dX3_init_13 : decode cX3_init 13 = .ok (.bipush 50, 2) := by decide +kernel
theorem dX3_init_15 : decode cX3_init 15 = .ok (.newarray .int, 2) := by decide +kernel
theorem dX3_init_17 : decode cX3_init 17 = .ok (.putfield 15, 3) := by decide +kernel
theorem dX3_init_20 : decode cX3_init 20 = .ok (.aload_n 0, 1) := by decide +kernel
theorem dX3_init_21 : decode cX3_init 21 = .ok (.bipush 10, 2) := by decide +kernel
theorem dX3_init_23 : decode cX3_init 23 = .ok (.newarray .int, 2) := by decide +kernel
theorem dX3_init_25 : decode cX3_init 25 = .ok (.putfield 18, 3) := by decide +kernel
theorem dX3_init_28 : decode cX3_init 28 = .ok (.aload_n 0, 1) := by decide +kernel
theorem dX3_init_29 : decode cX3_init 29 = .ok (.iconst 5, 1) := by decide +kernel
theorem dX3_init_30 : decode cX3_init 30 = .ok (.newarray .int, 2) := by decide +kernel
theorem dX3_init_32 : decode cX3_init 32 = .ok (.putfield 21, 3) := by decide +kernel
theorem dX3_init_35 : decode cX3_init 35 = .ok (.aload_n 0, 1) := by decide +kernel
theorem dX3_init_36 : decode cX3_init 36 = .ok (.iconst 5, 1) := by decide +kernel
theorem dX3_init_37 : decode cX3_init 37 = .ok (.newarray .int, 2) := by decide +kernel
theorem dX3_init_39 : decode cX3_init 39 = .ok (.putfield 24, 3) := by decide +kernel
theorem dX3_init_42 : decode cX3_init 42 = .ok (.aload_n 0, 1) := by decide +kernel
theorem dX3_init_43 : decode cX3_init 43 = .ok (.bipush 25, 2) := by decide +kernel
theorem dX3_init_45 : decode cX3_init 45 = .ok (.newarray .int, 2) := by decide +kernel
theorem dX3_init_47 : decode cX3_init 47 = .ok (.putfield 27, 3) := by decide +kernel
theorem dX3_init_50 : decode cX3_init 50 = .ok (.aload_n 0, 1) := by decide +kernel
theorem dX3_init_51 : decode cX3_init 51 = .ok (.bipush 25, 2) := by decide +kernel
theorem dX3_init_53 : decode cX3_init 53 = .ok (.newarray .int, 2) := by decide +kernel
theorem dX3_init_55 : decode cX3_init 55 = .ok (.putfield 30, 3) := by decide +kernel
theorem dX3_init_58 : decode cX3_init 58 = .ok (.aload_n 0, 1) := by decide +kernel
theorem dX3_init_59 : decode cX3_init 59 = .ok (.iconst 5, 1) := by decide +kernel
theorem dX3_init_60 : decode cX3_init 60 = .ok (.newarray .int, 2) := by decide +kernel
theorem dX3_init_62 : decode cX3_init 62 = .ok (.putfield 33, 3) := by decide +kernel
theorem dX3_init_65 : decode cX3_init 65 = .ok (.aload_n 0, 1) := by decide +kernel
theorem dX3_init_66 : decode cX3_init 66 = .ok (.iconst 5, 1) := by decide +kernel
theorem dX3_init_67 : decode cX3_init 67 = .ok (.newarray .int, 2) := by decide +kernel
theorem dX3_init_69 : decode cX3_init 69 = .ok (.putfield 36, 3) := by decide +kernel
theorem dX3_init_72 : decode cX3_init 72 = .ok (.aload_n 0, 1) := by decide +kernel
theorem dX3_init_73 : decode cX3_init 73 = .ok (.iconst 5, 1) := by decide +kernel
theorem dX3_init_74 : decode cX3_init 74 = .ok (.newarray .int, 2) := by decide +kernel
theorem dX3_init_76 : decode cX3_init 76 = .ok (.putfield 39, 3) := by decide +kernel
theorem dX3_init_79 : decode cX3_init 79 = .ok (.return_, 1) := by decide +kernel
theorem dX3_load_0 : decode cX3_load 0 = .ok (.aload_n 0, 1) := by decide +kernel
theorem dX3_load_1 : decode cX3_load 1 = .ok (.aload_n 1, 1) := by decide +kernel
theorem dX3_load_2 : decode cX3_load 2 = .ok (.getfield 42, 3) := by decide +kernel
theorem dX3_load_5 : decode cX3_load 5 = .ok (.putfield 48, 3) := by decide +kernel
theorem dX3_load_8 : decode cX3_load 8 = .ok (.aload_n 0, 1) := by decide +kernel
theorem dX3_load_9 : decode cX3_load 9 = .ok (.aload_n 1, 1) := by decide +kernel
theorem dX3_load_10 : decode cX3_load 10 = .ok (.getfield 49, 3) := by decide +kernel
theorem dX3_load_13 : decode cX3_load 13 = .ok (.putfield 52, 3) := by decide +kernel
theorem dX3_load_16 : decode cX3_load 16 = .ok (.iconst 0, 1) := by decide +kernel
theorem dX3_load_17 : decode cX3_load 17 = .ok (.istore_n 2, 1) := by decide +kernel
theorem dX3_load_18 : decode cX3_load 18 = .ok (.iload_n 2, 1) := by decide +kernel
theorem dX3_load_19 : decode cX3_load 19 = .ok (.aload_n 0, 1) := by decide +kernel
theorem dX3_load_20 : decode cX3_load 20 = .ok (.getfield 48, 3) := by decide +kernel
theorem dX3_load_23 : decode cX3_load 23 = .ok (.if_icmp .ge 21, 3) := by decide +kernel
theorem dX3_load_26 : decode cX3_load 26 = .ok (.aload_n 0, 1) := by decide +kernel
theorem dX3_load_27 : decode cX3_load 27 = .ok (.getfield 18, 3) := by decide +kernel
theorem dX3_load_30 : decode cX3_load 30 = .ok (.iload_n 2, 1) := by decide +kernel
theorem dX3_load_31 : decode cX3_load 31 = .ok (.aload_n 1, 1) := by decide +kernel
theorem dX3_load_32 : decode cX3_load 32 = .ok (.getfield 53, 3) := by decide +kernel
theorem dX3_load_35 : decode cX3_load 35 = .ok (.iload_n 2, 1) := by decide +kernel
theorem dX3_load_36 : decode cX3_load 36 = .ok (.iaload, 1) := by decide +kernel
theorem dX3_load_37 : decode cX3_load 37 = .ok (.iastore, 1) := by decide +kernel
theorem dX3_load_38 : decode cX3_load 38 = .ok (.iinc 2 1, 3) := by decide +kernel
theorem dX3_load_41 : decode cX3_load 41 = .ok (.goto (-23), 3) := by decide +kernel
theorem dX3_load_44 : decode cX3_load 44 = .ok (.iconst 0, 1) := by decide +kernel
theorem dX3_load_45 : decode cX3_load 45 = .ok (.istore_n 2, 1) := by decide +kernel
theorem dX3_load_46 : decode cX3_load 46 = .ok (.iload_n 2, 1) := by decide +kernel
theorem dX3_load_47 : decode cX3_load 47 = .ok (.aload_n 0, 1) := by decide +kernel
theorem dX3_load_48 : decode cX3_load 48 = .ok (.getfield 52, 3) := by decide +kernel
theorem dX3_load_51 : decode cX3_load 51 = .ok (.if_icmp .ge 39, 3) := by decide +kernel
theorem dX3_load_54 : decode cX3_load 54 = .ok (.aload_n 0, 1) := by decide +kernel
theorem dX3_load_55 : decode cX3_load 55 = .ok (.getfield 21, 3) := by decide +kernel
theorem dX3_load_58 : decode cX3_load 58 = .ok (.iload_n 2, 1) := by decide +kernel
theorem dX3_load_59 : decode cX3_load 59 = .ok (.aload_n 1, 1) := by decide +kernel
theorem dX3_load_60 : decode cX3_load 60 = .ok (.getfield 54, 3) := by decide +kernel
theorem dX3_load_63 : decode cX3_load 63 = .ok (.iload_n 2, 1) := by decide +kernel
theorem dX3_load_64 : decode cX3_load 64 = .ok (.iaload, 1) := by decide +kernel
theorem dX3_load_65 : decode cX3_load 65 = .ok (.iastore, 1) := by decide +kernel
theorem dX3_load_66 : decode cX3_load 66 = .ok (.aload_n 0, 1) := by decide +kernel
theorem dX3_load_67 : decode cX3_load 67 = .ok (.aload_n 1, 1) := by decide +kernel
theorem dX3_load_68 : decode cX3_load 68 = .ok (.iload_n 2, 1) := by decide +kernel
theorem dX3_load_69 : decode cX3_load 69 = .ok (.aload_n 1, 1) := by decide +kernel
theorem dX3_load_70 : decode cX3_load 70 = .ok (.getfield 57, 3) := by decide +kernel
theorem dX3_load_73 : decode cX3_load 73 = .ok (.iload_n 2, 1) := by decide +kernel
theorem dX3_load_74 : decode cX3_load 74 = .ok (.iaload, 1) := by decide +kernel
theorem dX3_load_75 : decode cX3_load 75 = .ok (.aload_n 1, 1) := by decide +kernel
theorem dX3_load_76 : decode cX3_load 76 = .ok (.getfield 60, 3) := by decide +kernel
theorem dX3_load_79 : decode cX3_load 79 = .ok (.iload_n 2, 1) := by decide +kernel
theorem dX3_load_80 : decode cX3_load 80 = .ok (.iaload, 1) := by decide +kernel
theorem dX3_load_81 : decode cX3_load 81 = .ok (.invokevirtual 63, 3) := by decide +kernel
theorem dX3_load_84 : decode cX3_load 84 = .ok (.iinc 2 1, 3) := by decide +kernel
theorem dX3_load_87 : decode cX3_load 87 = .ok (.goto (-41), 3) := by decide +kernel
theorem dX3_load_90 : decode cX3_load 90 = .ok (.return_, 1) := by decide +kernel
theorem dX3_putChurch_0 : decode cX3_putChurch 0 = .ok (.iconst 0, 1) := by decide +kernel
theorem dX3_putChurch_1 : decode cX3_putChurch 1 = .ok (.istore 5, 2) := by decide +kernel
theorem dX3_putChurch_3 : decode cX3_putChurch 3 = .ok (.iload 5, 2) := by decide +kernel
theorem dX3_putChurch_5 : decode cX3_putChurch 5 = .ok (.aload_n 0, 1) := by decide +kernel
theorem dX3_putChurch_6 : decode cX3_putChurch 6 = .ok (.getfield 48, 3) := by decide +kernel
theorem dX3_putChurch_9 : decode cX3_putChurch 9 = .ok (.if_icmp .ge 66, 3) := by decide +kernel
theorem dX3_putChurch_12 : decode cX3_putChurch 12 = .ok (.aload_n 1, 1) := by decide +kernel
theorem dX3_putChurch_13 : decode cX3_putChurch 13 = .ok (.aload_n 1, 1) := by decide +kernel
theorem dX3_putChurch_14 : decode cX3_putChurch 14 = .ok (.getfield 67, 3) := by decide +kernel
theorem dX3_putChurch_17 : decode cX3_putChurch 17 = .ok (.iload_n 2, 1) := by decide +kernel
theorem dX3_putChurch_18 : decode cX3_putChurch 18 = .ok (.iaload, 1) := by decide +kernel
theorem dX3_putChurch_19 : decode cX3_putChurch 19 = .ok (.aload_n 1, 1) := by decide +kernel
theorem dX3_putChurch_20 : decode cX3_putChurch 20 = .ok (.getfield 70, 3) := by decide +kernel
theorem dX3_putChurch_23 : decode cX3_putChurch 23 = .ok (.iload 5, 2) := by decide +kernel
theorem dX3_putChurch_25 : decode cX3_putChurch 25 = .ok (.iaload, 1) := by decide +kernel
theorem dX3_putChurch_26 : decode cX3_putChurch 26 = .ok (.aload_n 1, 1) := by decide +kernel
theorem dX3_putChurch_27 : decode cX3_putChurch 27 = .ok (.getfield 73, 3) := by decide +kernel
theorem dX3_putChurch_30 : decode cX3_putChurch 30 = .ok (.iload 5, 2) := by decide +kernel
theorem dX3_putChurch_32 : decode cX3_putChurch 32 = .ok (.iaload, 1) := by decide +kernel
theorem dX3_putChurch_33 : decode cX3_putChurch 33 = .ok (.iload_n 3, 1) := by decide +kernel
theorem dX3_putChurch_34 : decode cX3_putChurch 34 = .ok (.iload 4, 2) := by decide +kernel
theorem dX3_putChurch_36 : decode cX3_putChurch 36 = .ok (.invokevirtual 76, 3) := by decide +kernel
theorem dX3_putChurch_39 : decode cX3_putChurch 39 = .ok (.istore 6, 2) := by decide +kernel
theorem dX3_putChurch_41 : decode cX3_putChurch 41 = .ok (.aload_n 0, 1) := by decide +kernel
theorem dX3_putChurch_42 : decode cX3_putChurch 42 = .ok (.getfield 9, 3) := by decide +kernel
theorem dX3_putChurch_45 : decode cX3_putChurch 45 = .ok (.iload 5, 2) := by decide +kernel
theorem dX3_putChurch_47 : decode cX3_putChurch 47 = .ok (.iconst 5, 1) := by decide +kernel
theorem dX3_putChurch_48 : decode cX3_putChurch 48 = .ok (.imul, 1) := by decide +kernel
theorem dX3_putChurch_49 : decode cX3_putChurch 49 = .ok (.iload_n 2, 1) := by decide +kernel
theorem dX3_putChurch_50 : decode cX3_putChurch 50 = .ok (.iadd, 1) := by decide +kernel
theorem dX3_putChurch_51 : decode cX3_putChurch 51 = .ok (.aload_n 1, 1) := by decide +kernel
theorem dX3_putChurch_52 : decode cX3_putChurch 52 = .ok (.iload 5, 2) := by decide +kernel
theorem dX3_putChurch_54 : decode cX3_putChurch 54 = .ok (.iload_n 2, 1) := by decide +kernel
theorem dX3_putChurch_55 : decode cX3_putChurch 55 = .ok (.invokevirtual 80, 3) := by decide +kernel
theorem dX3_putChurch_58 : decode cX3_putChurch 58 = .ok (.ifCond .eq 8, 3) := by decide +kernel
theorem dX3_putChurch_61 : decode cX3_putChurch 61 = .ok (.ldc 84, 2) := by decide +kernel
theorem dX3_putChurch_63 : decode cX3_putChurch 63 = .ok (.goto 5, 3) := by decide +kernel
theorem dX3_putChurch_66 : decode cX3_putChurch 66 = .ok (.iload 6, 2) := by decide +kernel
theorem dX3_putChurch_68 : decode cX3_putChurch 68 = .ok (.iastore, 1) := by decide +kernel
theorem dX3_putChurch_69 : decode cX3_putChurch 69 = .ok (.iinc 5 1, 3) := by decide +kernel
theorem dX3_putChurch_72 : decode cX3_putChurch 72 = .ok (.goto (-69), 3) := by decide +kernel
theorem dX3_putChurch_75 : decode cX3_putChurch 75 = .ok (.return_, 1) := by decide +kernel
theorem dX3_shutAllBut_0 : decode cX3_shutAllBut 0 = .ok (.iconst 0, 1) := by decide +kernel
theorem dX3_shutAllBut_1 : decode cX3_shutAllBut 1 = .ok (.istore_n 2, 1) := by decide +kernel
theorem dX3_shutAllBut_2 : decode cX3_shutAllBut 2 = .ok (.iload_n 2, 1) := by decide +kernel
theorem dX3_shutAllBut_3 : decode cX3_shutAllBut 3 = .ok (.aload_n 0, 1) := by decide +kernel
theorem dX3_shutAllBut_4 : decode cX3_shutAllBut 4 = .ok (.getfield 52, 3) := by decide +kernel
theorem dX3_shutAllBut_7 : decode cX3_shutAllBut 7 = .ok (.if_icmp .ge 24, 3) := by decide +kernel
theorem dX3_shutAllBut_10 : decode cX3_shutAllBut 10 = .ok (.iload_n 1, 1) := by decide +kernel
theorem dX3_shutAllBut_11 : decode cX3_shutAllBut 11 = .ok (.iload_n 2, 1) := by decide +kernel
theorem dX3_shutAllBut_12 : decode cX3_shutAllBut 12 = .ok (.ishr, 1) := by decide +kernel
theorem dX3_shutAllBut_13 : decode cX3_shutAllBut 13 = .ok (.iconst 1, 1) := by decide +kernel
theorem dX3_shutAllBut_14 : decode cX3_shutAllBut 14 = .ok (.iand, 1) := by decide +kernel
theorem dX3_shutAllBut_15 : decode cX3_shutAllBut 15 = .ok (.ifCond .ne 10, 3) := by decide +kernel
theorem dX3_shutAllBut_18 : decode cX3_shutAllBut 18 = .ok (.aload_n 0, 1) := by decide +kernel
theorem dX3_shutAllBut_19 : decode cX3_shutAllBut 19 = .ok (.getfield 21, 3) := by decide +kernel
theorem dX3_shutAllBut_22 : decode cX3_shutAllBut 22 = .ok (.iload_n 2, 1) := by decide +kernel
theorem dX3_shutAllBut_23 : decode cX3_shutAllBut 23 = .ok (.iconst 0, 1) := by decide +kernel
theorem dX3_shutAllBut_24 : decode cX3_shutAllBut 24 = .ok (.iastore, 1) := by decide +kernel
theorem dX3_shutAllBut_25 : decode cX3_shutAllBut 25 = .ok (.iinc 2 1, 3) := by decide +kernel
theorem dX3_shutAllBut_28 : decode cX3_shutAllBut 28 = .ok (.goto (-26), 3) := by decide +kernel
theorem dX3_shutAllBut_31 : decode cX3_shutAllBut 31 = .ok (.return_, 1) := by decide +kernel
theorem dX3_forbidBeyond_0 : decode cX3_forbidBeyond 0 = .ok (.iconst 0, 1) := by decide +kernel
theorem dX3_forbidBeyond_1 : decode cX3_forbidBeyond 1 = .ok (.istore_n 2, 1) := by decide +kernel
theorem dX3_forbidBeyond_2 : decode cX3_forbidBeyond 2 = .ok (.iload_n 2, 1) := by decide +kernel
theorem dX3_forbidBeyond_3 : decode cX3_forbidBeyond 3 = .ok (.aload_n 0, 1) := by decide +kernel
theorem dX3_forbidBeyond_4 : decode cX3_forbidBeyond 4 = .ok (.getfield 48, 3) := by decide +kernel
theorem dX3_forbidBeyond_7 : decode cX3_forbidBeyond 7 = .ok (.if_icmp .ge 51, 3) := by decide +kernel
theorem dX3_forbidBeyond_10 : decode cX3_forbidBeyond 10 = .ok (.iconst 0, 1) := by decide +kernel
theorem dX3_forbidBeyond_11 : decode cX3_forbidBeyond 11 = .ok (.istore_n 3, 1) := by decide +kernel
theorem dX3_forbidBeyond_12 : decode cX3_forbidBeyond 12 = .ok (.iload_n 3, 1) := by decide +kernel
theorem dX3_forbidBeyond_13 : decode cX3_forbidBeyond 13 = .ok (.aload_n 0, 1) := by decide +kernel
theorem dX3_forbidBeyond_14 : decode cX3_forbidBeyond 14 = .ok (.getfield 52, 3) := by decide +kernel
theorem dX3_forbidBeyond_17 : decode cX3_forbidBeyond 17 = .ok (.if_icmp .ge 35, 3) := by decide +kernel
theorem dX3_forbidBeyond_20 : decode cX3_forbidBeyond 20 = .ok (.aload_n 0, 1) := by decide +kernel
theorem dX3_forbidBeyond_21 : decode cX3_forbidBeyond 21 = .ok (.getfield 9, 3) := by decide +kernel
theorem dX3_forbidBeyond_24 : decode cX3_forbidBeyond 24 = .ok (.iload_n 2, 1) := by decide +kernel
theorem dX3_forbidBeyond_25 : decode cX3_forbidBeyond 25 = .ok (.iconst 5, 1) := by decide +kernel
theorem dX3_forbidBeyond_26 : decode cX3_forbidBeyond 26 = .ok (.imul, 1) := by decide +kernel
theorem dX3_forbidBeyond_27 : decode cX3_forbidBeyond 27 = .ok (.iload_n 3, 1) := by decide +kernel
theorem dX3_forbidBeyond_28 : decode cX3_forbidBeyond 28 = .ok (.iadd, 1) := by decide +kernel
theorem dX3_forbidBeyond_29 : decode cX3_forbidBeyond 29 = .ok (.iaload, 1) := by decide +kernel
theorem dX3_forbidBeyond_30 : decode cX3_forbidBeyond 30 = .ok (.iload_n 1, 1) := by decide +kernel
theorem dX3_forbidBeyond_31 : decode cX3_forbidBeyond 31 = .ok (.if_icmp .le 15, 3) := by decide +kernel
theorem dX3_forbidBeyond_34 : decode cX3_forbidBeyond 34 = .ok (.aload_n 0, 1) := by decide +kernel
theorem dX3_forbidBeyond_35 : decode cX3_forbidBeyond 35 = .ok (.getfield 9, 3) := by decide +kernel
theorem dX3_forbidBeyond_38 : decode cX3_forbidBeyond 38 = .ok (.iload_n 2, 1) := by decide +kernel
theorem dX3_forbidBeyond_39 : decode cX3_forbidBeyond 39 = .ok (.iconst 5, 1) := by decide +kernel
theorem dX3_forbidBeyond_40 : decode cX3_forbidBeyond 40 = .ok (.imul, 1) := by decide +kernel
theorem dX3_forbidBeyond_41 : decode cX3_forbidBeyond 41 = .ok (.iload_n 3, 1) := by decide +kernel
theorem dX3_forbidBeyond_42 : decode cX3_forbidBeyond 42 = .ok (.iadd, 1) := by decide +kernel
theorem dX3_forbidBeyond_43 : decode cX3_forbidBeyond 43 = .ok (.ldc 84, 2) := by decide +kernel
theorem dX3_forbidBeyond_45 : decode cX3_forbidBeyond 45 = .ok (.iastore, 1) := by decide +kernel
theorem dX3_forbidBeyond_46 : decode cX3_forbidBeyond 46 = .ok (.iinc 3 1, 3) := by decide +kernel
theorem dX3_forbidBeyond_49 : decode cX3_forbidBeyond 49 = .ok (.goto (-37), 3) := by decide +kernel
theorem dX3_forbidBeyond_52 : decode cX3_forbidBeyond 52 = .ok (.iinc 2 1, 3) := by decide +kernel
theorem dX3_forbidBeyond_55 : decode cX3_forbidBeyond 55 = .ok (.goto (-53), 3) := by decide +kernel
theorem dX3_forbidBeyond_58 : decode cX3_forbidBeyond 58 = .ok (.return_, 1) := by decide +kernel
theorem dX3_send_0 : decode cX3_send 0 = .ok (.iconst 0, 1) := by decide +kernel
theorem dX3_send_1 : decode cX3_send 1 = .ok (.istore_n 1, 1) := by decide +kernel
theorem dX3_send_2 : decode cX3_send 2 = .ok (.iload_n 1, 1) := by decide +kernel
theorem dX3_send_3 : decode cX3_send 3 = .ok (.aload_n 0, 1) := by decide +kernel
theorem dX3_send_4 : decode cX3_send 4 = .ok (.getfield 52, 3) := by decide +kernel
theorem dX3_send_7 : decode cX3_send 7 = .ok (.if_icmp .ge 16, 3) := by decide +kernel
theorem dX3_send_10 : decode cX3_send 10 = .ok (.aload_n 0, 1) := by decide +kernel
theorem dX3_send_11 : decode cX3_send 11 = .ok (.getfield 24, 3) := by decide +kernel
theorem dX3_send_14 : decode cX3_send 14 = .ok (.iload_n 1, 1) := by decide +kernel
theorem dX3_send_15 : decode cX3_send 15 = .ok (.iconst 0, 1) := by decide +kernel
theorem dX3_send_16 : decode cX3_send 16 = .ok (.iastore, 1) := by decide +kernel
theorem dX3_send_17 : decode cX3_send 17 = .ok (.iinc 1 1, 3) := by decide +kernel
theorem dX3_send_20 : decode cX3_send 20 = .ok (.goto (-18), 3) := by decide +kernel
theorem dX3_send_23 : decode cX3_send 23 = .ok (.iconst 0, 1) := by decide +kernel
theorem dX3_send_24 : decode cX3_send 24 = .ok (.istore_n 1, 1) := by decide +kernel
theorem dX3_send_25 : decode cX3_send 25 = .ok (.iload_n 1, 1) := by decide +kernel
theorem dX3_send_26 : decode cX3_send 26 = .ok (.aload_n 0, 1) := by decide +kernel
theorem dX3_send_27 : decode cX3_send 27 = .ok (.getfield 15, 3) := by decide +kernel
theorem dX3_send_30 : decode cX3_send 30 = .ok (.arraylength, 1) := by decide +kernel
theorem dX3_send_31 : decode cX3_send 31 = .ok (.if_icmp .ge 16, 3) := by decide +kernel
theorem dX3_send_34 : decode cX3_send 34 = .ok (.aload_n 0, 1) := by decide +kernel
theorem dX3_send_35 : decode cX3_send 35 = .ok (.getfield 15, 3) := by decide +kernel
theorem dX3_send_38 : decode cX3_send 38 = .ok (.iload_n 1, 1) := by decide +kernel
theorem dX3_send_39 : decode cX3_send 39 = .ok (.iconst 0, 1) := by decide +kernel
theorem dX3_send_40 : decode cX3_send 40 = .ok (.iastore, 1) := by decide +kernel
theorem dX3_send_41 : decode cX3_send 41 = .ok (.iinc 1 1, 3) := by decide +kernel
theorem dX3_send_44 : decode cX3_send 44 = .ok (.goto (-19), 3) := by decide +kernel
theorem dX3_send_47 : decode cX3_send 47 = .ok (.iconst 0, 1) := by decide +kernel
theorem dX3_send_48 : decode cX3_send 48 = .ok (.istore_n 1, 1) := by decide +kernel
theorem dX3_send_49 : decode cX3_send 49 = .ok (.iload_n 1, 1) := by decide +kernel
theorem dX3_send_50 : decode cX3_send 50 = .ok (.aload_n 0, 1) := by decide +kernel
theorem dX3_send_51 : decode cX3_send 51 = .ok (.getfield 48, 3) := by decide +kernel
theorem dX3_send_54 : decode cX3_send 54 = .ok (.if_icmp .ge 20, 3) := by decide +kernel
theorem dX3_send_57 : decode cX3_send 57 = .ok (.aload_n 0, 1) := by decide +kernel
theorem dX3_send_58 : decode cX3_send 58 = .ok (.iload_n 1, 1) := by decide +kernel
theorem dX3_send_59 : decode cX3_send 59 = .ok (.invokevirtual 85, 3) := by decide +kernel
theorem dX3_send_62 : decode cX3_send 62 = .ok (.ifCond .ne 6, 3) := by decide +kernel
theorem dX3_send_65 : decode cX3_send 65 = .ok (.bipush (-9), 2) := by decide +kernel
theorem dX3_send_67 : decode cX3_send 67 = .ok (.ireturn, 1) := by decide +kernel
theorem dX3_send_68 : decode cX3_send 68 = .ok (.iinc 1 1, 3) := by decide +kernel
theorem dX3_send_71 : decode cX3_send 71 = .ok (.goto (-22), 3) := by decide +kernel
theorem dX3_send_74 : decode cX3_send 74 = .ok (.aload_n 0, 1) := by decide +kernel
theorem dX3_send_75 : decode cX3_send 75 = .ok (.invokevirtual 89, 3) := by decide +kernel
theorem dX3_send_78 : decode cX3_send 78 = .ok (.ireturn, 1) := by decide +kernel
theorem dX3_sumOfMiles_0 : decode cX3_sumOfMiles 0 = .ok (.iconst 0, 1) := by decide +kernel
theorem dX3_sumOfMiles_1 : decode cX3_sumOfMiles 1 = .ok (.istore_n 1, 1) := by decide +kernel
theorem dX3_sumOfMiles_2 : decode cX3_sumOfMiles 2 = .ok (.iconst 0, 1) := by decide +kernel
theorem dX3_sumOfMiles_3 : decode cX3_sumOfMiles 3 = .ok (.istore_n 2, 1) := by decide +kernel
theorem dX3_sumOfMiles_4 : decode cX3_sumOfMiles 4 = .ok (.iload_n 2, 1) := by decide +kernel
theorem dX3_sumOfMiles_5 : decode cX3_sumOfMiles 5 = .ok (.aload_n 0, 1) := by decide +kernel
theorem dX3_sumOfMiles_6 : decode cX3_sumOfMiles 6 = .ok (.getfield 48, 3) := by decide +kernel
theorem dX3_sumOfMiles_9 : decode cX3_sumOfMiles 9 = .ok (.if_icmp .ge 49, 3) := by decide +kernel
theorem dX3_sumOfMiles_12 : decode cX3_sumOfMiles 12 = .ok (.iconst 0, 1) := by decide +kernel
theorem dX3_sumOfMiles_13 : decode cX3_sumOfMiles 13 = .ok (.istore_n 3, 1) := by decide +kernel
theorem dX3_sumOfMiles_14 : decode cX3_sumOfMiles 14 = .ok (.iload_n 3, 1) := by decide +kernel
theorem dX3_sumOfMiles_15 : decode cX3_sumOfMiles 15 = .ok (.aload_n 0, 1) := by decide +kernel
theorem dX3_sumOfMiles_16 : decode cX3_sumOfMiles 16 = .ok (.getfield 52, 3) := by decide +kernel
theorem dX3_sumOfMiles_19 : decode cX3_sumOfMiles 19 = .ok (.if_icmp .ge 33, 3) := by decide +kernel
theorem dX3_sumOfMiles_22 : decode cX3_sumOfMiles 22 = .ok (.iload_n 1, 1) := by decide +kernel
theorem dX3_sumOfMiles_23 : decode cX3_sumOfMiles 23 = .ok (.aload_n 0, 1) := by decide +kernel
theorem dX3_sumOfMiles_24 : decode cX3_sumOfMiles 24 = .ok (.getfield 15, 3) := by decide +kernel
theorem dX3_sumOfMiles_27 : decode cX3_sumOfMiles 27 = .ok (.iload_n 2, 1) := by decide +kernel
theorem dX3_sumOfMiles_28 : decode cX3_sumOfMiles 28 = .ok (.iconst 5, 1) := by decide +kernel
theorem dX3_sumOfMiles_29 : decode cX3_sumOfMiles 29 = .ok (.imul, 1) := by decide +kernel
theorem dX3_sumOfMiles_30 : decode cX3_sumOfMiles 30 = .ok (.iload_n 3, 1) := by decide +kernel
theorem dX3_sumOfMiles_31 : decode cX3_sumOfMiles 31 = .ok (.iadd, 1) := by decide +kernel
theorem dX3_sumOfMiles_32 : decode cX3_sumOfMiles 32 = .ok (.iaload, 1) := by decide +kernel
theorem dX3_sumOfMiles_33 : decode cX3_sumOfMiles 33 = .ok (.aload_n 0, 1) := by decide +kernel
theorem dX3_sumOfMiles_34 : decode cX3_sumOfMiles 34 = .ok (.getfield 9, 3) := by decide +kernel
theorem dX3_sumOfMiles_37 : decode cX3_sumOfMiles 37 = .ok (.iload_n 2, 1) := by decide +kernel
theorem dX3_sumOfMiles_38 : decode cX3_sumOfMiles 38 = .ok (.iconst 5, 1) := by decide +kernel
theorem dX3_sumOfMiles_39 : decode cX3_sumOfMiles 39 = .ok (.imul, 1) := by decide +kernel
theorem dX3_sumOfMiles_40 : decode cX3_sumOfMiles 40 = .ok (.iload_n 3, 1) := by decide +kernel
theorem dX3_sumOfMiles_41 : decode cX3_sumOfMiles 41 = .ok (.iadd, 1) := by decide +kernel
theorem dX3_sumOfMiles_42 : decode cX3_sumOfMiles 42 = .ok (.iaload, 1) := by decide +kernel
theorem dX3_sumOfMiles_43 : decode cX3_sumOfMiles 43 = .ok (.imul, 1) := by decide +kernel
theorem dX3_sumOfMiles_44 : decode cX3_sumOfMiles 44 = .ok (.iadd, 1) := by decide +kernel
theorem dX3_sumOfMiles_45 : decode cX3_sumOfMiles 45 = .ok (.istore_n 1, 1) := by decide +kernel
theorem dX3_sumOfMiles_46 : decode cX3_sumOfMiles 46 = .ok (.iinc 3 1, 3) := by decide +kernel
theorem dX3_sumOfMiles_49 : decode cX3_sumOfMiles 49 = .ok (.goto (-35), 3) := by decide +kernel
theorem dX3_sumOfMiles_52 : decode cX3_sumOfMiles 52 = .ok (.iinc 2 1, 3) := by decide +kernel
theorem dX3_sumOfMiles_55 : decode cX3_sumOfMiles 55 = .ok (.goto (-51), 3) := by decide +kernel
theorem dX3_sumOfMiles_58 : decode cX3_sumOfMiles 58 = .ok (.iload_n 1, 1) := by decide +kernel
theorem dX3_sumOfMiles_59 : decode cX3_sumOfMiles 59 = .ok (.ireturn, 1) := by decide +kernel
theorem dX3_seatHome_0 : decode cX3_seatHome 0 = .ok (.aload_n 0, 1) := by decide +kernel
theorem dX3_seatHome_1 : decode cX3_seatHome 1 = .ok (.getfield 18, 3) := by decide +kernel
theorem dX3_seatHome_4 : decode cX3_seatHome 4 = .ok (.iload_n 1, 1) := by decide +kernel
theorem dX3_seatHome_5 : decode cX3_seatHome 5 = .ok (.iaload, 1) := by decide +kernel
theorem dX3_seatHome_6 : decode cX3_seatHome 6 = .ok (.istore_n 2, 1) := by decide +kernel
theorem dX3_seatHome_7 : decode cX3_seatHome 7 = .ok (.iconst 0, 1) := by decide +kernel
theorem dX3_seatHome_8 : decode cX3_seatHome 8 = .ok (.istore_n 3, 1) := by decide +kernel
theorem dX3_seatHome_9 : decode cX3_seatHome 9 = .ok (.iload_n 3, 1) := by decide +kernel
theorem dX3_seatHome_10 : decode cX3_seatHome 10 = .ok (.iconst 5, 1) := by decide +kernel
theorem dX3_seatHome_11 : decode cX3_seatHome 11 = .ok (.if_icmp .ge 50, 3) := by decide +kernel
theorem dX3_seatHome_14 : decode cX3_seatHome 14 = .ok (.iload_n 2, 1) := by decide +kernel
theorem dX3_seatHome_15 : decode cX3_seatHome 15 = .ok (.ifCond .le 46, 3) := by decide +kernel
theorem dX3_seatHome_18 : decode cX3_seatHome 18 = .ok (.aload_n 0, 1) := by decide +kernel
theorem dX3_seatHome_19 : decode cX3_seatHome 19 = .ok (.invokevirtual 93, 3) := by decide +kernel
theorem dX3_seatHome_22 : decode cX3_seatHome 22 = .ok (.aload_n 0, 1) := by decide +kernel
theorem dX3_seatHome_23 : decode cX3_seatHome 23 = .ok (.iload_n 1, 1) := by decide +kernel
theorem dX3_seatHome_24 : decode cX3_seatHome 24 = .ok (.invokevirtual 96, 3) := by decide +kernel
theorem dX3_seatHome_27 : decode cX3_seatHome 27 = .ok (.aload_n 0, 1) := by decide +kernel
theorem dX3_seatHome_28 : decode cX3_seatHome 28 = .ok (.invokevirtual 100, 3) := by decide +kernel
theorem dX3_seatHome_31 : decode cX3_seatHome 31 = .ok (.aload_n 0, 1) := by decide +kernel
theorem dX3_seatHome_32 : decode cX3_seatHome 32 = .ok (.invokevirtual 103, 3) := by decide +kernel
theorem dX3_seatHome_35 : decode cX3_seatHome 35 = .ok (.istore 4, 2) := by decide +kernel
theorem dX3_seatHome_37 : decode cX3_seatHome 37 = .ok (.iload 4, 2) := by decide +kernel
theorem dX3_seatHome_39 : decode cX3_seatHome 39 = .ok (.ifCond .ge 5, 3) := by decide +kernel
theorem dX3_seatHome_42 : decode cX3_seatHome 42 = .ok (.iconst 0, 1) := by decide +kernel
theorem dX3_seatHome_43 : decode cX3_seatHome 43 = .ok (.ireturn, 1) := by decide +kernel
theorem dX3_seatHome_44 : decode cX3_seatHome 44 = .ok (.iload_n 2, 1) := by decide +kernel
theorem dX3_seatHome_45 : decode cX3_seatHome 45 = .ok (.aload_n 0, 1) := by decide +kernel
theorem dX3_seatHome_46 : decode cX3_seatHome 46 = .ok (.iload_n 1, 1) := by decide +kernel
theorem dX3_seatHome_47 : decode cX3_seatHome 47 = .ok (.iload 4, 2) := by decide +kernel
theorem dX3_seatHome_49 : decode cX3_seatHome 49 = .ok (.iload_n 2, 1) := by decide +kernel
theorem dX3_seatHome_50 : decode cX3_seatHome 50 = .ok (.invokevirtual 106, 3) := by decide +kernel
theorem dX3_seatHome_53 : decode cX3_seatHome 53 = .ok (.isub, 1) := by decide +kernel
theorem dX3_seatHome_54 : decode cX3_seatHome 54 = .ok (.istore_n 2, 1) := by decide +kernel
theorem dX3_seatHome_55 : decode cX3_seatHome 55 = .ok (.iinc 3 1, 3) := by decide +kernel
theorem dX3_seatHome_58 : decode cX3_seatHome 58 = .ok (.goto (-49), 3) := by decide +kernel
theorem dX3_seatHome_61 : decode cX3_seatHome 61 = .ok (.iload_n 2, 1) := by decide +kernel
theorem dX3_seatHome_62 : decode cX3_seatHome 62 = .ok (.ifCond .ne 7, 3) := by decide +kernel
theorem dX3_seatHome_65 : decode cX3_seatHome 65 = .ok (.iconst 1, 1) := by decide +kernel
theorem dX3_seatHome_66 : decode cX3_seatHome 66 = .ok (.goto 4, 3) := by decide +kernel
theorem dX3_seatHome_69 : decode cX3_seatHome 69 = .ok (.iconst 0, 1) := by decide +kernel
theorem dX3_seatHome_70 : decode cX3_seatHome 70 = .ok (.ireturn, 1) := by decide +kernel
theorem dX3_findSteps_0 : decode cX3_findSteps 0 = .ok (.iconst 0, 1) := by decide +kernel
theorem dX3_findSteps_1 : decode cX3_findSteps 1 = .ok (.istore_n 1, 1) := by decide +kernel
theorem dX3_findSteps_2 : decode cX3_findSteps 2 = .ok (.iload_n 1, 1) := by decide +kernel
theorem dX3_findSteps_3 : decode cX3_findSteps 3 = .ok (.aload_n 0, 1) := by decide +kernel
theorem dX3_findSteps_4 : decode cX3_findSteps 4 = .ok (.getfield 27, 3) := by decide +kernel
theorem dX3_findSteps_7 : decode cX3_findSteps 7 = .ok (.arraylength, 1) := by decide +kernel
theorem dX3_findSteps_8 : decode cX3_findSteps 8 = .ok (.if_icmp .ge 17, 3) := by decide +kernel
theorem dX3_findSteps_11 : decode cX3_findSteps 11 = .ok (.aload_n 0, 1) := by decide +kernel
theorem dX3_findSteps_12 : decode cX3_findSteps 12 = .ok (.getfield 27, 3) := by decide +kernel
theorem dX3_findSteps_15 : decode cX3_findSteps 15 = .ok (.iload_n 1, 1) := by decide +kernel
theorem dX3_findSteps_16 : decode cX3_findSteps 16 = .ok (.ldc 84, 2) := by decide +kernel
theorem dX3_findSteps_18 : decode cX3_findSteps 18 = .ok (.iastore, 1) := by decide +kernel
theorem dX3_findSteps_19 : decode cX3_findSteps 19 = .ok (.iinc 1 1, 3) := by decide +kernel
theorem dX3_findSteps_22 : decode cX3_findSteps 22 = .ok (.goto (-20), 3) := by decide +kernel
theorem dX3_findSteps_25 : decode cX3_findSteps 25 = .ok (.iconst 0, 1) := by decide +kernel
theorem dX3_findSteps_26 : decode cX3_findSteps 26 = .ok (.istore_n 1, 1) := by decide +kernel
theorem dX3_findSteps_27 : decode cX3_findSteps 27 = .ok (.iload_n 1, 1) := by decide +kernel
theorem dX3_findSteps_28 : decode cX3_findSteps 28 = .ok (.aload_n 0, 1) := by decide +kernel
theorem dX3_findSteps_29 : decode cX3_findSteps 29 = .ok (.getfield 48, 3) := by decide +kernel
theorem dX3_findSteps_32 : decode cX3_findSteps 32 = .ok (.if_icmp .ge 44, 3) := by decide +kernel
theorem dX3_findSteps_35 : decode cX3_findSteps 35 = .ok (.iconst 0, 1) := by decide +kernel
theorem dX3_findSteps_36 : decode cX3_findSteps 36 = .ok (.istore_n 2, 1) := by decide +kernel
theorem dX3_findSteps_37 : decode cX3_findSteps 37 = .ok (.iload_n 2, 1) := by decide +kernel
theorem dX3_findSteps_38 : decode cX3_findSteps 38 = .ok (.aload_n 0, 1) := by decide +kernel
theorem dX3_findSteps_39 : decode cX3_findSteps 39 = .ok (.getfield 52, 3) := by decide +kernel
theorem dX3_findSteps_42 : decode cX3_findSteps 42 = .ok (.if_icmp .ge 28, 3) := by decide +kernel
theorem dX3_findSteps_45 : decode cX3_findSteps 45 = .ok (.aload_n 0, 1) := by decide +kernel
theorem dX3_findSteps_46 : decode cX3_findSteps 46 = .ok (.getfield 15, 3) := by decide +kernel
theorem dX3_findSteps_49 : decode cX3_findSteps 49 = .ok (.iload_n 1, 1) := by decide +kernel
theorem dX3_findSteps_50 : decode cX3_findSteps 50 = .ok (.iconst 5, 1) := by decide +kernel
theorem dX3_findSteps_51 : decode cX3_findSteps 51 = .ok (.imul, 1) := by decide +kernel
theorem dX3_findSteps_52 : decode cX3_findSteps 52 = .ok (.iload_n 2, 1) := by decide +kernel
theorem dX3_findSteps_53 : decode cX3_findSteps 53 = .ok (.iadd, 1) := by decide +kernel
theorem dX3_findSteps_54 : decode cX3_findSteps 54 = .ok (.iaload, 1) := by decide +kernel
theorem dX3_findSteps_55 : decode cX3_findSteps 55 = .ok (.ifCond .le 9, 3) := by decide +kernel
theorem dX3_findSteps_58 : decode cX3_findSteps 58 = .ok (.aload_n 0, 1) := by decide +kernel
theorem dX3_findSteps_59 : decode cX3_findSteps 59 = .ok (.iload_n 1, 1) := by decide +kernel
theorem dX3_findSteps_60 : decode cX3_findSteps 60 = .ok (.iload_n 2, 1) := by decide +kernel
theorem dX3_findSteps_61 : decode cX3_findSteps 61 = .ok (.invokevirtual 110, 3) := by decide +kernel
theorem dX3_findSteps_64 : decode cX3_findSteps 64 = .ok (.iinc 2 1, 3) := by decide +kernel
theorem dX3_findSteps_67 : decode cX3_findSteps 67 = .ok (.goto (-30), 3) := by decide +kernel
theorem dX3_findSteps_70 : decode cX3_findSteps 70 = .ok (.iinc 1 1, 3) := by decide +kernel
theorem dX3_findSteps_73 : decode cX3_findSteps 73 = .ok (.goto (-46), 3) := by decide +kernel
theorem dX3_findSteps_76 : decode cX3_findSteps 76 = .ok (.return_, 1) := by decide +kernel
theorem dX3_findStepsOf_0 : decode cX3_findStepsOf 0 = .ok (.aload_n 0, 1) := by decide +kernel
theorem dX3_findStepsOf_1 : decode cX3_findStepsOf 1 = .ok (.getfield 9, 3) := by decide +kernel
theorem dX3_findStepsOf_4 : decode cX3_findStepsOf 4 = .ok (.iload_n 1, 1) := by decide +kernel
theorem dX3_findStepsOf_5 : decode cX3_findStepsOf 5 = .ok (.iconst 5, 1) := by decide +kernel
theorem dX3_findStepsOf_6 : decode cX3_findStepsOf 6 = .ok (.imul, 1) := by decide +kernel
theorem dX3_findStepsOf_7 : decode cX3_findStepsOf 7 = .ok (.iload_n 2, 1) := by decide +kernel
theorem dX3_findStepsOf_8 : decode cX3_findStepsOf 8 = .ok (.iadd, 1) := by decide +kernel
theorem dX3_findStepsOf_9 : decode cX3_findStepsOf 9 = .ok (.iaload, 1) := by decide +kernel
theorem dX3_findStepsOf_10 : decode cX3_findStepsOf 10 = .ok (.istore_n 3, 1) := by decide +kernel
theorem dX3_findStepsOf_11 : decode cX3_findStepsOf 11 = .ok (.iconst 0, 1) := by decide +kernel
theorem dX3_findStepsOf_12 : decode cX3_findStepsOf 12 = .ok (.istore 4, 2) := by decide +kernel
theorem dX3_findStepsOf_14 : decode cX3_findStepsOf 14 = .ok (.iload 4, 2) := by decide +kernel
theorem dX3_findStepsOf_16 : decode cX3_findStepsOf 16 = .ok (.aload_n 0, 1) := by decide +kernel
theorem dX3_findStepsOf_17 : decode cX3_findStepsOf 17 = .ok (.getfield 52, 3) := by decide +kernel
theorem dX3_findStepsOf_20 : decode cX3_findStepsOf 20 = .ok (.if_icmp .ge 74, 3) := by decide +kernel
theorem dX3_findStepsOf_23 : decode cX3_findStepsOf 23 = .ok (.aload_n 0, 1) := by decide +kernel
theorem dX3_findStepsOf_24 : decode cX3_findStepsOf 24 = .ok (.getfield 9, 3) := by decide +kernel
theorem dX3_findStepsOf_27 : decode cX3_findStepsOf 27 = .ok (.iload_n 1, 1) := by decide +kernel
theorem dX3_findStepsOf_28 : decode cX3_findStepsOf 28 = .ok (.iconst 5, 1) := by decide +kernel
theorem dX3_findStepsOf_29 : decode cX3_findStepsOf 29 = .ok (.imul, 1) := by decide +kernel
theorem dX3_findStepsOf_30 : decode cX3_findStepsOf 30 = .ok (.iload 4, 2) := by decide +kernel
theorem dX3_findStepsOf_32 : decode cX3_findStepsOf 32 = .ok (.iadd, 1) := by decide +kernel
theorem dX3_findStepsOf_33 : decode cX3_findStepsOf 33 = .ok (.iaload, 1) := by decide +kernel
theorem dX3_findStepsOf_34 : decode cX3_findStepsOf 34 = .ok (.istore 5, 2) := by decide +kernel
theorem dX3_findStepsOf_36 : decode cX3_findStepsOf 36 = .ok (.iload 5, 2) := by decide +kernel
theorem dX3_findStepsOf_38 : decode cX3_findStepsOf 38 = .ok (.ldc 84, 2) := by decide +kernel
theorem dX3_findStepsOf_40 : decode cX3_findStepsOf 40 = .ok (.if_icmp .ge 48, 3) := by decide +kernel
theorem dX3_findStepsOf_43 : decode cX3_findStepsOf 43 = .ok (.iload 5, 2) := by decide +kernel
theorem dX3_findStepsOf_45 : decode cX3_findStepsOf 45 = .ok (.iload_n 3, 1) := by decide +kernel
theorem dX3_findStepsOf_46 : decode cX3_findStepsOf 46 = .ok (.isub, 1) := by decide +kernel
theorem dX3_findStepsOf_47 : decode cX3_findStepsOf 47 = .ok (.aload_n 0, 1) := by decide +kernel
theorem dX3_findStepsOf_48 : decode cX3_findStepsOf 48 = .ok (.getfield 27, 3) := by decide +kernel
theorem dX3_findStepsOf_51 : decode cX3_findStepsOf 51 = .ok (.iload_n 2, 1) := by decide +kernel
theorem dX3_findStepsOf_52 : decode cX3_findStepsOf 52 = .ok (.iconst 5, 1) := by decide +kernel
theorem dX3_findStepsOf_53 : decode cX3_findStepsOf 53 = .ok (.imul, 1) := by decide +kernel
theorem dX3_findStepsOf_54 : decode cX3_findStepsOf 54 = .ok (.iload 4, 2) := by decide +kernel
theorem dX3_findStepsOf_56 : decode cX3_findStepsOf 56 = .ok (.iadd, 1) := by decide +kernel
theorem dX3_findStepsOf_57 : decode cX3_findStepsOf 57 = .ok (.iaload, 1) := by decide +kernel
theorem dX3_findStepsOf_58 : decode cX3_findStepsOf 58 = .ok (.if_icmp .ge 30, 3) := by decide +kernel
theorem dX3_findStepsOf_61 : decode cX3_findStepsOf 61 = .ok (.aload_n 0, 1) := by decide +kernel
theorem dX3_findStepsOf_62 : decode cX3_findStepsOf 62 = .ok (.getfield 27, 3) := by decide +kernel
theorem dX3_findStepsOf_65 : decode cX3_findStepsOf 65 = .ok (.iload_n 2, 1) := by decide +kernel
theorem dX3_findStepsOf_66 : decode cX3_findStepsOf 66 = .ok (.iconst 5, 1) := by decide +kernel
theorem dX3_findStepsOf_67 : decode cX3_findStepsOf 67 = .ok (.imul, 1) := by decide +kernel
theorem dX3_findStepsOf_68 : decode cX3_findStepsOf 68 = .ok (.iload 4, 2) := by decide +kernel
theorem dX3_findStepsOf_70 : decode cX3_findStepsOf 70 = .ok (.iadd, 1) := by decide +kernel
theorem dX3_findStepsOf_71 : decode cX3_findStepsOf 71 = .ok (.iload 5, 2) := by decide +kernel
theorem dX3_findStepsOf_73 : decode cX3_findStepsOf 73 = .ok (.iload_n 3, 1) := by decide +kernel
theorem dX3_findStepsOf_74 : decode cX3_findStepsOf 74 = .ok (.isub, 1) := by decide +kernel
theorem dX3_findStepsOf_75 : decode cX3_findStepsOf 75 = .ok (.iastore, 1) := by decide +kernel
theorem dX3_findStepsOf_76 : decode cX3_findStepsOf 76 = .ok (.aload_n 0, 1) := by decide +kernel
theorem dX3_findStepsOf_77 : decode cX3_findStepsOf 77 = .ok (.getfield 30, 3) := by decide +kernel
theorem dX3_findStepsOf_80 : decode cX3_findStepsOf 80 = .ok (.iload_n 2, 1) := by decide +kernel
theorem dX3_findStepsOf_81 : decode cX3_findStepsOf 81 = .ok (.iconst 5, 1) := by decide +kernel
theorem dX3_findStepsOf_82 : decode cX3_findStepsOf 82 = .ok (.imul, 1) := by decide +kernel
theorem dX3_findStepsOf_83 : decode cX3_findStepsOf 83 = .ok (.iload 4, 2) := by decide +kernel
theorem dX3_findStepsOf_85 : decode cX3_findStepsOf 85 = .ok (.iadd, 1) := by decide +kernel
theorem dX3_findStepsOf_86 : decode cX3_findStepsOf 86 = .ok (.iload_n 1, 1) := by decide +kernel
theorem dX3_findStepsOf_87 : decode cX3_findStepsOf 87 = .ok (.iastore, 1) := by decide +kernel
theorem dX3_findStepsOf_88 : decode cX3_findStepsOf 88 = .ok (.iinc 4 1, 3) := by decide +kernel
theorem dX3_findStepsOf_91 : decode cX3_findStepsOf 91 = .ok (.goto (-77), 3) := by decide +kernel
theorem dX3_findStepsOf_94 : decode cX3_findStepsOf 94 = .ok (.return_, 1) := by decide +kernel
theorem dX3_startAt_0 : decode cX3_startAt 0 = .ok (.iconst 0, 1) := by decide +kernel
theorem dX3_startAt_1 : decode cX3_startAt 1 = .ok (.istore_n 2, 1) := by decide +kernel
theorem dX3_startAt_2 : decode cX3_startAt 2 = .ok (.iload_n 2, 1) := by decide +kernel
theorem dX3_startAt_3 : decode cX3_startAt 3 = .ok (.aload_n 0, 1) := by decide +kernel
theorem dX3_startAt_4 : decode cX3_startAt 4 = .ok (.getfield 52, 3) := by decide +kernel
theorem dX3_startAt_7 : decode cX3_startAt 7 = .ok (.if_icmp .ge 32, 3) := by decide +kernel
theorem dX3_startAt_10 : decode cX3_startAt 10 = .ok (.aload_n 0, 1) := by decide +kernel
theorem dX3_startAt_11 : decode cX3_startAt 11 = .ok (.getfield 33, 3) := by decide +kernel
theorem dX3_startAt_14 : decode cX3_startAt 14 = .ok (.iload_n 2, 1) := by decide +kernel
theorem dX3_startAt_15 : decode cX3_startAt 15 = .ok (.aload_n 0, 1) := by decide +kernel
theorem dX3_startAt_16 : decode cX3_startAt 16 = .ok (.getfield 9, 3) := by decide +kernel
theorem dX3_startAt_19 : decode cX3_startAt 19 = .ok (.iload_n 1, 1) := by decide +kernel
theorem dX3_startAt_20 : decode cX3_startAt 20 = .ok (.iconst 5, 1) := by decide +kernel
theorem dX3_startAt_21 : decode cX3_startAt 21 = .ok (.imul, 1) := by decide +kernel
theorem dX3_startAt_22 : decode cX3_startAt 22 = .ok (.iload_n 2, 1) := by decide +kernel
theorem dX3_startAt_23 : decode cX3_startAt 23 = .ok (.iadd, 1) := by decide +kernel
theorem dX3_startAt_24 : decode cX3_startAt 24 = .ok (.iaload, 1) := by decide +kernel
theorem dX3_startAt_25 : decode cX3_startAt 25 = .ok (.iastore, 1) := by decide +kernel
theorem dX3_startAt_26 : decode cX3_startAt 26 = .ok (.aload_n 0, 1) := by decide +kernel
theorem dX3_startAt_27 : decode cX3_startAt 27 = .ok (.getfield 36, 3) := by decide +kernel
theorem dX3_startAt_30 : decode cX3_startAt 30 = .ok (.iload_n 2, 1) := by decide +kernel
theorem dX3_startAt_31 : decode cX3_startAt 31 = .ok (.iconst (-1), 1) := by decide +kernel
theorem dX3_startAt_32 : decode cX3_startAt 32 = .ok (.iastore, 1) := by decide +kernel
theorem dX3_startAt_33 : decode cX3_startAt 33 = .ok (.iinc 2 1, 3) := by decide +kernel
theorem dX3_startAt_36 : decode cX3_startAt 36 = .ok (.goto (-34), 3) := by decide +kernel
theorem dX3_startAt_39 : decode cX3_startAt 39 = .ok (.return_, 1) := by decide +kernel
theorem dX3_spread_0 : decode cX3_spread 0 = .ok (.iconst 1, 1) := by decide +kernel
theorem dX3_spread_1 : decode cX3_spread 1 = .ok (.istore_n 1, 1) := by decide +kernel
theorem dX3_spread_2 : decode cX3_spread 2 = .ok (.iconst 0, 1) := by decide +kernel
theorem dX3_spread_3 : decode cX3_spread 3 = .ok (.istore_n 2, 1) := by decide +kernel
theorem dX3_spread_4 : decode cX3_spread 4 = .ok (.iload_n 2, 1) := by decide +kernel
theorem dX3_spread_5 : decode cX3_spread 5 = .ok (.aload_n 0, 1) := by decide +kernel
theorem dX3_spread_6 : decode cX3_spread 6 = .ok (.getfield 52, 3) := by decide +kernel
theorem dX3_spread_9 : decode cX3_spread 9 = .ok (.if_icmp .ge 52, 3) := by decide +kernel
theorem dX3_spread_12 : decode cX3_spread 12 = .ok (.iload_n 1, 1) := by decide +kernel
theorem dX3_spread_13 : decode cX3_spread 13 = .ok (.ifCond .eq 48, 3) := by decide +kernel
theorem dX3_spread_16 : decode cX3_spread 16 = .ok (.iconst 0, 1) := by decide +kernel
theorem dX3_spread_17 : decode cX3_spread 17 = .ok (.istore_n 1, 1) := by decide +kernel
theorem dX3_spread_18 : decode cX3_spread 18 = .ok (.iconst 0, 1) := by decide +kernel
theorem dX3_spread_19 : decode cX3_spread 19 = .ok (.istore_n 3, 1) := by decide +kernel
theorem dX3_spread_20 : decode cX3_spread 20 = .ok (.iload_n 3, 1) := by decide +kernel
theorem dX3_spread_21 : decode cX3_spread 21 = .ok (.aload_n 0, 1) := by decide +kernel
theorem dX3_spread_22 : decode cX3_spread 22 = .ok (.getfield 52, 3) := by decide +kernel
theorem dX3_spread_25 : decode cX3_spread 25 = .ok (.if_icmp .ge 30, 3) := by decide +kernel
theorem dX3_spread_28 : decode cX3_spread 28 = .ok (.aload_n 0, 1) := by decide +kernel
theorem dX3_spread_29 : decode cX3_spread 29 = .ok (.getfield 33, 3) := by decide +kernel
theorem dX3_spread_32 : decode cX3_spread 32 = .ok (.iload_n 3, 1) := by decide +kernel
theorem dX3_spread_33 : decode cX3_spread 33 = .ok (.iaload, 1) := by decide +kernel
theorem dX3_spread_34 : decode cX3_spread 34 = .ok (.ldc 84, 2) := by decide +kernel
theorem dX3_spread_36 : decode cX3_spread 36 = .ok (.if_icmp .ge 13, 3) := by decide +kernel
theorem dX3_spread_39 : decode cX3_spread 39 = .ok (.aload_n 0, 1) := by decide +kernel
theorem dX3_spread_40 : decode cX3_spread 40 = .ok (.iload_n 3, 1) := by decide +kernel
theorem dX3_spread_41 : decode cX3_spread 41 = .ok (.invokevirtual 114, 3) := by decide +kernel
theorem dX3_spread_44 : decode cX3_spread 44 = .ok (.ifCond .eq 5, 3) := by decide +kernel
theorem dX3_spread_47 : decode cX3_spread 47 = .ok (.iconst 1, 1) := by decide +kernel
theorem dX3_spread_48 : decode cX3_spread 48 = .ok (.istore_n 1, 1) := by decide +kernel
theorem dX3_spread_49 : decode cX3_spread 49 = .ok (.iinc 3 1, 3) := by decide +kernel
theorem dX3_spread_52 : decode cX3_spread 52 = .ok (.goto (-32), 3) := by decide +kernel
theorem dX3_spread_55 : decode cX3_spread 55 = .ok (.iinc 2 1, 3) := by decide +kernel
theorem dX3_spread_58 : decode cX3_spread 58 = .ok (.goto (-54), 3) := by decide +kernel
theorem dX3_spread_61 : decode cX3_spread 61 = .ok (.return_, 1) := by decide +kernel
theorem dX3_spreadFrom_0 : decode cX3_spreadFrom 0 = .ok (.iconst 0, 1) := by decide +kernel
theorem dX3_spreadFrom_1 : decode cX3_spreadFrom 1 = .ok (.istore_n 2, 1) := by decide +kernel
theorem dX3_spreadFrom_2 : decode cX3_spreadFrom 2 = .ok (.iconst 0, 1) := by decide +kernel
theorem dX3_spreadFrom_3 : decode cX3_spreadFrom 3 = .ok (.istore_n 3, 1) := by decide +kernel
theorem dX3_spreadFrom_4 : decode cX3_spreadFrom 4 = .ok (.iload_n 3, 1) := by decide +kernel
theorem dX3_spreadFrom_5 : decode cX3_spreadFrom 5 = .ok (.aload_n 0, 1) := by decide +kernel
theorem dX3_spreadFrom_6 : decode cX3_spreadFrom 6 = .ok (.getfield 52, 3) := by decide +kernel
theorem dX3_spreadFrom_9 : decode cX3_spreadFrom 9 = .ok (.if_icmp .ge 70, 3) := by decide +kernel
theorem dX3_spreadFrom_12 : decode cX3_spreadFrom 12 = .ok (.aload_n 0, 1) := by decide +kernel
theorem dX3_spreadFrom_13 : decode cX3_spreadFrom 13 = .ok (.getfield 27, 3) := by decide +kernel
theorem dX3_spreadFrom_16 : decode cX3_spreadFrom 16 = .ok (.iload_n 1, 1) := by decide +kernel
theorem dX3_spreadFrom_17 : decode cX3_spreadFrom 17 = .ok (.iconst 5, 1) := by decide +kernel
theorem dX3_spreadFrom_18 : decode cX3_spreadFrom 18 = .ok (.imul, 1) := by decide +kernel
theorem dX3_spreadFrom_19 : decode cX3_spreadFrom 19 = .ok (.iload_n 3, 1) := by decide +kernel
theorem dX3_spreadFrom_20 : decode cX3_spreadFrom 20 = .ok (.iadd, 1) := by decide +kernel
theorem dX3_spreadFrom_21 : decode cX3_spreadFrom 21 = .ok (.iaload, 1) := by decide +kernel
theorem dX3_spreadFrom_22 : decode cX3_spreadFrom 22 = .ok (.istore 4, 2) := by decide +kernel
theorem dX3_spreadFrom_24 : decode cX3_spreadFrom 24 = .ok (.iload 4, 2) := by decide +kernel
theorem dX3_spreadFrom_26 : decode cX3_spreadFrom 26 = .ok (.ldc 84, 2) := by decide +kernel
theorem dX3_spreadFrom_28 : decode cX3_spreadFrom 28 = .ok (.if_icmp .ge 45, 3) := by decide +kernel
theorem dX3_spreadFrom_31 : decode cX3_spreadFrom 31 = .ok (.aload_n 0, 1) := by decide +kernel
theorem dX3_spreadFrom_32 : decode cX3_spreadFrom 32 = .ok (.getfield 33, 3) := by decide +kernel
theorem dX3_spreadFrom_35 : decode cX3_spreadFrom 35 = .ok (.iload_n 1, 1) := by decide +kernel
theorem dX3_spreadFrom_36 : decode cX3_spreadFrom 36 = .ok (.iaload, 1) := by decide +kernel
theorem dX3_spreadFrom_37 : decode cX3_spreadFrom 37 = .ok (.iload 4, 2) := by decide +kernel
theorem dX3_spreadFrom_39 : decode cX3_spreadFrom 39 = .ok (.iadd, 1) := by decide +kernel
theorem dX3_spreadFrom_40 : decode cX3_spreadFrom 40 = .ok (.aload_n 0, 1) := by decide +kernel
theorem dX3_spreadFrom_41 : decode cX3_spreadFrom 41 = .ok (.getfield 33, 3) := by decide +kernel
theorem dX3_spreadFrom_44 : decode cX3_spreadFrom 44 = .ok (.iload_n 3, 1) := by decide +kernel
theorem dX3_spreadFrom_45 : decode cX3_spreadFrom 45 = .ok (.iaload, 1) := by decide +kernel
theorem dX3_spreadFrom_46 : decode cX3_spreadFrom 46 = .ok (.if_icmp .ge 27, 3) := by decide +kernel
theorem dX3_spreadFrom_49 : decode cX3_spreadFrom 49 = .ok (.aload_n 0, 1) := by decide +kernel
theorem dX3_spreadFrom_50 : decode cX3_spreadFrom 50 = .ok (.getfield 33, 3) := by decide +kernel
theorem dX3_spreadFrom_53 : decode cX3_spreadFrom 53 = .ok (.iload_n 3, 1) := by decide +kernel
theorem dX3_spreadFrom_54 : decode cX3_spreadFrom 54 = .ok (.aload_n 0, 1) := by decide +kernel
theorem dX3_spreadFrom_55 : decode cX3_spreadFrom 55 = .ok (.getfield 33, 3) := by decide +kernel
theorem dX3_spreadFrom_58 : decode cX3_spreadFrom 58 = .ok (.iload_n 1, 1) := by decide +kernel
theorem dX3_spreadFrom_59 : decode cX3_spreadFrom 59 = .ok (.iaload, 1) := by decide +kernel
theorem dX3_spreadFrom_60 : decode cX3_spreadFrom 60 = .ok (.iload 4, 2) := by decide +kernel
theorem dX3_spreadFrom_62 : decode cX3_spreadFrom 62 = .ok (.iadd, 1) := by decide +kernel
theorem dX3_spreadFrom_63 : decode cX3_spreadFrom 63 = .ok (.iastore, 1) := by decide +kernel
theorem dX3_spreadFrom_64 : decode cX3_spreadFrom 64 = .ok (.aload_n 0, 1) := by decide +kernel
theorem dX3_spreadFrom_65 : decode cX3_spreadFrom 65 = .ok (.getfield 36, 3) := by decide +kernel
theorem dX3_spreadFrom_68 : decode cX3_spreadFrom 68 = .ok (.iload_n 3, 1) := by decide +kernel
theorem dX3_spreadFrom_69 : decode cX3_spreadFrom 69 = .ok (.iload_n 1, 1) := by decide +kernel
theorem dX3_spreadFrom_70 : decode cX3_spreadFrom 70 = .ok (.iastore, 1) := by decide +kernel
theorem dX3_spreadFrom_71 : decode cX3_spreadFrom 71 = .ok (.iconst 1, 1) := by decide +kernel
theorem dX3_spreadFrom_72 : decode cX3_spreadFrom 72 = .ok (.istore_n 2, 1) := by decide +kernel
theorem dX3_spreadFrom_73 : decode cX3_spreadFrom 73 = .ok (.iinc 3 1, 3) := by decide +kernel
theorem dX3_spreadFrom_76 : decode cX3_spreadFrom 76 = .ok (.goto (-72), 3) := by decide +kernel
theorem dX3_spreadFrom_79 : decode cX3_spreadFrom 79 = .ok (.iload_n 2, 1) := by decide +kernel
theorem dX3_spreadFrom_80 : decode cX3_spreadFrom 80 = .ok (.ireturn, 1) := by decide +kernel
theorem dX3_cheapestWithRoom_0 : decode cX3_cheapestWithRoom 0 = .ok (.iconst (-1), 1) := by decide +kernel
theorem dX3_cheapestWithRoom_1 : decode cX3_cheapestWithRoom 1 = .ok (.istore_n 1, 1) := by decide +kernel
theorem dX3_cheapestWithRoom_2 : decode cX3_cheapestWithRoom 2 = .ok (.iconst 0, 1) := by decide +kernel
theorem dX3_cheapestWithRoom_3 : decode cX3_cheapestWithRoom 3 = .ok (.istore_n 2, 1) := by decide +kernel
theorem dX3_cheapestWithRoom_4 : decode cX3_cheapestWithRoom 4 = .ok (.iload_n 2, 1) := by decide +kernel
theorem dX3_cheapestWithRoom_5 : decode cX3_cheapestWithRoom 5 = .ok (.aload_n 0, 1) := by decide +kernel
theorem dX3_cheapestWithRoom_6 : decode cX3_cheapestWithRoom 6 = .ok (.getfield 52, 3) := by decide +kernel
theorem dX3_cheapestWithRoom_9 : decode cX3_cheapestWithRoom 9 = .ok (.if_icmp .ge 66, 3) := by decide +kernel
theorem dX3_cheapestWithRoom_12 : decode cX3_cheapestWithRoom 12 = .ok (.aload_n 0, 1) := by decide +kernel
theorem dX3_cheapestWithRoom_13 : decode cX3_cheapestWithRoom 13 = .ok (.getfield 24, 3) := by decide +kernel
theorem dX3_cheapestWithRoom_16 : decode cX3_cheapestWithRoom 16 = .ok (.iload_n 2, 1) := by decide +kernel
theorem dX3_cheapestWithRoom_17 : decode cX3_cheapestWithRoom 17 = .ok (.iaload, 1) := by decide +kernel
theorem dX3_cheapestWithRoom_18 : decode cX3_cheapestWithRoom 18 = .ok (.aload_n 0, 1) := by decide +kernel
theorem dX3_cheapestWithRoom_19 : decode cX3_cheapestWithRoom 19 = .ok (.getfield 21, 3) := by decide +kernel
theorem dX3_cheapestWithRoom_22 : decode cX3_cheapestWithRoom 22 = .ok (.iload_n 2, 1) := by decide +kernel
theorem dX3_cheapestWithRoom_23 : decode cX3_cheapestWithRoom 23 = .ok (.iaload, 1) := by decide +kernel
theorem dX3_cheapestWithRoom_24 : decode cX3_cheapestWithRoom 24 = .ok (.if_icmp .ge 18, 3) := by decide +kernel
theorem dX3_cheapestWithRoom_27 : decode cX3_cheapestWithRoom 27 = .ok (.aload_n 0, 1) := by decide +kernel
theorem dX3_cheapestWithRoom_28 : decode cX3_cheapestWithRoom 28 = .ok (.getfield 33, 3) := by decide +kernel
theorem dX3_cheapestWithRoom_31 : decode cX3_cheapestWithRoom 31 = .ok (.iload_n 2, 1) := by decide +kernel
theorem dX3_cheapestWithRoom_32 : decode cX3_cheapestWithRoom 32 = .ok (.iaload, 1) := by decide +kernel
theorem dX3_cheapestWithRoom_33 : decode cX3_cheapestWithRoom 33 = .ok (.ldc 84, 2) := by decide +kernel
theorem dX3_cheapestWithRoom_35 : decode cX3_cheapestWithRoom 35 = .ok (.if_icmp .ge 7, 3) := by decide +kernel
theorem dX3_cheapestWithRoom_38 : decode cX3_cheapestWithRoom 38 = .ok (.iconst 1, 1) := by decide +kernel
theorem dX3_cheapestWithRoom_39 : decode cX3_cheapestWithRoom 39 = .ok (.goto 4, 3) := by decide +kernel
theorem dX3_cheapestWithRoom_42 : decode cX3_cheapestWithRoom 42 = .ok (.iconst 0, 1) := by decide +kernel
theorem dX3_cheapestWithRoom_43 : decode cX3_cheapestWithRoom 43 = .ok (.istore_n 3, 1) := by decide +kernel
theorem dX3_cheapestWithRoom_44 : decode cX3_cheapestWithRoom 44 = .ok (.iload_n 3, 1) := by decide +kernel
theorem dX3_cheapestWithRoom_45 : decode cX3_cheapestWithRoom 45 = .ok (.ifCond .eq 24, 3) := by decide +kernel
theorem dX3_cheapestWithRoom_48 : decode cX3_cheapestWithRoom 48 = .ok (.iload_n 1, 1) := by decide +kernel
theorem dX3_cheapestWithRoom_49 : decode cX3_cheapestWithRoom 49 = .ok (.ifCond .lt 18, 3) := by decide +kernel
theorem dX3_cheapestWithRoom_52 : decode cX3_cheapestWithRoom 52 = .ok (.aload_n 0, 1) := by decide +kernel
theorem dX3_cheapestWithRoom_53 : decode cX3_cheapestWithRoom 53 = .ok (.getfield 33, 3) := by decide +kernel
theorem dX3_cheapestWithRoom_56 : decode cX3_cheapestWithRoom 56 = .ok (.iload_n 2, 1) := by decide +kernel
theorem dX3_cheapestWithRoom_57 : decode cX3_cheapestWithRoom 57 = .ok (.iaload, 1) := by decide +kernel
theorem dX3_cheapestWithRoom_58 : decode cX3_cheapestWithRoom 58 = .ok (.aload_n 0, 1) := by decide +kernel
theorem dX3_cheapestWithRoom_59 : decode cX3_cheapestWithRoom 59 = .ok (.getfield 33, 3) := by decide +kernel
theorem dX3_cheapestWithRoom_62 : decode cX3_cheapestWithRoom 62 = .ok (.iload_n 1, 1) := by decide +kernel
theorem dX3_cheapestWithRoom_63 : decode cX3_cheapestWithRoom 63 = .ok (.iaload, 1) := by decide +kernel
theorem dX3_cheapestWithRoom_64 : decode cX3_cheapestWithRoom 64 = .ok (.if_icmp .ge 5, 3) := by decide +kernel
theorem dX3_cheapestWithRoom_67 : decode cX3_cheapestWithRoom 67 = .ok (.iload_n 2, 1) := by decide +kernel
theorem dX3_cheapestWithRoom_68 : decode cX3_cheapestWithRoom 68 = .ok (.istore_n 1, 1) := by decide +kernel
theorem dX3_cheapestWithRoom_69 : decode cX3_cheapestWithRoom 69 = .ok (.iinc 2 1, 3) := by decide +kernel
theorem dX3_cheapestWithRoom_72 : decode cX3_cheapestWithRoom 72 = .ok (.goto (-68), 3) := by decide +kernel
theorem dX3_cheapestWithRoom_75 : decode cX3_cheapestWithRoom 75 = .ok (.iload_n 1, 1) := by decide +kernel
theorem dX3_cheapestWithRoom_76 : decode cX3_cheapestWithRoom 76 = .ok (.ireturn, 1) := by decide +kernel
theorem dX3_seatAlong_0 : decode cX3_seatAlong 0 = .ok (.iload_n 3, 1) := by decide +kernel
theorem dX3_seatAlong_1 : decode cX3_seatAlong 1 = .ok (.aload_n 0, 1) := by decide +kernel
theorem dX3_seatAlong_2 : decode cX3_seatAlong 2 = .ok (.getfield 21, 3) := by decide +kernel
theorem dX3_seatAlong_5 : decode cX3_seatAlong 5 = .ok (.iload_n 2, 1) := by decide +kernel
theorem dX3_seatAlong_6 : decode cX3_seatAlong 6 = .ok (.iaload, 1) := by decide +kernel
theorem dX3_seatAlong_7 : decode cX3_seatAlong 7 = .ok (.aload_n 0, 1) := by decide +kernel
theorem dX3_seatAlong_8 : decode cX3_seatAlong 8 = .ok (.getfield 24, 3) := by decide +kernel
theorem dX3_seatAlong_11 : decode cX3_seatAlong 11 = .ok (.iload_n 2, 1) := by decide +kernel
theorem dX3_seatAlong_12 : decode cX3_seatAlong 12 = .ok (.iaload, 1) := by decide +kernel
theorem dX3_seatAlong_13 : decode cX3_seatAlong 13 = .ok (.isub, 1) := by decide +kernel
theorem dX3_seatAlong_14 : decode cX3_seatAlong 14 = .ok (.invokestatic 117, 3) := by decide +kernel
theorem dX3_seatAlong_17 : decode cX3_seatAlong 17 = .ok (.istore 4, 2) := by decide +kernel
theorem dX3_seatAlong_19 : decode cX3_seatAlong 19 = .ok (.iload_n 2, 1) := by decide +kernel
theorem dX3_seatAlong_20 : decode cX3_seatAlong 20 = .ok (.istore 5, 2) := by decide +kernel
theorem dX3_seatAlong_22 : decode cX3_seatAlong 22 = .ok (.iconst 0, 1) := by decide +kernel
theorem dX3_seatAlong_23 : decode cX3_seatAlong 23 = .ok (.istore 6, 2) := by decide +kernel
theorem dX3_seatAlong_25 : decode cX3_seatAlong 25 = .ok (.iload 6, 2) := by decide +kernel
theorem dX3_seatAlong_27 : decode cX3_seatAlong 27 = .ok (.aload_n 0, 1) := by decide +kernel
theorem dX3_seatAlong_28 : decode cX3_seatAlong 28 = .ok (.getfield 52, 3) := by decide +kernel
theorem dX3_seatAlong_31 : decode cX3_seatAlong 31 = .ok (.if_icmp .ge 56, 3) := by decide +kernel
theorem dX3_seatAlong_34 : decode cX3_seatAlong 34 = .ok (.aload_n 0, 1) := by decide +kernel
theorem dX3_seatAlong_35 : decode cX3_seatAlong 35 = .ok (.getfield 36, 3) := by decide +kernel
theorem dX3_seatAlong_38 : decode cX3_seatAlong 38 = .ok (.iload 5, 2) := by decide +kernel
theorem dX3_seatAlong_40 : decode cX3_seatAlong 40 = .ok (.iaload, 1) := by decide +kernel
theorem dX3_seatAlong_41 : decode cX3_seatAlong 41 = .ok (.ifCond .lt 46, 3) := by decide +kernel
theorem dX3_seatAlong_44 : decode cX3_seatAlong 44 = .ok (.iload 4, 2) := by decide +kernel
theorem dX3_seatAlong_46 : decode cX3_seatAlong 46 = .ok (.aload_n 0, 1) := by decide +kernel
theorem dX3_seatAlong_47 : decode cX3_seatAlong 47 = .ok (.getfield 15, 3) := by decide +kernel
theorem dX3_seatAlong_50 : decode cX3_seatAlong 50 = .ok (.aload_n 0, 1) := by decide +kernel
theorem dX3_seatAlong_51 : decode cX3_seatAlong 51 = .ok (.iload 5, 2) := by decide +kernel
theorem dX3_seatAlong_53 : decode cX3_seatAlong 53 = .ok (.invokevirtual 123, 3) := by decide +kernel
theorem dX3_seatAlong_56 : decode cX3_seatAlong 56 = .ok (.iconst 5, 1) := by decide +kernel
theorem dX3_seatAlong_57 : decode cX3_seatAlong 57 = .ok (.imul, 1) := by decide +kernel
theorem dX3_seatAlong_58 : decode cX3_seatAlong 58 = .ok (.aload_n 0, 1) := by decide +kernel
theorem dX3_seatAlong_59 : decode cX3_seatAlong 59 = .ok (.getfield 36, 3) := by decide +kernel
theorem dX3_seatAlong_62 : decode cX3_seatAlong 62 = .ok (.iload 5, 2) := by decide +kernel
theorem dX3_seatAlong_64 : decode cX3_seatAlong 64 = .ok (.iaload, 1) := by decide +kernel
theorem dX3_seatAlong_65 : decode cX3_seatAlong 65 = .ok (.iadd, 1) := by decide +kernel
theorem dX3_seatAlong_66 : decode cX3_seatAlong 66 = .ok (.iaload, 1) := by decide +kernel
theorem dX3_seatAlong_67 : decode cX3_seatAlong 67 = .ok (.invokestatic 117, 3) := by decide +kernel
theorem dX3_seatAlong_70 : decode cX3_seatAlong 70 = .ok (.istore 4, 2) := by decide +kernel
theorem dX3_seatAlong_72 : decode cX3_seatAlong 72 = .ok (.aload_n 0, 1) := by decide +kernel
theorem dX3_seatAlong_73 : decode cX3_seatAlong 73 = .ok (.getfield 36, 3) := by decide +kernel
theorem dX3_seatAlong_76 : decode cX3_seatAlong 76 = .ok (.iload 5, 2) := by decide +kernel
theorem dX3_seatAlong_78 : decode cX3_seatAlong 78 = .ok (.iaload, 1) := by decide +kernel
theorem dX3_seatAlong_79 : decode cX3_seatAlong 79 = .ok (.istore 5, 2) := by decide +kernel
theorem dX3_seatAlong_81 : decode cX3_seatAlong 81 = .ok (.iinc 6 1, 3) := by decide +kernel
theorem dX3_seatAlong_84 : decode cX3_seatAlong 84 = .ok (.goto (-59), 3) := by decide +kernel
theorem dX3_seatAlong_87 : decode cX3_seatAlong 87 = .ok (.iload_n 2, 1) := by decide +kernel
theorem dX3_seatAlong_88 : decode cX3_seatAlong 88 = .ok (.istore 5, 2) := by decide +kernel
theorem dX3_seatAlong_90 : decode cX3_seatAlong 90 = .ok (.iconst 0, 1) := by decide +kernel
theorem dX3_seatAlong_91 : decode cX3_seatAlong 91 = .ok (.istore 6, 2) := by decide +kernel
theorem dX3_seatAlong_93 : decode cX3_seatAlong 93 = .ok (.iload 6, 2) := by decide +kernel
theorem dX3_seatAlong_95 : decode cX3_seatAlong 95 = .ok (.aload_n 0, 1) := by decide +kernel
theorem dX3_seatAlong_96 : decode cX3_seatAlong 96 = .ok (.getfield 52, 3) := by decide +kernel
theorem dX3_seatAlong_99 : decode cX3_seatAlong 99 = .ok (.if_icmp .ge 68, 3) := by decide +kernel
theorem dX3_seatAlong_102 : decode cX3_seatAlong 102 = .ok (.aload_n 0, 1) := by decide +kernel
theorem dX3_seatAlong_103 : decode cX3_seatAlong 103 = .ok (.getfield 36, 3) := by decide +kernel
theorem dX3_seatAlong_106 : decode cX3_seatAlong 106 = .ok (.iload 5, 2) := by decide +kernel
theorem dX3_seatAlong_108 : decode cX3_seatAlong 108 = .ok (.iaload, 1) := by decide +kernel
theorem dX3_seatAlong_109 : decode cX3_seatAlong 109 = .ok (.ifCond .lt 58, 3) := by decide +kernel
theorem dX3_seatAlong_112 : decode cX3_seatAlong 112 = .ok (.aload_n 0, 1) := by decide +kernel
theorem dX3_seatAlong_113 : decode cX3_seatAlong 113 = .ok (.iload 5, 2) := by decide +kernel
theorem dX3_seatAlong_115 : decode cX3_seatAlong 115 = .ok (.invokevirtual 123, 3) := by decide +kernel
theorem dX3_seatAlong_118 : decode cX3_seatAlong 118 = .ok (.iconst 5, 1) := by decide +kernel
theorem dX3_seatAlong_119 : decode cX3_seatAlong 119 = .ok (.imul, 1) := by decide +kernel
theorem dX3_seatAlong_120 : decode cX3_seatAlong 120 = .ok (.istore 7, 2) := by decide +kernel
theorem dX3_seatAlong_122 : decode cX3_seatAlong 122 = .ok (.aload_n 0, 1) := by decide +kernel
theorem dX3_seatAlong_123 : decode cX3_seatAlong 123 = .ok (.getfield 15, 3) := by decide +kernel
theorem dX3_seatAlong_126 : decode cX3_seatAlong 126 = .ok (.iload 7, 2) := by decide +kernel
theorem dX3_seatAlong_128 : decode cX3_seatAlong 128 = .ok (.iload 5, 2) := by decide +kernel
theorem dX3_seatAlong_130 : decode cX3_seatAlong 130 = .ok (.iadd, 1) := by decide +kernel
theorem dX3_seatAlong_131 : decode cX3_seatAlong 131 = .ok (.dup2, 1) := by decide +kernel
theorem dX3_seatAlong_132 : decode cX3_seatAlong 132 = .ok (.iaload, 1) := by decide +kernel
theorem dX3_seatAlong_133 : decode cX3_seatAlong 133 = .ok (.iload 4, 2) := by decide +kernel
theorem dX3_seatAlong_135 : decode cX3_seatAlong 135 = .ok (.iadd, 1) := by decide +kernel
theorem dX3_seatAlong_136 : decode cX3_seatAlong 136 = .ok (.iastore, 1) := by decide +kernel
theorem dX3_seatAlong_137 : decode cX3_seatAlong 137 = .ok (.aload_n 0, 1) := by decide +kernel
theorem dX3_seatAlong_138 : decode cX3_seatAlong 138 = .ok (.getfield 36, 3) := by decide +kernel
theorem dX3_seatAlong_141 : decode cX3_seatAlong 141 = .ok (.iload 5, 2) := by decide +kernel
theorem dX3_seatAlong_143 : decode cX3_seatAlong 143 = .ok (.iaload, 1) := by decide +kernel
theorem dX3_seatAlong_144 : decode cX3_seatAlong 144 = .ok (.istore 5, 2) := by decide +kernel
theorem dX3_seatAlong_146 : decode cX3_seatAlong 146 = .ok (.aload_n 0, 1) := by decide +kernel
theorem dX3_seatAlong_147 : decode cX3_seatAlong 147 = .ok (.getfield 15, 3) := by decide +kernel
theorem dX3_seatAlong_150 : decode cX3_seatAlong 150 = .ok (.iload 7, 2) := by decide +kernel
theorem dX3_seatAlong_152 : decode cX3_seatAlong 152 = .ok (.iload 5, 2) := by decide +kernel
theorem dX3_seatAlong_154 : decode cX3_seatAlong 154 = .ok (.iadd, 1) := by decide +kernel
theorem dX3_seatAlong_155 : decode cX3_seatAlong 155 = .ok (.dup2, 1) := by decide +kernel
theorem dX3_seatAlong_156 : decode cX3_seatAlong 156 = .ok (.iaload, 1) := by decide +kernel
theorem dX3_seatAlong_157 : decode cX3_seatAlong 157 = .ok (.iload 4, 2) := by decide +kernel
theorem dX3_seatAlong_159 : decode cX3_seatAlong 159 = .ok (.isub, 1) := by decide +kernel
theorem dX3_seatAlong_160 : decode cX3_seatAlong 160 = .ok (.iastore, 1) := by decide +kernel
theorem dX3_seatAlong_161 : decode cX3_seatAlong 161 = .ok (.iinc 6 1, 3) := by decide +kernel
theorem dX3_seatAlong_164 : decode cX3_seatAlong 164 = .ok (.goto (-71), 3) := by decide +kernel
theorem dX3_seatAlong_167 : decode cX3_seatAlong 167 = .ok (.aload_n 0, 1) := by decide +kernel
theorem dX3_seatAlong_168 : decode cX3_seatAlong 168 = .ok (.getfield 15, 3) := by decide +kernel
theorem dX3_seatAlong_171 : decode cX3_seatAlong 171 = .ok (.iload_n 1, 1) := by decide +kernel
theorem dX3_seatAlong_172 : decode cX3_seatAlong 172 = .ok (.iconst 5, 1) := by decide +kernel
theorem dX3_seatAlong_173 : decode cX3_seatAlong 173 = .ok (.imul, 1) := by decide +kernel
theorem dX3_seatAlong_174 : decode cX3_seatAlong 174 = .ok (.iload 5, 2) := by decide +kernel
theorem dX3_seatAlong_176 : decode cX3_seatAlong 176 = .ok (.iadd, 1) := by decide +kernel
theorem dX3_seatAlong_177 : decode cX3_seatAlong 177 = .ok (.dup2, 1) := by decide +kernel
theorem dX3_seatAlong_178 : decode cX3_seatAlong 178 = .ok (.iaload, 1) := by decide +kernel
theorem dX3_seatAlong_179 : decode cX3_seatAlong 179 = .ok (.iload 4, 2) := by decide +kernel
theorem dX3_seatAlong_181 : decode cX3_seatAlong 181 = .ok (.iadd, 1) := by decide +kernel
theorem dX3_seatAlong_182 : decode cX3_seatAlong 182 = .ok (.iastore, 1) := by decide +kernel
theorem dX3_seatAlong_183 : decode cX3_seatAlong 183 = .ok (.aload_n 0, 1) := by decide +kernel
theorem dX3_seatAlong_184 : decode cX3_seatAlong 184 = .ok (.getfield 24, 3) := by decide +kernel
theorem dX3_seatAlong_187 : decode cX3_seatAlong 187 = .ok (.iload_n 2, 1) := by decide +kernel
theorem dX3_seatAlong_188 : decode cX3_seatAlong 188 = .ok (.dup2, 1) := by decide +kernel
theorem dX3_seatAlong_189 : decode cX3_seatAlong 189 = .ok (.iaload, 1) := by decide +kernel
theorem dX3_seatAlong_190 : decode cX3_seatAlong 190 = .ok (.iload 4, 2) := by decide +kernel
theorem dX3_seatAlong_192 : decode cX3_seatAlong 192 = .ok (.iadd, 1) := by decide +kernel
theorem dX3_seatAlong_193 : decode cX3_seatAlong 193 = .ok (.iastore, 1) := by decide +kernel
theorem dX3_seatAlong_194 : decode cX3_seatAlong 194 = .ok (.iload 4, 2) := by decide +kernel
theorem dX3_seatAlong_196 : decode cX3_seatAlong 196 = .ok (.ireturn, 1) := by decide +kernel
theorem dX3_moverTo_0 : decode cX3_moverTo 0 = .ok (.aload_n 0, 1) := by decide +kernel
theorem dX3_moverTo_1 : decode cX3_moverTo 1 = .ok (.getfield 30, 3) := by decide +kernel
theorem dX3_moverTo_4 : decode cX3_moverTo 4 = .ok (.aload_n 0, 1) := by decide +kernel
theorem dX3_moverTo_5 : decode cX3_moverTo 5 = .ok (.getfield 36, 3) := by decide +kernel
theorem dX3_moverTo_8 : decode cX3_moverTo 8 = .ok (.iload_n 1, 1) := by decide +kernel
theorem dX3_moverTo_9 : decode cX3_moverTo 9 = .ok (.iaload, 1) := by decide +kernel
theorem dX3_moverTo_10 : decode cX3_moverTo 10 = .ok (.iconst 5, 1) := by decide +kernel
theorem dX3_moverTo_11 : decode cX3_moverTo 11 = .ok (.imul, 1) := by decide +kernel
theorem dX3_moverTo_12 : decode cX3_moverTo 12 = .ok (.iload_n 1, 1) := by decide +kernel
theorem dX3_moverTo_13 : decode cX3_moverTo 13 = .ok (.iadd, 1) := by decide +kernel
theorem dX3_moverTo_14 : decode cX3_moverTo 14 = .ok (.iaload, 1) := by decide +kernel
theorem dX3_moverTo_15 : decode cX3_moverTo 15 = .ok (.ireturn, 1) := by decide +kernel
theorem dX3_weigh_0 : decode cX3_weigh 0 = .ok (.aload_n 0, 1) := by decide +kernel
theorem dX3_weigh_1 : decode cX3_weigh 1 = .ok (.invokevirtual 93, 3) := by decide +kernel
theorem dX3_weigh_4 : decode cX3_weigh 4 = .ok (.iconst 0, 1) := by decide +kernel
theorem dX3_weigh_5 : decode cX3_weigh 5 = .ok (.istore_n 1, 1) := by decide +kernel
theorem dX3_weigh_6 : decode cX3_weigh 6 = .ok (.iload_n 1, 1) := by decide +kernel
theorem dX3_weigh_7 : decode cX3_weigh 7 = .ok (.aload_n 0, 1) := by decide +kernel
theorem dX3_weigh_8 : decode cX3_weigh 8 = .ok (.getfield 52, 3) := by decide +kernel
theorem dX3_weigh_11 : decode cX3_weigh 11 = .ok (.if_icmp .ge 37, 3) := by decide +kernel
theorem dX3_weigh_14 : decode cX3_weigh 14 = .ok (.aload_n 0, 1) := by decide +kernel
theorem dX3_weigh_15 : decode cX3_weigh 15 = .ok (.getfield 33, 3) := by decide +kernel
theorem dX3_weigh_18 : decode cX3_weigh 18 = .ok (.iload_n 1, 1) := by decide +kernel
theorem dX3_weigh_19 : decode cX3_weigh 19 = .ok (.aload_n 0, 1) := by decide +kernel
theorem dX3_weigh_20 : decode cX3_weigh 20 = .ok (.getfield 24, 3) := by decide +kernel
theorem dX3_weigh_23 : decode cX3_weigh 23 = .ok (.iload_n 1, 1) := by decide +kernel
theorem dX3_weigh_24 : decode cX3_weigh 24 = .ok (.iaload, 1) := by decide +kernel
theorem dX3_weigh_25 : decode cX3_weigh 25 = .ok (.ifCond .le 7, 3) := by decide +kernel
theorem dX3_weigh_28 : decode cX3_weigh 28 = .ok (.iconst 0, 1) := by decide +kernel
theorem dX3_weigh_29 : decode cX3_weigh 29 = .ok (.goto 5, 3) := by decide +kernel
theorem dX3_weigh_32 : decode cX3_weigh 32 = .ok (.ldc 84, 2) := by decide +kernel
theorem dX3_weigh_34 : decode cX3_weigh 34 = .ok (.iastore, 1) := by decide +kernel
theorem dX3_weigh_35 : decode cX3_weigh 35 = .ok (.aload_n 0, 1) := by decide +kernel
theorem dX3_weigh_36 : decode cX3_weigh 36 = .ok (.getfield 36, 3) := by decide +kernel
theorem dX3_weigh_39 : decode cX3_weigh 39 = .ok (.iload_n 1, 1) := by decide +kernel
theorem dX3_weigh_40 : decode cX3_weigh 40 = .ok (.iconst (-1), 1) := by decide +kernel
theorem dX3_weigh_41 : decode cX3_weigh 41 = .ok (.iastore, 1) := by decide +kernel
theorem dX3_weigh_42 : decode cX3_weigh 42 = .ok (.iinc 1 1, 3) := by decide +kernel
theorem dX3_weigh_45 : decode cX3_weigh 45 = .ok (.goto (-39), 3) := by decide +kernel
theorem dX3_weigh_48 : decode cX3_weigh 48 = .ok (.aload_n 0, 1) := by decide +kernel
theorem dX3_weigh_49 : decode cX3_weigh 49 = .ok (.invokevirtual 100, 3) := by decide +kernel
theorem dX3_weigh_52 : decode cX3_weigh 52 = .ok (.iconst 0, 1) := by decide +kernel
theorem dX3_weigh_53 : decode cX3_weigh 53 = .ok (.istore_n 1, 1) := by decide +kernel
theorem dX3_weigh_54 : decode cX3_weigh 54 = .ok (.iload_n 1, 1) := by decide +kernel
theorem dX3_weigh_55 : decode cX3_weigh 55 = .ok (.aload_n 0, 1) := by decide +kernel
theorem dX3_weigh_56 : decode cX3_weigh 56 = .ok (.getfield 52, 3) := by decide +kernel
theorem dX3_weigh_59 : decode cX3_weigh 59 = .ok (.if_icmp .ge 26, 3) := by decide +kernel
theorem dX3_weigh_62 : decode cX3_weigh 62 = .ok (.aload_n 0, 1) := by decide +kernel
theorem dX3_weigh_63 : decode cX3_weigh 63 = .ok (.getfield 39, 3) := by decide +kernel
theorem dX3_weigh_66 : decode cX3_weigh 66 = .ok (.iload_n 1, 1) := by decide +kernel
theorem dX3_weigh_67 : decode cX3_weigh 67 = .ok (.iconst 0, 1) := by decide +kernel
theorem dX3_weigh_68 : decode cX3_weigh 68 = .ok (.aload_n 0, 1) := by decide +kernel
theorem dX3_weigh_69 : decode cX3_weigh 69 = .ok (.getfield 33, 3) := by decide +kernel
theorem dX3_weigh_72 : decode cX3_weigh 72 = .ok (.iload_n 1, 1) := by decide +kernel
theorem dX3_weigh_73 : decode cX3_weigh 73 = .ok (.iaload, 1) := by decide +kernel
theorem dX3_weigh_74 : decode cX3_weigh 74 = .ok (.ineg, 1) := by decide +kernel
theorem dX3_weigh_75 : decode cX3_weigh 75 = .ok (.invokestatic 127, 3) := by decide +kernel
theorem dX3_weigh_78 : decode cX3_weigh 78 = .ok (.iastore, 1) := by decide +kernel
theorem dX3_weigh_79 : decode cX3_weigh 79 = .ok (.iinc 1 1, 3) := by decide +kernel
theorem dX3_weigh_82 : decode cX3_weigh 82 = .ok (.goto (-28), 3) := by decide +kernel
theorem dX3_weigh_85 : decode cX3_weigh 85 = .ok (.return_, 1) := by decide +kernel
theorem dX3_lineOf_0 : decode cX3_lineOf 0 = .ok (.ldc 84, 2) := by decide +kernel
theorem dX3_lineOf_2 : decode cX3_lineOf 2 = .ok (.istore_n 2, 1) := by decide +kernel
theorem dX3_lineOf_3 : decode cX3_lineOf 3 = .ok (.iconst 0, 1) := by decide +kernel
theorem dX3_lineOf_4 : decode cX3_lineOf 4 = .ok (.istore_n 3, 1) := by decide +kernel
theorem dX3_lineOf_5 : decode cX3_lineOf 5 = .ok (.iconst 0, 1) := by decide +kernel
theorem dX3_lineOf_6 : decode cX3_lineOf 6 = .ok (.istore 4, 2) := by decide +kernel
theorem dX3_lineOf_8 : decode cX3_lineOf 8 = .ok (.iload 4, 2) := by decide +kernel
theorem dX3_lineOf_10 : decode cX3_lineOf 10 = .ok (.aload_n 0, 1) := by decide +kernel
theorem dX3_lineOf_11 : decode cX3_lineOf 11 = .ok (.getfield 52, 3) := by decide +kernel
theorem dX3_lineOf_14 : decode cX3_lineOf 14 = .ok (.if_icmp .ge 75, 3) := by decide +kernel
theorem dX3_lineOf_17 : decode cX3_lineOf 17 = .ok (.aload_n 0, 1) := by decide +kernel
theorem dX3_lineOf_18 : decode cX3_lineOf 18 = .ok (.getfield 9, 3) := by decide +kernel
theorem dX3_lineOf_21 : decode cX3_lineOf 21 = .ok (.iload_n 1, 1) := by decide +kernel
theorem dX3_lineOf_22 : decode cX3_lineOf 22 = .ok (.iconst 5, 1) := by decide +kernel
theorem dX3_lineOf_23 : decode cX3_lineOf 23 = .ok (.imul, 1) := by decide +kernel
theorem dX3_lineOf_24 : decode cX3_lineOf 24 = .ok (.iload 4, 2) := by decide +kernel
theorem dX3_lineOf_26 : decode cX3_lineOf 26 = .ok (.iadd, 1) := by decide +kernel
theorem dX3_lineOf_27 : decode cX3_lineOf 27 = .ok (.iaload, 1) := by decide +kernel
theorem dX3_lineOf_28 : decode cX3_lineOf 28 = .ok (.aload_n 0, 1) := by decide +kernel
theorem dX3_lineOf_29 : decode cX3_lineOf 29 = .ok (.getfield 39, 3) := by decide +kernel
theorem dX3_lineOf_32 : decode cX3_lineOf 32 = .ok (.iload 4, 2) := by decide +kernel
theorem dX3_lineOf_34 : decode cX3_lineOf 34 = .ok (.iaload, 1) := by decide +kernel
theorem dX3_lineOf_35 : decode cX3_lineOf 35 = .ok (.iadd, 1) := by decide +kernel
theorem dX3_lineOf_36 : decode cX3_lineOf 36 = .ok (.istore 5, 2) := by decide +kernel
theorem dX3_lineOf_38 : decode cX3_lineOf 38 = .ok (.aload_n 0, 1) := by decide +kernel
theorem dX3_lineOf_39 : decode cX3_lineOf 39 = .ok (.getfield 9, 3) := by decide +kernel
theorem dX3_lineOf_42 : decode cX3_lineOf 42 = .ok (.iload_n 1, 1) := by decide +kernel
theorem dX3_lineOf_43 : decode cX3_lineOf 43 = .ok (.iconst 5, 1) := by decide +kernel
theorem dX3_lineOf_44 : decode cX3_lineOf 44 = .ok (.imul, 1) := by decide +kernel
theorem dX3_lineOf_45 : decode cX3_lineOf 45 = .ok (.iload 4, 2) := by decide +kernel
theorem dX3_lineOf_47 : decode cX3_lineOf 47 = .ok (.iadd, 1) := by decide +kernel
theorem dX3_lineOf_48 : decode cX3_lineOf 48 = .ok (.iaload, 1) := by decide +kernel
theorem dX3_lineOf_49 : decode cX3_lineOf 49 = .ok (.ldc 84, 2) := by decide +kernel
theorem dX3_lineOf_51 : decode cX3_lineOf 51 = .ok (.if_icmp .ge 32, 3) := by decide +kernel
theorem dX3_lineOf_54 : decode cX3_lineOf 54 = .ok (.iload 5, 2) := by decide +kernel
theorem dX3_lineOf_56 : decode cX3_lineOf 56 = .ok (.iload_n 2, 1) := by decide +kernel
theorem dX3_lineOf_57 : decode cX3_lineOf 57 = .ok (.if_icmp .gt 26, 3) := by decide +kernel
theorem dX3_lineOf_60 : decode cX3_lineOf 60 = .ok (.iload 5, 2) := by decide +kernel
theorem dX3_lineOf_62 : decode cX3_lineOf 62 = .ok (.iload_n 2, 1) := by decide +kernel
theorem dX3_lineOf_63 : decode cX3_lineOf 63 = .ok (.if_icmp .ge 10, 3) := by decide +kernel
theorem dX3_lineOf_66 : decode cX3_lineOf 66 = .ok (.iconst 1, 1) := by decide +kernel
theorem dX3_lineOf_67 : decode cX3_lineOf 67 = .ok (.iload 4, 2) := by decide +kernel
theorem dX3_lineOf_69 : decode cX3_lineOf 69 = .ok (.ishl, 1) := by decide +kernel
theorem dX3_lineOf_70 : decode cX3_lineOf 70 = .ok (.goto 9, 3) := by decide +kernel
theorem dX3_lineOf_73 : decode cX3_lineOf 73 = .ok (.iload_n 3, 1) := by decide +kernel
theorem dX3_lineOf_74 : decode cX3_lineOf 74 = .ok (.iconst 1, 1) := by decide +kernel
theorem dX3_lineOf_75 : decode cX3_lineOf 75 = .ok (.iload 4, 2) := by decide +kernel
theorem dX3_lineOf_77 : decode cX3_lineOf 77 = .ok (.ishl, 1) := by decide +kernel
theorem dX3_lineOf_78 : decode cX3_lineOf 78 = .ok (.ior, 1) := by decide +kernel
theorem dX3_lineOf_79 : decode cX3_lineOf 79 = .ok (.istore_n 3, 1) := by decide +kernel
theorem dX3_lineOf_80 : decode cX3_lineOf 80 = .ok (.iload 5, 2) := by decide +kernel
theorem dX3_lineOf_82 : decode cX3_lineOf 82 = .ok (.istore_n 2, 1) := by decide +kernel
theorem dX3_lineOf_83 : decode cX3_lineOf 83 = .ok (.iinc 4 1, 3) := by decide +kernel
theorem dX3_lineOf_86 : decode cX3_lineOf 86 = .ok (.goto (-78), 3) := by decide +kernel
theorem dX3_lineOf_89 : decode cX3_lineOf 89 = .ok (.iload_n 3, 1) := by decide +kernel
theorem dX3_lineOf_90 : decode cX3_lineOf 90 = .ok (.ireturn, 1) := by decide +kernel
theorem dX3_longest_0 : decode cX3_longest 0 = .ok (.iconst 0, 1) := by decide +kernel
theorem dX3_longest_1 : decode cX3_longest 1 = .ok (.istore_n 1, 1) := by decide +kernel
theorem dX3_longest_2 : decode cX3_longest 2 = .ok (.iconst 0, 1) := by decide +kernel
theorem dX3_longest_3 : decode cX3_longest 3 = .ok (.istore_n 2, 1) := by decide +kernel
theorem dX3_longest_4 : decode cX3_longest 4 = .ok (.iload_n 2, 1) := by decide +kernel
theorem dX3_longest_5 : decode cX3_longest 5 = .ok (.aload_n 0, 1) := by decide +kernel
theorem dX3_longest_6 : decode cX3_longest 6 = .ok (.getfield 15, 3) := by decide +kernel
theorem dX3_longest_9 : decode cX3_longest 9 = .ok (.arraylength, 1) := by decide +kernel
theorem dX3_longest_10 : decode cX3_longest 10 = .ok (.if_icmp .ge 29, 3) := by decide +kernel
theorem dX3_longest_13 : decode cX3_longest 13 = .ok (.aload_n 0, 1) := by decide +kernel
theorem dX3_longest_14 : decode cX3_longest 14 = .ok (.getfield 15, 3) := by decide +kernel
theorem dX3_longest_17 : decode cX3_longest 17 = .ok (.iload_n 2, 1) := by decide +kernel
theorem dX3_longest_18 : decode cX3_longest 18 = .ok (.iaload, 1) := by decide +kernel
theorem dX3_longest_19 : decode cX3_longest 19 = .ok (.ifCond .le 14, 3) := by decide +kernel
theorem dX3_longest_22 : decode cX3_longest 22 = .ok (.iload_n 1, 1) := by decide +kernel
theorem dX3_longest_23 : decode cX3_longest 23 = .ok (.aload_n 0, 1) := by decide +kernel
theorem dX3_longest_24 : decode cX3_longest 24 = .ok (.getfield 9, 3) := by decide +kernel
theorem dX3_longest_27 : decode cX3_longest 27 = .ok (.iload_n 2, 1) := by decide +kernel
theorem dX3_longest_28 : decode cX3_longest 28 = .ok (.iaload, 1) := by decide +kernel
theorem dX3_longest_29 : decode cX3_longest 29 = .ok (.invokestatic 127, 3) := by decide +kernel
theorem dX3_longest_32 : decode cX3_longest 32 = .ok (.istore_n 1, 1) := by decide +kernel
theorem dX3_longest_33 : decode cX3_longest 33 = .ok (.iinc 2 1, 3) := by decide +kernel
theorem dX3_longest_36 : decode cX3_longest 36 = .ok (.goto (-32), 3) := by decide +kernel
theorem dX3_longest_39 : decode cX3_longest 39 = .ok (.iload_n 1, 1) := by decide +kernel
theorem dX3_longest_40 : decode cX3_longest 40 = .ok (.ireturn, 1) := by decide +kernel
theorem dX4_init_0 : decode cX4_init 0 = .ok (.aload_n 0, 1) := by decide +kernel
theorem dX4_init_1 : decode cX4_init 1 = .ok (.invokespecial 3, 3) := by decide +kernel
theorem dX4_init_4 : decode cX4_init 4 = .ok (.aload_n 0, 1) := by decide +kernel
theorem dX4_init_5 : decode cX4_init 5 = .ok (.bipush 80, 2) := by decide +kernel
theorem dX4_init_7 : decode cX4_init 7 = .ok (.newarray .int, 2) := by decide +kernel
theorem dX4_init_9 : decode cX4_init 9 = .ok (.putfield 9, 3) := by decide +kernel
theorem dX4_init_12 : decode cX4_init 12 = .ok (.return_, 1) := by decide +kernel
theorem dX4_renew_0 : decode cX4_renew 0 = .ok (.iconst 0, 1) := by decide +kernel
theorem dX4_renew_1 : decode cX4_renew 1 = .ok (.istore_n 3, 1) := by decide +kernel
theorem dX4_renew_2 : decode cX4_renew 2 = .ok (.iload_n 3, 1) := by decide +kernel
theorem dX4_renew_3 : decode cX4_renew 3 = .ok (.aload_n 0, 1) := by decide +kernel
theorem dX4_renew_4 : decode cX4_renew 4 = .ok (.getfield 9, 3) := by decide +kernel
theorem dX4_renew_7 : decode cX4_renew 7 = .ok (.arraylength, 1) := by decide +kernel
theorem dX4_renew_8 : decode cX4_renew 8 = .ok (.if_icmp .ge 16, 3) := by decide +kernel
theorem dX4_renew_11 : decode cX4_renew 11 = .ok (.aload_n 0, 1) := by decide +kernel
theorem dX4_renew_12 : decode cX4_renew 12 = .ok (.getfield 9, 3) := by decide +kernel
theorem dX4_renew_15 : decode cX4_renew 15 = .ok (.iload_n 3, 1) := by decide +kernel
theorem dX4_renew_16 : decode cX4_renew 16 = .ok (.iconst 0, 1) := by decide +kernel
theorem dX4_renew_17 : decode cX4_renew 17 = .ok (.iastore, 1) := by decide +kernel
theorem dX4_renew_18 : decode cX4_renew 18 = .ok (.iinc 3 1, 3) := by decide +kernel
theorem dX4_renew_21 : decode cX4_renew 21 = .ok (.goto (-19), 3) := by decide +kernel
theorem dX4_renew_24 : decode cX4_renew 24 = .ok (.aload_n 0, 1) := by decide +kernel
theorem dX4_renew_25 : decode cX4_renew 25 = .ok (.iconst 1, 1) := by decide +kernel
theorem dX4_renew_26 : decode cX4_renew 26 = .ok (.putfield 15, 3) := by decide +kernel
theorem dX4_renew_29 : decode cX4_renew 29 = .ok (.aload_n 0, 1) := by decide +kernel
theorem dX4_renew_30 : decode cX4_renew 30 = .ok (.iload_n 1, 1) := by decide +kernel
theorem dX4_renew_31 : decode cX4_renew 31 = .ok (.putfield 19, 3) := by decide +kernel
theorem dX4_renew_34 : decode cX4_renew 34 = .ok (.aload_n 0, 1) := by decide +kernel
theorem dX4_renew_35 : decode cX4_renew 35 = .ok (.iload_n 2, 1) := by decide +kernel
theorem dX4_renew_36 : decode cX4_renew 36 = .ok (.putfield 23, 3) := by decide +kernel
theorem dX4_renew_39 : decode cX4_renew 39 = .ok (.return_, 1) := by decide +kernel
theorem dX4_hasCell_0 : decode cX4_hasCell 0 = .ok (.iload_n 1, 1) := by decide +kernel
theorem dX4_hasCell_1 : decode cX4_hasCell 1 = .ok (.ifCond .lt 15, 3) := by decide +kernel
theorem dX4_hasCell_4 : decode cX4_hasCell 4 = .ok (.iload_n 1, 1) := by decide +kernel
theorem dX4_hasCell_5 : decode cX4_hasCell 5 = .ok (.aload_n 0, 1) := by decide +kernel
theorem dX4_hasCell_6 : decode cX4_hasCell 6 = .ok (.getfield 23, 3) := by decide +kernel
theorem dX4_hasCell_9 : decode cX4_hasCell 9 = .ok (.if_icmp .ge 7, 3) := by decide +kernel
theorem dX4_hasCell_12 : decode cX4_hasCell 12 = .ok (.iconst 1, 1) := by decide +kernel
theorem dX4_hasCell_13 : decode cX4_hasCell 13 = .ok (.goto 4, 3) := by decide +kernel
theorem dX4_hasCell_16 : decode cX4_hasCell 16 = .ok (.iconst 0, 1) := by decide +kernel
theorem dX4_hasCell_17 : decode cX4_hasCell 17 = .ok (.ireturn, 1) := by decide +kernel
theorem dX4_hasCells_0 : decode cX4_hasCells 0 = .ok (.iload_n 1, 1) := by decide +kernel
theorem dX4_hasCells_1 : decode cX4_hasCells 1 = .ok (.ifCond .lt 25, 3) := by decide +kernel
theorem dX4_hasCells_4 : decode cX4_hasCells 4 = .ok (.iload_n 1, 1) := by decide +kernel
theorem dX4_hasCells_5 : decode cX4_hasCells 5 = .ok (.aload_n 0, 1) := by decide +kernel
theorem dX4_hasCells_6 : decode cX4_hasCells 6 = .ok (.getfield 23, 3) := by decide +kernel
theorem dX4_hasCells_9 : decode cX4_hasCells 9 = .ok (.if_icmp .gt 17, 3) := by decide +kernel
theorem dX4_hasCells_12 : decode cX4_hasCells 12 = .ok (.iload_n 2, 1) := by decide +kernel
theorem dX4_hasCells_13 : decode cX4_hasCells 13 = .ok (.aload_n 0, 1) := by decide +kernel
theorem dX4_hasCells_14 : decode cX4_hasCells 14 = .ok (.getfield 23, 3) := by decide +kernel
theorem dX4_hasCells_17 : decode cX4_hasCells 17 = .ok (.iload_n 1, 1) := by decide +kernel
theorem dX4_hasCells_18 : decode cX4_hasCells 18 = .ok (.isub, 1) := by decide +kernel
theorem dX4_hasCells_19 : decode cX4_hasCells 19 = .ok (.if_icmp .gt 7, 3) := by decide +kernel
theorem dX4_hasCells_22 : decode cX4_hasCells 22 = .ok (.iconst 1, 1) := by decide +kernel
theorem dX4_hasCells_23 : decode cX4_hasCells 23 = .ok (.goto 4, 3) := by decide +kernel
theorem dX4_hasCells_26 : decode cX4_hasCells 26 = .ok (.iconst 0, 1) := by decide +kernel
theorem dX4_hasCells_27 : decode cX4_hasCells 27 = .ok (.ireturn, 1) := by decide +kernel
theorem dX4_setCell_0 : decode cX4_setCell 0 = .ok (.aload_n 0, 1) := by decide +kernel
theorem dX4_setCell_1 : decode cX4_setCell 1 = .ok (.getfield 19, 3) := by decide +kernel
theorem dX4_setCell_4 : decode cX4_setCell 4 = .ok (.lookupswitch 50 #[(0, 28), (1, 39)], 28) := by decide +kernel
theorem dX4_setCell_32 : decode cX4_setCell 32 = .ok (.aload_n 0, 1) := by decide +kernel
theorem dX4_setCell_33 : decode cX4_setCell 33 = .ok (.getfield 9, 3) := by decide +kernel
theorem dX4_setCell_36 : decode cX4_setCell 36 = .ok (.iload_n 1, 1) := by decide +kernel
theorem dX4_setCell_37 : decode cX4_setCell 37 = .ok (.iload_n 2, 1) := by decide +kernel
theorem dX4_setCell_38 : decode cX4_setCell 38 = .ok (.i2b, 1) := by decide +kernel
theorem dX4_setCell_39 : decode cX4_setCell 39 = .ok (.iastore, 1) := by decide +kernel
theorem dX4_setCell_40 : decode cX4_setCell 40 = .ok (.goto 21, 3) := by decide +kernel
theorem dX4_setCell_43 : decode cX4_setCell 43 = .ok (.aload_n 0, 1) := by decide +kernel
theorem dX4_setCell_44 : decode cX4_setCell 44 = .ok (.getfield 9, 3) := by decide +kernel
theorem dX4_setCell_47 : decode cX4_setCell 47 = .ok (.iload_n 1, 1) := by decide +kernel
theorem dX4_setCell_48 : decode cX4_setCell 48 = .ok (.iload_n 2, 1) := by decide +kernel
theorem dX4_setCell_49 : decode cX4_setCell 49 = .ok (.i2s, 1) := by decide +kernel
theorem dX4_setCell_50 : decode cX4_setCell 50 = .ok (.iastore, 1) := by decide +kernel
theorem dX4_setCell_51 : decode cX4_setCell 51 = .ok (.goto 10, 3) := by decide +kernel
theorem dX4_setCell_54 : decode cX4_setCell 54 = .ok (.aload_n 0, 1) := by decide +kernel
theorem dX4_setCell_55 : decode cX4_setCell 55 = .ok (.getfield 9, 3) := by decide +kernel
theorem dX4_setCell_58 : decode cX4_setCell 58 = .ok (.iload_n 1, 1) := by decide +kernel
theorem dX4_setCell_59 : decode cX4_setCell 59 = .ok (.iload_n 2, 1) := by decide +kernel
theorem dX4_setCell_60 : decode cX4_setCell 60 = .ok (.iastore, 1) := by decide +kernel
theorem dX4_setCell_61 : decode cX4_setCell 61 = .ok (.return_, 1) := by decide +kernel
theorem dX5_init_0 : decode cX5_init 0 = .ok (.aload_n 0, 1) := by decide +kernel
theorem dX5_init_1 : decode cX5_init 1 = .ok (.invokespecial 3, 3) := by decide +kernel
theorem dX5_init_4 : decode cX5_init 4 = .ok (.return_, 1) := by decide +kernel
theorem dX5_tellOf_0 : decode cX5_tellOf 0 = .ok (.iload_n 1, 1) := by decide +kernel
theorem dX5_tellOf_1 : decode cX5_tellOf 1 = .ok (.lookupswitch 39 #[(0, 27), (1, 33)], 27) := by decide +kernel
theorem dX5_tellOf_28 : decode cX5_tellOf 28 = .ok (.aload_n 0, 1) := by decide +kernel
theorem dX5_tellOf_29 : decode cX5_tellOf 29 = .ok (.iload_n 2, 1) := by decide +kernel
theorem dX5_tellOf_30 : decode cX5_tellOf 30 = .ok (.invokevirtual 9, 3) := by decide +kernel
theorem dX5_tellOf_33 : decode cX5_tellOf 33 = .ok (.ireturn, 1) := by decide +kernel
theorem dX5_tellOf_34 : decode cX5_tellOf 34 = .ok (.aload_n 0, 1) := by decide +kernel
theorem dX5_tellOf_35 : decode cX5_tellOf 35 = .ok (.iload_n 2, 1) := by decide +kernel
theorem dX5_tellOf_36 : decode cX5_tellOf 36 = .ok (.invokevirtual 15, 3) := by decide +kernel
theorem dX5_tellOf_39 : decode cX5_tellOf 39 = .ok (.ireturn, 1) := by decide +kernel
theorem dX5_tellOf_40 : decode cX5_tellOf 40 = .ok (.aload_n 0, 1) := by decide +kernel
theorem dX5_tellOf_41 : decode cX5_tellOf 41 = .ok (.iload_n 2, 1) := by decide +kernel
theorem dX5_tellOf_42 : decode cX5_tellOf 42 = .ok (.invokevirtual 18, 3) := by decide +kernel
theorem dX5_tellOf_45 : decode cX5_tellOf 45 = .ok (.ireturn, 1) := by decide +kernel
theorem dX5_ringOf_0 : decode cX5_ringOf 0 = .ok (.aload_n 0, 1) := by decide +kernel
theorem dX5_ringOf_1 : decode cX5_ringOf 1 = .ok (.iload_n 1, 1) := by decide +kernel
theorem dX5_ringOf_2 : decode cX5_ringOf 2 = .ok (.iconst 2, 1) := by decide +kernel
theorem dX5_ringOf_3 : decode cX5_ringOf 3 = .ok (.if_icmp .ne 7, 3) := by decide +kernel
theorem dX5_ringOf_6 : decode cX5_ringOf 6 = .ok (.iconst 5, 1) := by decide +kernel
theorem dX5_ringOf_7 : decode cX5_ringOf 7 = .ok (.goto 4, 3) := by decide +kernel
theorem dX5_ringOf_10 : decode cX5_ringOf 10 = .ok (.iconst 4, 1) := by decide +kernel
theorem dX5_ringOf_11 : decode cX5_ringOf 11 = .ok (.invokevirtual 21, 3) := by decide +kernel
theorem dX5_ringOf_14 : decode cX5_ringOf 14 = .ok (.iload_n 1, 1) := by decide +kernel
theorem dX5_ringOf_15 : decode cX5_ringOf 15 = .ok (.iconst 2, 1) := by decide +kernel
theorem dX5_ringOf_16 : decode cX5_ringOf 16 = .ok (.if_icmp .ne 8, 3) := by decide +kernel
theorem dX5_ringOf_19 : decode cX5_ringOf 19 = .ok (.bipush 44, 2) := by decide +kernel
theorem dX5_ringOf_21 : decode cX5_ringOf 21 = .ok (.goto 4, 3) := by decide +kernel
theorem dX5_ringOf_24 : decode cX5_ringOf 24 = .ok (.iload_n 2, 1) := by decide +kernel
theorem dX5_ringOf_25 : decode cX5_ringOf 25 = .ok (.ireturn, 1) := by decide +kernel
theorem dX5_squareTells_0 : decode cX5_squareTells 0 = .ok (.aload_n 0, 1) := by decide +kernel
theorem dX5_squareTells_1 : decode cX5_squareTells 1 = .ok (.iconst 1, 1) := by decide +kernel
theorem dX5_squareTells_2 : decode cX5_squareTells 2 = .ok (.invokevirtual 21, 3) := by decide +kernel
theorem dX5_squareTells_5 : decode cX5_squareTells 5 = .ok (.iload_n 1, 1) := by decide +kernel
theorem dX5_squareTells_6 : decode cX5_squareTells 6 = .ok (.ireturn, 1) := by decide +kernel
theorem dX5_stepsTells_0 : decode cX5_stepsTells 0 = .ok (.aload_n 0, 1) := by decide +kernel
theorem dX5_stepsTells_1 : decode cX5_stepsTells 1 = .ok (.iconst 2, 1) := by decide +kernel
theorem dX5_stepsTells_2 : decode cX5_stepsTells 2 = .ok (.invokevirtual 21, 3) := by decide +kernel
theorem dX5_stepsTells_5 : decode cX5_stepsTells 5 = .ok (.aload_n 0, 1) := by decide +kernel
theorem dX5_stepsTells_6 : decode cX5_stepsTells 6 = .ok (.iload_n 1, 1) := by decide +kernel
theorem dX5_stepsTells_7 : decode cX5_stepsTells 7 = .ok (.invokevirtual 9, 3) := by decide +kernel
theorem dX5_stepsTells_10 : decode cX5_stepsTells 10 = .ok (.bipush 100, 2) := by decide +kernel
theorem dX5_stepsTells_12 : decode cX5_stepsTells 12 = .ok (.iadd, 1) := by decide +kernel
theorem dX5_stepsTells_13 : decode cX5_stepsTells 13 = .ok (.ireturn, 1) := by decide +kernel
theorem dX5_ferryTells_0 : decode cX5_ferryTells 0 = .ok (.aload_n 0, 1) := by decide +kernel
theorem dX5_ferryTells_1 : decode cX5_ferryTells 1 = .ok (.iconst 3, 1) := by decide +kernel
theorem dX5_ferryTells_2 : decode cX5_ferryTells 2 = .ok (.invokevirtual 21, 3) := by decide +kernel
theorem dX5_ferryTells_5 : decode cX5_ferryTells 5 = .ok (.aload_n 0, 1) := by decide +kernel
theorem dX5_ferryTells_6 : decode cX5_ferryTells 6 = .ok (.iload_n 1, 1) := by decide +kernel
theorem dX5_ferryTells_7 : decode cX5_ferryTells 7 = .ok (.invokevirtual 15, 3) := by decide +kernel
theorem dX5_ferryTells_10 : decode cX5_ferryTells 10 = .ok (.aload_n 0, 1) := by decide +kernel
theorem dX5_ferryTells_11 : decode cX5_ferryTells 11 = .ok (.iload_n 1, 1) := by decide +kernel
theorem dX5_ferryTells_12 : decode cX5_ferryTells 12 = .ok (.invokevirtual 9, 3) := by decide +kernel
theorem dX5_ferryTells_15 : decode cX5_ferryTells 15 = .ok (.iadd, 1) := by decide +kernel
theorem dX5_ferryTells_16 : decode cX5_ferryTells 16 = .ok (.ireturn, 1) := by decide +kernel
theorem dX5_leave_0 : decode cX5_leave 0 = .ok (.aload_n 0, 1) := by decide +kernel
theorem dX5_leave_1 : decode cX5_leave 1 = .ok (.bipush 31, 2) := by decide +kernel
theorem dX5_leave_3 : decode cX5_leave 3 = .ok (.aload_n 0, 1) := by decide +kernel
theorem dX5_leave_4 : decode cX5_leave 4 = .ok (.getfield 25, 3) := by decide +kernel
theorem dX5_leave_7 : decode cX5_leave 7 = .ok (.imul, 1) := by decide +kernel
theorem dX5_leave_8 : decode cX5_leave 8 = .ok (.iload_n 1, 1) := by decide +kernel
theorem dX5_leave_9 : decode cX5_leave 9 = .ok (.iadd, 1) := by decide +kernel
theorem dX5_leave_10 : decode cX5_leave 10 = .ok (.putfield 25, 3) := by decide +kernel
theorem dX5_leave_13 : decode cX5_leave 13 = .ok (.return_, 1) := by decide +kernel
