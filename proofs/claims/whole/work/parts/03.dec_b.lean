theorem dX6_init_0 : decode cX6_init 0 = .ok (.aload_n 0, 1) := by decide +kernel
theorem dX6_init_1 : decode cX6_init 1 = .ok (.invokespecial 3, 3) := by decide +kernel
theorem dX6_init_4 : decode cX6_init 4 = .ok (.aload_n 0, 1) := by decide +kernel
theorem dX6_init_5 : decode cX6_init 5 = .ok (.new 9, 3) := by decide +kernel
theorem dX6_init_8 : decode cX6_init 8 = .ok (.dup, 1) := by decide +kernel
theorem dX6_init_9 : decode cX6_init 9 = .ok (.invokespecial 11, 3) := by decide +kernel
theorem dX6_init_12 : decode cX6_init 12 = .ok (.putfield 12, 3) := by decide +kernel
theorem dX6_init_15 : decode cX6_init 15 = .ok (.aload_n 0, 1) := by decide +kernel
theorem dX6_init_16 : decode cX6_init 16 = .ok (.new 18, 3) := by decide +kernel
theorem dX6_init_19 : decode cX6_init 19 = .ok (.dup, 1) := by decide +kernel
theorem dX6_init_20 : decode cX6_init 20 = .ok (.invokespecial 20, 3) := by decide +kernel
theorem dX6_init_23 : decode cX6_init 23 = .ok (.putfield 21, 3) := by decide +kernel
theorem dX6_init_26 : decode cX6_init 26 = .ok (.aload_n 0, 1) := by decide +kernel
theorem dX6_init_27 : decode cX6_init 27 = .ok (.new 25, 3) := by decide +kernel
theorem dX6_init_30 : decode cX6_init 30 = .ok (.dup, 1) := by decide +kernel
theorem dX6_init_31 : decode cX6_init 31 = .ok (.invokespecial 27, 3) := by decide +kernel
theorem dX6_init_34 : decode cX6_init 34 = .ok (.putfield 28, 3) := by decide +kernel
theorem dX6_init_37 : decode cX6_init 37 = .ok (.aload_n 0, 1) := by decide +kernel
theorem dX6_init_38 : decode cX6_init 38 = .ok (.new 25, 3) := by decide +kernel
theorem dX6_init_41 : decode cX6_init 41 = .ok (.dup, 1) := by decide +kernel
theorem dX6_init_42 : decode cX6_init 42 = .ok (.invokespecial 27, 3) := by decide +kernel
theorem dX6_init_45 : decode cX6_init 45 = .ok (.putfield 32, 3) := by decide +kernel
theorem dX6_init_48 : decode cX6_init 48 = .ok (.aload_n 0, 1) := by decide +kernel
theorem dX6_init_49 : decode cX6_init 49 = .ok (.new 35, 3) := by decide +kernel
theorem dX6_init_52 : decode cX6_init 52 = .ok (.dup, 1) := by decide +kernel
theorem dX6_init_53 : decode cX6_init 53 = .ok (.invokespecial 37, 3) := by decide +kernel
theorem dX6_init_56 : decode cX6_init 56 = .ok (.putfield 38, 3) := by decide +kernel
theorem dX6_init_59 : decode cX6_init 59 = .ok (.aload_n 0, 1) := by decide +kernel
theorem dX6_init_60 : decode cX6_init 60 = .ok (.new 42, 3) := by decide +kernel
theorem dX6_init_63 : decode cX6_init 63 = .ok (.dup, 1) := by decide +kernel
theorem dX6_init_64 : decode cX6_init 64 = .ok (.invokespecial 44, 3) := by decide +kernel
theorem dX6_init_67 : decode cX6_init 67 = .ok (.putfield 45, 3) := by decide +kernel
theorem dX6_init_70 : decode cX6_init 70 = .ok (.aload_n 0, 1) := by decide +kernel
theorem dX6_init_71 : decode cX6_init 71 = .ok (.iconst 4, 1) := by decide +kernel
theorem dX6_init_72 : decode cX6_init 72 = .ok (.anewarray 49, 3) := by decide +kernel
theorem dX6_init_75 : decode cX6_init 75 = .ok (.putfield 51, 3) := by decide +kernel
theorem dX6_init_78 : decode cX6_init 78 = .ok (.aload_n 0, 1) := by decide +kernel
theorem dX6_init_79 : decode cX6_init 79 = .ok (.bipush 8, 2) := by decide +kernel
theorem dX6_init_81 : decode cX6_init 81 = .ok (.newarray .int, 2) := by decide +kernel
theorem dX6_init_83 : decode cX6_init 83 = .ok (.putfield 55, 3) := by decide +kernel
theorem dX6_init_86 : decode cX6_init 86 = .ok (.aload_n 0, 1) := by decide +kernel
theorem dX6_init_87 : decode cX6_init 87 = .ok (.bipush 8, 2) := by decide +kernel
theorem dX6_init_89 : decode cX6_init 89 = .ok (.newarray .int, 2) := by decide +kernel
theorem dX6_init_91 : decode cX6_init 91 = .ok (.putfield 59, 3) := by decide +kernel
theorem dX6_init_94 : decode cX6_init 94 = .ok (.aload_n 0, 1) := by decide +kernel
theorem dX6_init_95 : decode cX6_init 95 = .ok (.iconst (-1), 1) := by decide +kernel
theorem dX6_init_96 : decode cX6_init 96 = .ok (.putfield 62, 3) := by decide +kernel
theorem dX6_init_99 : decode cX6_init 99 = .ok (.aload_n 0, 1) := by decide +kernel
theorem dX6_init_100 : decode cX6_init 100 = .ok (.iconst (-1), 1) := by decide +kernel
theorem dX6_init_101 : decode cX6_init 101 = .ok (.putfield 66, 3) := by decide +kernel
theorem dX6_init_104 : decode cX6_init 104 = .ok (.aload_n 0, 1) := by decide +kernel
theorem dX6_init_105 : decode cX6_init 105 = .ok (.iconst (-1), 1) := by decide +kernel
theorem dX6_init_106 : decode cX6_init 106 = .ok (.putfield 69, 3) := by decide +kernel
theorem dX6_init_109 : decode cX6_init 109 = .ok (.iconst 0, 1) := by decide +kernel
theorem dX6_init_110 : decode cX6_init 110 = .ok (.istore_n 1, 1) := by decide +kernel
theorem dX6_init_111 : decode cX6_init 111 = .ok (.iload_n 1, 1) := by decide +kernel
theorem dX6_init_112 : decode cX6_init 112 = .ok (.iconst 4, 1) := by decide +kernel
theorem dX6_init_113 : decode cX6_init 113 = .ok (.if_icmp .ge 22, 3) := by decide +kernel
theorem dX6_init_116 : decode cX6_init 116 = .ok (.aload_n 0, 1) := by decide +kernel
theorem dX6_init_117 : decode cX6_init 117 = .ok (.getfield 51, 3) := by decide +kernel
theorem dX6_init_120 : decode cX6_init 120 = .ok (.iload_n 1, 1) := by decide +kernel
theorem dX6_init_121 : decode cX6_init 121 = .ok (.new 49, 3) := by decide +kernel
theorem dX6_init_124 : decode cX6_init 124 = .ok (.dup, 1) := by decide +kernel
theorem dX6_init_125 : decode cX6_init 125 = .ok (.invokespecial 72, 3) := by decide +kernel
theorem dX6_init_128 : decode cX6_init 128 = .ok (.aastore, 1) := by decide +kernel
theorem dX6_init_129 : decode cX6_init 129 = .ok (.iinc 1 1, 3) := by decide +kernel
theorem dX6_init_132 : decode cX6_init 132 = .ok (.goto (-21), 3) := by decide +kernel
theorem dX6_init_135 : decode cX6_init 135 = .ok (.return_, 1) := by decide +kernel
theorem dX6_home_0 : decode cX6_home 0 = .ok (.iload_n 1, 1) := by decide +kernel
theorem dX6_home_1 : decode cX6_home 1 = .ok (.iload_n 2, 1) := by decide +kernel
theorem dX6_home_2 : decode cX6_home 2 = .ok (.invokestatic 73, 3) := by decide +kernel
theorem dX6_home_5 : decode cX6_home 5 = .ok (.ifCond .eq 12, 3) := by decide +kernel
theorem dX6_home_8 : decode cX6_home 8 = .ok (.iload_n 3, 1) := by decide +kernel
theorem dX6_home_9 : decode cX6_home 9 = .ok (.iconst 1, 1) := by decide +kernel
theorem dX6_home_10 : decode cX6_home 10 = .ok (.iconst 5, 1) := by decide +kernel
theorem dX6_home_11 : decode cX6_home 11 = .ok (.invokestatic 77, 3) := by decide +kernel
theorem dX6_home_14 : decode cX6_home 14 = .ok (.ifCond .ne 6, 3) := by decide +kernel
theorem dX6_home_17 : decode cX6_home 17 = .ok (.bipush (-2), 2) := by decide +kernel
theorem dX6_home_19 : decode cX6_home 19 = .ok (.ireturn, 1) := by decide +kernel
theorem dX6_home_20 : decode cX6_home 20 = .ok (.aload_n 0, 1) := by decide +kernel
theorem dX6_home_21 : decode cX6_home 21 = .ok (.getfield 12, 3) := by decide +kernel
theorem dX6_home_24 : decode cX6_home 24 = .ok (.getfield 81, 3) := by decide +kernel
theorem dX6_home_27 : decode cX6_home 27 = .ok (.bipush 10, 2) := by decide +kernel
theorem dX6_home_29 : decode cX6_home 29 = .ok (.if_icmp .lt 8, 3) := by decide +kernel
theorem dX6_home_32 : decode cX6_home 32 = .ok (.bipush (-4), 2) := by decide +kernel
theorem dX6_home_34 : decode cX6_home 34 = .ok (.goto 13, 3) := by decide +kernel
theorem dX6_home_37 : decode cX6_home 37 = .ok (.aload_n 0, 1) := by decide +kernel
theorem dX6_home_38 : decode cX6_home 38 = .ok (.getfield 12, 3) := by decide +kernel
theorem dX6_home_41 : decode cX6_home 41 = .ok (.iload_n 1, 1) := by decide +kernel
theorem dX6_home_42 : decode cX6_home 42 = .ok (.iload_n 2, 1) := by decide +kernel
theorem dX6_home_43 : decode cX6_home 43 = .ok (.iload_n 3, 1) := by decide +kernel
theorem dX6_home_44 : decode cX6_home 44 = .ok (.invokevirtual 84, 3) := by decide +kernel
theorem dX6_home_47 : decode cX6_home 47 = .ok (.ireturn, 1) := by decide +kernel
theorem dX6_church_0 : decode cX6_church 0 = .ok (.iload_n 1, 1) := by decide +kernel
theorem dX6_church_1 : decode cX6_church 1 = .ok (.iconst 0, 1) := by decide +kernel
theorem dX6_church_2 : decode cX6_church 2 = .ok (.iconst 2, 1) := by decide +kernel
theorem dX6_church_3 : decode cX6_church 3 = .ok (.invokestatic 77, 3) := by decide +kernel
theorem dX6_church_6 : decode cX6_church 6 = .ok (.ifCond .eq 22, 3) := by decide +kernel
theorem dX6_church_9 : decode cX6_church 9 = .ok (.iload_n 2, 1) := by decide +kernel
theorem dX6_church_10 : decode cX6_church 10 = .ok (.iload_n 3, 1) := by decide +kernel
theorem dX6_church_11 : decode cX6_church 11 = .ok (.invokestatic 73, 3) := by decide +kernel
theorem dX6_church_14 : decode cX6_church 14 = .ok (.ifCond .eq 14, 3) := by decide +kernel
theorem dX6_church_17 : decode cX6_church 17 = .ok (.iload 4, 2) := by decide +kernel
theorem dX6_church_19 : decode cX6_church 19 = .ok (.iconst 0, 1) := by decide +kernel
theorem dX6_church_20 : decode cX6_church 20 = .ok (.bipush 50, 2) := by decide +kernel
theorem dX6_church_22 : decode cX6_church 22 = .ok (.invokestatic 77, 3) := by decide +kernel
theorem dX6_church_25 : decode cX6_church 25 = .ok (.ifCond .ne 6, 3) := by decide +kernel
theorem dX6_church_28 : decode cX6_church 28 = .ok (.bipush (-2), 2) := by decide +kernel
theorem dX6_church_30 : decode cX6_church 30 = .ok (.ireturn, 1) := by decide +kernel
theorem dX6_church_31 : decode cX6_church 31 = .ok (.aload_n 0, 1) := by decide +kernel
theorem dX6_church_32 : decode cX6_church 32 = .ok (.getfield 12, 3) := by decide +kernel
theorem dX6_church_35 : decode cX6_church 35 = .ok (.getfield 88, 3) := by decide +kernel
theorem dX6_church_38 : decode cX6_church 38 = .ok (.iconst 5, 1) := by decide +kernel
theorem dX6_church_39 : decode cX6_church 39 = .ok (.if_icmp .lt 8, 3) := by decide +kernel
theorem dX6_church_42 : decode cX6_church 42 = .ok (.bipush (-4), 2) := by decide +kernel
theorem dX6_church_44 : decode cX6_church 44 = .ok (.goto 15, 3) := by decide +kernel
theorem dX6_church_47 : decode cX6_church 47 = .ok (.aload_n 0, 1) := by decide +kernel
theorem dX6_church_48 : decode cX6_church 48 = .ok (.getfield 12, 3) := by decide +kernel
theorem dX6_church_51 : decode cX6_church 51 = .ok (.iload_n 1, 1) := by decide +kernel
theorem dX6_church_52 : decode cX6_church 52 = .ok (.iload_n 2, 1) := by decide +kernel
theorem dX6_church_53 : decode cX6_church 53 = .ok (.iload_n 3, 1) := by decide +kernel
theorem dX6_church_54 : decode cX6_church 54 = .ok (.iload 4, 2) := by decide +kernel
theorem dX6_church_56 : decode cX6_church 56 = .ok (.invokevirtual 91, 3) := by decide +kernel
theorem dX6_church_59 : decode cX6_church 59 = .ok (.ireturn, 1) := by decide +kernel
theorem dX6_land_0 : decode cX6_land 0 = .ok (.aload_n 0, 1) := by decide +kernel
theorem dX6_land_1 : decode cX6_land 1 = .ok (.iload_n 1, 1) := by decide +kernel
theorem dX6_land_2 : decode cX6_land 2 = .ok (.iload_n 2, 1) := by decide +kernel
theorem dX6_land_3 : decode cX6_land 3 = .ok (.iload_n 3, 1) := by decide +kernel
theorem dX6_land_4 : decode cX6_land 4 = .ok (.iload 4, 2) := by decide +kernel
theorem dX6_land_6 : decode cX6_land 6 = .ok (.invokevirtual 95, 3) := by decide +kernel
theorem dX6_land_9 : decode cX6_land 9 = .ok (.istore 5, 2) := by decide +kernel
theorem dX6_land_11 : decode cX6_land 11 = .ok (.iload 5, 2) := by decide +kernel
theorem dX6_land_13 : decode cX6_land 13 = .ok (.ifCond .eq 6, 3) := by decide +kernel
theorem dX6_land_16 : decode cX6_land 16 = .ok (.iload 5, 2) := by decide +kernel
theorem dX6_land_18 : decode cX6_land 18 = .ok (.ireturn, 1) := by decide +kernel
theorem dX6_land_19 : decode cX6_land 19 = .ok (.aload_n 0, 1) := by decide +kernel
theorem dX6_land_20 : decode cX6_land 20 = .ok (.getfield 21, 3) := by decide +kernel
theorem dX6_land_23 : decode cX6_land 23 = .ok (.aload_n 0, 1) := by decide +kernel
theorem dX6_land_24 : decode cX6_land 24 = .ok (.getfield 51, 3) := by decide +kernel
theorem dX6_land_27 : decode cX6_land 27 = .ok (.iload_n 1, 1) := by decide +kernel
theorem dX6_land_28 : decode cX6_land 28 = .ok (.aaload, 1) := by decide +kernel
theorem dX6_land_29 : decode cX6_land 29 = .ok (.getfield 98, 3) := by decide +kernel
theorem dX6_land_32 : decode cX6_land 32 = .ok (.iload_n 3, 1) := by decide +kernel
theorem dX6_land_33 : decode cX6_land 33 = .ok (.iload 4, 2) := by decide +kernel
theorem dX6_land_35 : decode cX6_land 35 = .ok (.invokevirtual 101, 3) := by decide +kernel
theorem dX6_land_38 : decode cX6_land 38 = .ok (.istore 6, 2) := by decide +kernel
theorem dX6_land_40 : decode cX6_land 40 = .ok (.iload 6, 2) := by decide +kernel
theorem dX6_land_42 : decode cX6_land 42 = .ok (.ifCond .ge 14, 3) := by decide +kernel
theorem dX6_land_45 : decode cX6_land 45 = .ok (.bipush (-100), 2) := by decide +kernel
theorem dX6_land_47 : decode cX6_land 47 = .ok (.aload_n 0, 1) := by decide +kernel
theorem dX6_land_48 : decode cX6_land 48 = .ok (.getfield 21, 3) := by decide +kernel
theorem dX6_land_51 : decode cX6_land 51 = .ok (.getfield 105, 3) := by decide +kernel
theorem dX6_land_54 : decode cX6_land 54 = .ok (.isub, 1) := by decide +kernel
theorem dX6_land_55 : decode cX6_land 55 = .ok (.ireturn, 1) := by decide +kernel
theorem dX6_land_56 : decode cX6_land 56 = .ok (.aload_n 0, 1) := by decide +kernel
theorem dX6_land_57 : decode cX6_land 57 = .ok (.getfield 21, 3) := by decide +kernel
theorem dX6_land_60 : decode cX6_land 60 = .ok (.aload_n 0, 1) := by decide +kernel
theorem dX6_land_61 : decode cX6_land 61 = .ok (.getfield 12, 3) := by decide +kernel
theorem dX6_land_64 : decode cX6_land 64 = .ok (.iload 6, 2) := by decide +kernel
theorem dX6_land_66 : decode cX6_land 66 = .ok (.invokevirtual 108, 3) := by decide +kernel
theorem dX6_land_69 : decode cX6_land 69 = .ok (.iload 6, 2) := by decide +kernel
theorem dX6_land_71 : decode cX6_land 71 = .ok (.ireturn, 1) := by decide +kernel
theorem dX6_ofHome_0 : decode cX6_ofHome 0 = .ok (.aload_n 0, 1) := by decide +kernel
theorem dX6_ofHome_1 : decode cX6_ofHome 1 = .ok (.getfield 12, 3) := by decide +kernel
theorem dX6_ofHome_4 : decode cX6_ofHome 4 = .ok (.iload_n 1, 1) := by decide +kernel
theorem dX6_ofHome_5 : decode cX6_ofHome 5 = .ok (.invokevirtual 112, 3) := by decide +kernel
theorem dX6_ofHome_8 : decode cX6_ofHome 8 = .ok (.ifCond .ne 5, 3) := by decide +kernel
theorem dX6_ofHome_11 : decode cX6_ofHome 11 = .ok (.iconst (-1), 1) := by decide +kernel
theorem dX6_ofHome_12 : decode cX6_ofHome 12 = .ok (.ireturn, 1) := by decide +kernel
theorem dX6_ofHome_13 : decode cX6_ofHome 13 = .ok (.iload_n 2, 1) := by decide +kernel
theorem dX6_ofHome_14 : decode cX6_ofHome 14 = .ok (.tableswitch 56 0 2 #[26, 36, 46], 26) := by decide +kernel
theorem dX6_ofHome_40 : decode cX6_ofHome 40 = .ok (.aload_n 0, 1) := by decide +kernel
theorem dX6_ofHome_41 : decode cX6_ofHome 41 = .ok (.getfield 12, 3) := by decide +kernel
theorem dX6_ofHome_44 : decode cX6_ofHome 44 = .ok (.getfield 116, 3) := by decide +kernel
theorem dX6_ofHome_47 : decode cX6_ofHome 47 = .ok (.iload_n 1, 1) := by decide +kernel
theorem dX6_ofHome_48 : decode cX6_ofHome 48 = .ok (.iaload, 1) := by decide +kernel
theorem dX6_ofHome_49 : decode cX6_ofHome 49 = .ok (.ireturn, 1) := by decide +kernel
theorem dX6_ofHome_50 : decode cX6_ofHome 50 = .ok (.aload_n 0, 1) := by decide +kernel
theorem dX6_ofHome_51 : decode cX6_ofHome 51 = .ok (.getfield 12, 3) := by decide +kernel
theorem dX6_ofHome_54 : decode cX6_ofHome 54 = .ok (.getfield 119, 3) := by decide +kernel
theorem dX6_ofHome_57 : decode cX6_ofHome 57 = .ok (.iload_n 1, 1) := by decide +kernel
theorem dX6_ofHome_58 : decode cX6_ofHome 58 = .ok (.iaload, 1) := by decide +kernel
theorem dX6_ofHome_59 : decode cX6_ofHome 59 = .ok (.ireturn, 1) := by decide +kernel
theorem dX6_ofHome_60 : decode cX6_ofHome 60 = .ok (.aload_n 0, 1) := by decide +kernel
theorem dX6_ofHome_61 : decode cX6_ofHome 61 = .ok (.getfield 12, 3) := by decide +kernel
theorem dX6_ofHome_64 : decode cX6_ofHome 64 = .ok (.getfield 122, 3) := by decide +kernel
theorem dX6_ofHome_67 : decode cX6_ofHome 67 = .ok (.iload_n 1, 1) := by decide +kernel
theorem dX6_ofHome_68 : decode cX6_ofHome 68 = .ok (.iaload, 1) := by decide +kernel
theorem dX6_ofHome_69 : decode cX6_ofHome 69 = .ok (.ireturn, 1) := by decide +kernel
theorem dX6_ofHome_70 : decode cX6_ofHome 70 = .ok (.bipush (-2), 2) := by decide +kernel
theorem dX6_ofHome_72 : decode cX6_ofHome 72 = .ok (.ireturn, 1) := by decide +kernel
theorem dX6_ofChurch_0 : decode cX6_ofChurch 0 = .ok (.aload_n 0, 1) := by decide +kernel
theorem dX6_ofChurch_1 : decode cX6_ofChurch 1 = .ok (.getfield 12, 3) := by decide +kernel
theorem dX6_ofChurch_4 : decode cX6_ofChurch 4 = .ok (.iload_n 1, 1) := by decide +kernel
theorem dX6_ofChurch_5 : decode cX6_ofChurch 5 = .ok (.invokevirtual 125, 3) := by decide +kernel
theorem dX6_ofChurch_8 : decode cX6_ofChurch 8 = .ok (.ifCond .ne 5, 3) := by decide +kernel
theorem dX6_ofChurch_11 : decode cX6_ofChurch 11 = .ok (.iconst (-1), 1) := by decide +kernel
theorem dX6_ofChurch_12 : decode cX6_ofChurch 12 = .ok (.ireturn, 1) := by decide +kernel
theorem dX6_ofChurch_13 : decode cX6_ofChurch 13 = .ok (.iload_n 2, 1) := by decide +kernel
theorem dX6_ofChurch_14 : decode cX6_ofChurch 14 = .ok (.tableswitch 70 0 3 #[30, 40, 50, 60], 30) := by decide +kernel
theorem dX6_ofChurch_44 : decode cX6_ofChurch 44 = .ok (.aload_n 0, 1) := by decide +kernel
theorem dX6_ofChurch_45 : decode cX6_ofChurch 45 = .ok (.getfield 12, 3) := by decide +kernel
theorem dX6_ofChurch_48 : decode cX6_ofChurch 48 = .ok (.getfield 128, 3) := by decide +kernel
theorem dX6_ofChurch_51 : decode cX6_ofChurch 51 = .ok (.iload_n 1, 1) := by decide +kernel
theorem dX6_ofChurch_52 : decode cX6_ofChurch 52 = .ok (.iaload, 1) := by decide +kernel
theorem dX6_ofChurch_53 : decode cX6_ofChurch 53 = .ok (.ireturn, 1) := by decide +kernel
theorem dX6_ofChurch_54 : decode cX6_ofChurch 54 = .ok (.aload_n 0, 1) := by decide +kernel
theorem dX6_ofChurch_55 : decode cX6_ofChurch 55 = .ok (.getfield 12, 3) := by decide +kernel
theorem dX6_ofChurch_58 : decode cX6_ofChurch 58 = .ok (.getfield 131, 3) := by decide +kernel
theorem dX6_ofChurch_61 : decode cX6_ofChurch 61 = .ok (.iload_n 1, 1) := by decide +kernel
theorem dX6_ofChurch_62 : decode cX6_ofChurch 62 = .ok (.iaload, 1) := by decide +kernel
theorem dX6_ofChurch_63 : decode cX6_ofChurch 63 = .ok (.ireturn, 1) := by decide +kernel
theorem dX6_ofChurch_64 : decode cX6_ofChurch 64 = .ok (.aload_n 0, 1) := by decide +kernel
theorem dX6_ofChurch_65 : decode cX6_ofChurch 65 = .ok (.getfield 12, 3) := by decide +kernel
theorem dX6_ofChurch_68 : decode cX6_ofChurch 68 = .ok (.getfield 134, 3) := by decide +kernel
theorem dX6_ofChurch_71 : decode cX6_ofChurch 71 = .ok (.iload_n 1, 1) := by decide +kernel
theorem dX6_ofChurch_72 : decode cX6_ofChurch 72 = .ok (.iaload, 1) := by decide +kernel
theorem dX6_ofChurch_73 : decode cX6_ofChurch 73 = .ok (.ireturn, 1) := by decide +kernel
theorem dX6_ofChurch_74 : decode cX6_ofChurch 74 = .ok (.aload_n 0, 1) := by decide +kernel
theorem dX6_ofChurch_75 : decode cX6_ofChurch 75 = .ok (.getfield 12, 3) := by decide +kernel
theorem dX6_ofChurch_78 : decode cX6_ofChurch 78 = .ok (.getfield 137, 3) := by decide +kernel
theorem dX6_ofChurch_81 : decode cX6_ofChurch 81 = .ok (.iload_n 1, 1) := by decide +kernel
theorem dX6_ofChurch_82 : decode cX6_ofChurch 82 = .ok (.iaload, 1) := by decide +kernel
theorem dX6_ofChurch_83 : decode cX6_ofChurch 83 = .ok (.ireturn, 1) := by decide +kernel
theorem dX6_ofChurch_84 : decode cX6_ofChurch 84 = .ok (.bipush (-2), 2) := by decide +kernel
theorem dX6_ofChurch_86 : decode cX6_ofChurch 86 = .ok (.ireturn, 1) := by decide +kernel
theorem dX6_bar_0 : decode cX6_bar 0 = .ok (.aload_n 0, 1) := by decide +kernel
theorem dX6_bar_1 : decode cX6_bar 1 = .ok (.getfield 12, 3) := by decide +kernel
theorem dX6_bar_4 : decode cX6_bar 4 = .ok (.iload_n 1, 1) := by decide +kernel
theorem dX6_bar_5 : decode cX6_bar 5 = .ok (.invokevirtual 112, 3) := by decide +kernel
theorem dX6_bar_8 : decode cX6_bar 8 = .ok (.ifCond .eq 14, 3) := by decide +kernel
theorem dX6_bar_11 : decode cX6_bar 11 = .ok (.aload_n 0, 1) := by decide +kernel
theorem dX6_bar_12 : decode cX6_bar 12 = .ok (.getfield 12, 3) := by decide +kernel
theorem dX6_bar_15 : decode cX6_bar 15 = .ok (.iload_n 2, 1) := by decide +kernel
theorem dX6_bar_16 : decode cX6_bar 16 = .ok (.invokevirtual 125, 3) := by decide +kernel
theorem dX6_bar_19 : decode cX6_bar 19 = .ok (.ifCond .ne 5, 3) := by decide +kernel
theorem dX6_bar_22 : decode cX6_bar 22 = .ok (.iconst (-1), 1) := by decide +kernel
theorem dX6_bar_23 : decode cX6_bar 23 = .ok (.ireturn, 1) := by decide +kernel
theorem dX6_bar_24 : decode cX6_bar 24 = .ok (.aload_n 0, 1) := by decide +kernel
theorem dX6_bar_25 : decode cX6_bar 25 = .ok (.getfield 12, 3) := by decide +kernel
theorem dX6_bar_28 : decode cX6_bar 28 = .ok (.iload_n 1, 1) := by decide +kernel
theorem dX6_bar_29 : decode cX6_bar 29 = .ok (.iload_n 2, 1) := by decide +kernel
theorem dX6_bar_30 : decode cX6_bar 30 = .ok (.invokevirtual 140, 3) := by decide +kernel
theorem dX6_bar_33 : decode cX6_bar 33 = .ok (.iload_n 3, 1) := by decide +kernel
theorem dX6_bar_34 : decode cX6_bar 34 = .ok (.if_icmp .ne 5, 3) := by decide +kernel
theorem dX6_bar_37 : decode cX6_bar 37 = .ok (.iconst 0, 1) := by decide +kernel
theorem dX6_bar_38 : decode cX6_bar 38 = .ok (.ireturn, 1) := by decide +kernel
theorem dX6_bar_39 : decode cX6_bar 39 = .ok (.aload_n 0, 1) := by decide +kernel
theorem dX6_bar_40 : decode cX6_bar 40 = .ok (.getfield 12, 3) := by decide +kernel
theorem dX6_bar_43 : decode cX6_bar 43 = .ok (.iload_n 1, 1) := by decide +kernel
theorem dX6_bar_44 : decode cX6_bar 44 = .ok (.iload_n 2, 1) := by decide +kernel
theorem dX6_bar_45 : decode cX6_bar 45 = .ok (.invokevirtual 143, 3) := by decide +kernel
theorem dX6_bar_48 : decode cX6_bar 48 = .ok (.iconst 1, 1) := by decide +kernel
theorem dX6_bar_49 : decode cX6_bar 49 = .ok (.ireturn, 1) := by decide +kernel
theorem dX6_seats_0 : decode cX6_seats 0 = .ok (.aload_n 0, 1) := by decide +kernel
theorem dX6_seats_1 : decode cX6_seats 1 = .ok (.getfield 12, 3) := by decide +kernel
theorem dX6_seats_4 : decode cX6_seats 4 = .ok (.iload_n 1, 1) := by decide +kernel
theorem dX6_seats_5 : decode cX6_seats 5 = .ok (.invokevirtual 125, 3) := by decide +kernel
theorem dX6_seats_8 : decode cX6_seats 8 = .ok (.ifCond .ne 5, 3) := by decide +kernel
theorem dX6_seats_11 : decode cX6_seats 11 = .ok (.iconst (-1), 1) := by decide +kernel
theorem dX6_seats_12 : decode cX6_seats 12 = .ok (.ireturn, 1) := by decide +kernel
theorem dX6_seats_13 : decode cX6_seats 13 = .ok (.iload_n 2, 1) := by decide +kernel
theorem dX6_seats_14 : decode cX6_seats 14 = .ok (.iconst 0, 1) := by decide +kernel
theorem dX6_seats_15 : decode cX6_seats 15 = .ok (.bipush 50, 2) := by decide +kernel
theorem dX6_seats_17 : decode cX6_seats 17 = .ok (.invokestatic 77, 3) := by decide +kernel
theorem dX6_seats_20 : decode cX6_seats 20 = .ok (.ifCond .eq 15, 3) := by decide +kernel
theorem dX6_seats_23 : decode cX6_seats 23 = .ok (.aload_n 0, 1) := by decide +kernel
theorem dX6_seats_24 : decode cX6_seats 24 = .ok (.getfield 12, 3) := by decide +kernel
theorem dX6_seats_27 : decode cX6_seats 27 = .ok (.iload_n 1, 1) := by decide +kernel
theorem dX6_seats_28 : decode cX6_seats 28 = .ok (.iload_n 2, 1) := by decide +kernel
theorem dX6_seats_29 : decode cX6_seats 29 = .ok (.invokevirtual 147, 3) := by decide +kernel
theorem dX6_seats_32 : decode cX6_seats 32 = .ok (.goto 5, 3) := by decide +kernel
theorem dX6_seats_35 : decode cX6_seats 35 = .ok (.bipush (-2), 2) := by decide +kernel
theorem dX6_seats_37 : decode cX6_seats 37 = .ok (.ireturn, 1) := by decide +kernel
theorem dX6_toll_0 : decode cX6_toll 0 = .ok (.iload_n 1, 1) := by decide +kernel
theorem dX6_toll_1 : decode cX6_toll 1 = .ok (.iconst 0, 1) := by decide +kernel
theorem dX6_toll_2 : decode cX6_toll 2 = .ok (.sipush 999, 3) := by decide +kernel
theorem dX6_toll_5 : decode cX6_toll 5 = .ok (.invokestatic 77, 3) := by decide +kernel
theorem dX6_toll_8 : decode cX6_toll 8 = .ok (.ifCond .eq 14, 3) := by decide +kernel
theorem dX6_toll_11 : decode cX6_toll 11 = .ok (.aload_n 0, 1) := by decide +kernel
theorem dX6_toll_12 : decode cX6_toll 12 = .ok (.getfield 12, 3) := by decide +kernel
theorem dX6_toll_15 : decode cX6_toll 15 = .ok (.iload_n 1, 1) := by decide +kernel
theorem dX6_toll_16 : decode cX6_toll 16 = .ok (.invokevirtual 151, 3) := by decide +kernel
theorem dX6_toll_19 : decode cX6_toll 19 = .ok (.goto 5, 3) := by decide +kernel
theorem dX6_toll_22 : decode cX6_toll 22 = .ok (.bipush (-2), 2) := by decide +kernel
theorem dX6_toll_24 : decode cX6_toll 24 = .ok (.ireturn, 1) := by decide +kernel
theorem dX6_far_0 : decode cX6_far 0 = .ok (.aload_n 0, 1) := by decide +kernel
theorem dX6_far_1 : decode cX6_far 1 = .ok (.getfield 12, 3) := by decide +kernel
theorem dX6_far_4 : decode cX6_far 4 = .ok (.iload_n 3, 1) := by decide +kernel
theorem dX6_far_5 : decode cX6_far 5 = .ok (.invokevirtual 125, 3) := by decide +kernel
theorem dX6_far_8 : decode cX6_far 8 = .ok (.ifCond .ne 5, 3) := by decide +kernel
theorem dX6_far_11 : decode cX6_far 11 = .ok (.iconst (-1), 1) := by decide +kernel
theorem dX6_far_12 : decode cX6_far 12 = .ok (.ireturn, 1) := by decide +kernel
theorem dX6_far_13 : decode cX6_far 13 = .ok (.iload_n 1, 1) := by decide +kernel
theorem dX6_far_14 : decode cX6_far 14 = .ok (.iload_n 2, 1) := by decide +kernel
theorem dX6_far_15 : decode cX6_far 15 = .ok (.invokestatic 73, 3) := by decide +kernel
theorem dX6_far_18 : decode cX6_far 18 = .ok (.ifCond .eq 16, 3) := by decide +kernel
theorem dX6_far_21 : decode cX6_far 21 = .ok (.aload_n 0, 1) := by decide +kernel
theorem dX6_far_22 : decode cX6_far 22 = .ok (.getfield 12, 3) := by decide +kernel
theorem dX6_far_25 : decode cX6_far 25 = .ok (.iload_n 3, 1) := by decide +kernel
theorem dX6_far_26 : decode cX6_far 26 = .ok (.iload_n 1, 1) := by decide +kernel
theorem dX6_far_27 : decode cX6_far 27 = .ok (.iload_n 2, 1) := by decide +kernel
theorem dX6_far_28 : decode cX6_far 28 = .ok (.invokevirtual 155, 3) := by decide +kernel
theorem dX6_far_31 : decode cX6_far 31 = .ok (.goto 5, 3) := by decide +kernel
theorem dX6_far_34 : decode cX6_far 34 = .ok (.bipush (-2), 2) := by decide +kernel
theorem dX6_far_36 : decode cX6_far 36 = .ok (.ireturn, 1) := by decide +kernel
theorem dX6_miles_0 : decode cX6_miles 0 = .ok (.aload_n 0, 1) := by decide +kernel
theorem dX6_miles_1 : decode cX6_miles 1 = .ok (.invokevirtual 158, 3) := by decide +kernel
theorem dX6_miles_4 : decode cX6_miles 4 = .ok (.ireturn, 1) := by decide +kernel
theorem dX6_few_0 : decode cX6_few 0 = .ok (.iconst 1, 1) := by decide +kernel
theorem dX6_few_1 : decode cX6_few 1 = .ok (.istore_n 1, 1) := by decide +kernel
theorem dX6_few_2 : decode cX6_few 2 = .ok (.iload_n 1, 1) := by decide +kernel
theorem dX6_few_3 : decode cX6_few 3 = .ok (.iconst 1, 1) := by decide +kernel
theorem dX6_few_4 : decode cX6_few 4 = .ok (.aload_n 0, 1) := by decide +kernel
theorem dX6_few_5 : decode cX6_few 5 = .ok (.getfield 12, 3) := by decide +kernel
theorem dX6_few_8 : decode cX6_few 8 = .ok (.getfield 81, 3) := by decide +kernel
theorem dX6_few_11 : decode cX6_few 11 = .ok (.ishl, 1) := by decide +kernel
theorem dX6_few_12 : decode cX6_few 12 = .ok (.if_icmp .ge 22, 3) := by decide +kernel
theorem dX6_few_15 : decode cX6_few 15 = .ok (.aload_n 0, 1) := by decide +kernel
theorem dX6_few_16 : decode cX6_few 16 = .ok (.getfield 12, 3) := by decide +kernel
theorem dX6_few_19 : decode cX6_few 19 = .ok (.iload_n 1, 1) := by decide +kernel
theorem dX6_few_20 : decode cX6_few 20 = .ok (.invokevirtual 162, 3) := by decide +kernel
theorem dX6_few_23 : decode cX6_few 23 = .ok (.ifCond .eq 5, 3) := by decide +kernel
theorem dX6_few_26 : decode cX6_few 26 = .ok (.iload_n 1, 1) := by decide +kernel
theorem dX6_few_27 : decode cX6_few 27 = .ok (.ireturn, 1) := by decide +kernel
theorem dX6_few_28 : decode cX6_few 28 = .ok (.iinc 1 1, 3) := by decide +kernel
theorem dX6_few_31 : decode cX6_few 31 = .ok (.goto (-29), 3) := by decide +kernel
theorem dX6_few_34 : decode cX6_few 34 = .ok (.iconst 0, 1) := by decide +kernel
theorem dX6_few_35 : decode cX6_few 35 = .ok (.ireturn, 1) := by decide +kernel
theorem dX6_weight_0 : decode cX6_weight 0 = .ok (.aload_n 0, 1) := by decide +kernel
theorem dX6_weight_1 : decode cX6_weight 1 = .ok (.getfield 12, 3) := by decide +kernel
theorem dX6_weight_4 : decode cX6_weight 4 = .ok (.iload_n 1, 1) := by decide +kernel
theorem dX6_weight_5 : decode cX6_weight 5 = .ok (.invokevirtual 125, 3) := by decide +kernel
theorem dX6_weight_8 : decode cX6_weight 8 = .ok (.ifCond .ne 5, 3) := by decide +kernel
theorem dX6_weight_11 : decode cX6_weight 11 = .ok (.iconst (-1), 1) := by decide +kernel
theorem dX6_weight_12 : decode cX6_weight 12 = .ok (.ireturn, 1) := by decide +kernel
theorem dX6_weight_13 : decode cX6_weight 13 = .ok (.aload_n 0, 1) := by decide +kernel
theorem dX6_weight_14 : decode cX6_weight 14 = .ok (.invokevirtual 158, 3) := by decide +kernel
theorem dX6_weight_17 : decode cX6_weight 17 = .ok (.bipush (-9), 2) := by decide +kernel
theorem dX6_weight_19 : decode cX6_weight 19 = .ok (.if_icmp .ne 8, 3) := by decide +kernel
theorem dX6_weight_22 : decode cX6_weight 22 = .ok (.bipush (-9), 2) := by decide +kernel
theorem dX6_weight_24 : decode cX6_weight 24 = .ok (.goto 12, 3) := by decide +kernel
theorem dX6_weight_27 : decode cX6_weight 27 = .ok (.aload_n 0, 1) := by decide +kernel
theorem dX6_weight_28 : decode cX6_weight 28 = .ok (.getfield 28, 3) := by decide +kernel
theorem dX6_weight_31 : decode cX6_weight 31 = .ok (.getfield 165, 3) := by decide +kernel
theorem dX6_weight_34 : decode cX6_weight 34 = .ok (.iload_n 1, 1) := by decide +kernel
theorem dX6_weight_35 : decode cX6_weight 35 = .ok (.iaload, 1) := by decide +kernel
theorem dX6_weight_36 : decode cX6_weight 36 = .ok (.ireturn, 1) := by decide +kernel
theorem dX6_line_0 : decode cX6_line 0 = .ok (.aload_n 0, 1) := by decide +kernel
theorem dX6_line_1 : decode cX6_line 1 = .ok (.getfield 12, 3) := by decide +kernel
theorem dX6_line_4 : decode cX6_line 4 = .ok (.iload_n 1, 1) := by decide +kernel
theorem dX6_line_5 : decode cX6_line 5 = .ok (.invokevirtual 112, 3) := by decide +kernel
theorem dX6_line_8 : decode cX6_line 8 = .ok (.ifCond .ne 5, 3) := by decide +kernel
theorem dX6_line_11 : decode cX6_line 11 = .ok (.iconst (-1), 1) := by decide +kernel
theorem dX6_line_12 : decode cX6_line 12 = .ok (.ireturn, 1) := by decide +kernel
theorem dX6_line_13 : decode cX6_line 13 = .ok (.aload_n 0, 1) := by decide +kernel
theorem dX6_line_14 : decode cX6_line 14 = .ok (.invokevirtual 158, 3) := by decide +kernel
theorem dX6_line_17 : decode cX6_line 17 = .ok (.bipush (-9), 2) := by decide +kernel
theorem dX6_line_19 : decode cX6_line 19 = .ok (.if_icmp .ne 8, 3) := by decide +kernel
theorem dX6_line_22 : decode cX6_line 22 = .ok (.bipush (-9), 2) := by decide +kernel
theorem dX6_line_24 : decode cX6_line 24 = .ok (.goto 11, 3) := by decide +kernel
theorem dX6_line_27 : decode cX6_line 27 = .ok (.aload_n 0, 1) := by decide +kernel
theorem dX6_line_28 : decode cX6_line 28 = .ok (.getfield 28, 3) := by decide +kernel
theorem dX6_line_31 : decode cX6_line 31 = .ok (.iload_n 1, 1) := by decide +kernel
theorem dX6_line_32 : decode cX6_line 32 = .ok (.invokevirtual 168, 3) := by decide +kernel
theorem dX6_line_35 : decode cX6_line 35 = .ok (.ireturn, 1) := by decide +kernel
theorem dX6_check_0 : decode cX6_check 0 = .ok (.aload_n 0, 1) := by decide +kernel
theorem dX6_check_1 : decode cX6_check 1 = .ok (.iload_n 1, 1) := by decide +kernel
theorem dX6_check_2 : decode cX6_check 2 = .ok (.iload_n 2, 1) := by decide +kernel
theorem dX6_check_3 : decode cX6_check 3 = .ok (.iload_n 3, 1) := by decide +kernel
theorem dX6_check_4 : decode cX6_check 4 = .ok (.iload 4, 2) := by decide +kernel
theorem dX6_check_6 : decode cX6_check 6 = .ok (.invokevirtual 95, 3) := by decide +kernel
theorem dX6_check_9 : decode cX6_check 9 = .ok (.istore 5, 2) := by decide +kernel
theorem dX6_check_11 : decode cX6_check 11 = .ok (.iload 5, 2) := by decide +kernel
theorem dX6_check_13 : decode cX6_check 13 = .ok (.ifCond .eq 6, 3) := by decide +kernel
theorem dX6_check_16 : decode cX6_check 16 = .ok (.iload 5, 2) := by decide +kernel
theorem dX6_check_18 : decode cX6_check 18 = .ok (.ireturn, 1) := by decide +kernel
theorem dX6_check_19 : decode cX6_check 19 = .ok (.iload 4, 2) := by decide +kernel
theorem dX6_check_21 : decode cX6_check 21 = .ok (.aload_n 0, 1) := by decide +kernel
theorem dX6_check_22 : decode cX6_check 22 = .ok (.getfield 12, 3) := by decide +kernel
theorem dX6_check_25 : decode cX6_check 25 = .ok (.getfield 81, 3) := by decide +kernel
theorem dX6_check_28 : decode cX6_check 28 = .ok (.aload_n 0, 1) := by decide +kernel
theorem dX6_check_29 : decode cX6_check 29 = .ok (.getfield 12, 3) := by decide +kernel
theorem dX6_check_32 : decode cX6_check 32 = .ok (.getfield 88, 3) := by decide +kernel
theorem dX6_check_35 : decode cX6_check 35 = .ok (.imul, 1) := by decide +kernel
theorem dX6_check_36 : decode cX6_check 36 = .ok (.aload_n 0, 1) := by decide +kernel
theorem dX6_check_37 : decode cX6_check 37 = .ok (.getfield 12, 3) := by decide +kernel
theorem dX6_check_40 : decode cX6_check 40 = .ok (.getfield 88, 3) := by decide +kernel
theorem dX6_check_43 : decode cX6_check 43 = .ok (.iadd, 1) := by decide +kernel
theorem dX6_check_44 : decode cX6_check 44 = .ok (.if_icmp .eq 6, 3) := by decide +kernel
theorem dX6_check_47 : decode cX6_check 47 = .ok (.bipush (-2), 2) := by decide +kernel
theorem dX6_check_49 : decode cX6_check 49 = .ok (.ireturn, 1) := by decide +kernel
theorem dX6_check_50 : decode cX6_check 50 = .ok (.aload_n 0, 1) := by decide +kernel
theorem dX6_check_51 : decode cX6_check 51 = .ok (.getfield 12, 3) := by decide +kernel
theorem dX6_check_54 : decode cX6_check 54 = .ok (.aload_n 0, 1) := by decide +kernel
theorem dX6_check_55 : decode cX6_check 55 = .ok (.getfield 51, 3) := by decide +kernel
theorem dX6_check_58 : decode cX6_check 58 = .ok (.iload_n 1, 1) := by decide +kernel
theorem dX6_check_59 : decode cX6_check 59 = .ok (.aaload, 1) := by decide +kernel
theorem dX6_check_60 : decode cX6_check 60 = .ok (.getfield 98, 3) := by decide +kernel
theorem dX6_check_63 : decode cX6_check 63 = .ok (.iload_n 3, 1) := by decide +kernel
theorem dX6_check_64 : decode cX6_check 64 = .ok (.invokevirtual 171, 3) := by decide +kernel
theorem dX6_check_67 : decode cX6_check 67 = .ok (.ifCond .eq 7, 3) := by decide +kernel
theorem dX6_check_70 : decode cX6_check 70 = .ok (.iconst 1, 1) := by decide +kernel
theorem dX6_check_71 : decode cX6_check 71 = .ok (.goto 4, 3) := by decide +kernel
theorem dX6_check_74 : decode cX6_check 74 = .ok (.iconst 0, 1) := by decide +kernel
theorem dX6_check_75 : decode cX6_check 75 = .ok (.ireturn, 1) := by decide +kernel
theorem dX6_family_0 : decode cX6_family 0 = .ok (.iload_n 1, 1) := by decide +kernel
theorem dX6_family_1 : decode cX6_family 1 = .ok (.iconst (-1), 1) := by decide +kernel
theorem dX6_family_2 : decode cX6_family 2 = .ok (.if_icmp .eq 16, 3) := by decide +kernel
theorem dX6_family_5 : decode cX6_family 5 = .ok (.aload_n 0, 1) := by decide +kernel
theorem dX6_family_6 : decode cX6_family 6 = .ok (.getfield 12, 3) := by decide +kernel
theorem dX6_family_9 : decode cX6_family 9 = .ok (.iload_n 1, 1) := by decide +kernel
theorem dX6_family_10 : decode cX6_family 10 = .ok (.invokevirtual 112, 3) := by decide +kernel
theorem dX6_family_13 : decode cX6_family 13 = .ok (.ifCond .ne 5, 3) := by decide +kernel
theorem dX6_family_16 : decode cX6_family 16 = .ok (.iconst (-1), 1) := by decide +kernel
theorem dX6_family_17 : decode cX6_family 17 = .ok (.ireturn, 1) := by decide +kernel
theorem dX6_family_18 : decode cX6_family 18 = .ok (.aload_n 0, 1) := by decide +kernel
theorem dX6_family_19 : decode cX6_family 19 = .ok (.getfield 12, 3) := by decide +kernel
theorem dX6_family_22 : decode cX6_family 22 = .ok (.getfield 81, 3) := by decide +kernel
theorem dX6_family_25 : decode cX6_family 25 = .ok (.bipush 7, 2) := by decide +kernel
theorem dX6_family_27 : decode cX6_family 27 = .ok (.if_icmp .le 6, 3) := by decide +kernel
theorem dX6_family_30 : decode cX6_family 30 = .ok (.bipush (-3), 2) := by decide +kernel
theorem dX6_family_32 : decode cX6_family 32 = .ok (.ireturn, 1) := by decide +kernel
theorem dX6_family_33 : decode cX6_family 33 = .ok (.aload_n 0, 1) := by decide +kernel
theorem dX6_family_34 : decode cX6_family 34 = .ok (.invokevirtual 175, 3) := by decide +kernel
theorem dX6_family_37 : decode cX6_family 37 = .ok (.aload_n 0, 1) := by decide +kernel
theorem dX6_family_38 : decode cX6_family 38 = .ok (.getfield 38, 3) := by decide +kernel
theorem dX6_family_41 : decode cX6_family 41 = .ok (.getfield 178, 3) := by decide +kernel
theorem dX6_family_44 : decode cX6_family 44 = .ok (.ldc 181, 2) := by decide +kernel
theorem dX6_family_46 : decode cX6_family 46 = .ok (.if_icmp .ne 6, 3) := by decide +kernel
theorem dX6_family_49 : decode cX6_family 49 = .ok (.bipush (-9), 2) := by decide +kernel
theorem dX6_family_51 : decode cX6_family 51 = .ok (.ireturn, 1) := by decide +kernel
theorem dX6_family_52 : decode cX6_family 52 = .ok (.iload_n 1, 1) := by decide +kernel
theorem dX6_family_53 : decode cX6_family 53 = .ok (.iconst (-1), 1) := by decide +kernel
theorem dX6_family_54 : decode cX6_family 54 = .ok (.if_icmp .ne 13, 3) := by decide +kernel
theorem dX6_family_57 : decode cX6_family 57 = .ok (.aload_n 0, 1) := by decide +kernel
theorem dX6_family_58 : decode cX6_family 58 = .ok (.getfield 38, 3) := by decide +kernel
theorem dX6_family_61 : decode cX6_family 61 = .ok (.getfield 178, 3) := by decide +kernel
theorem dX6_family_64 : decode cX6_family 64 = .ok (.goto 12, 3) := by decide +kernel
theorem dX6_family_67 : decode cX6_family 67 = .ok (.aload_n 0, 1) := by decide +kernel
theorem dX6_family_68 : decode cX6_family 68 = .ok (.getfield 38, 3) := by decide +kernel
theorem dX6_family_71 : decode cX6_family 71 = .ok (.getfield 182, 3) := by decide +kernel
theorem dX6_family_74 : decode cX6_family 74 = .ok (.iload_n 1, 1) := by decide +kernel
theorem dX6_family_75 : decode cX6_family 75 = .ok (.iaload, 1) := by decide +kernel
theorem dX6_family_76 : decode cX6_family 76 = .ok (.ireturn, 1) := by decide +kernel
theorem dX6_even_0 : decode cX6_even 0 = .ok (.iload_n 1, 1) := by decide +kernel
theorem dX6_even_1 : decode cX6_even 1 = .ok (.iconst 0, 1) := by decide +kernel
theorem dX6_even_2 : decode cX6_even 2 = .ok (.iconst 1, 1) := by decide +kernel
theorem dX6_even_3 : decode cX6_even 3 = .ok (.invokestatic 77, 3) := by decide +kernel
theorem dX6_even_6 : decode cX6_even 6 = .ok (.ifCond .ne 6, 3) := by decide +kernel
theorem dX6_even_9 : decode cX6_even 9 = .ok (.bipush (-2), 2) := by decide +kernel
theorem dX6_even_11 : decode cX6_even 11 = .ok (.ireturn, 1) := by decide +kernel
theorem dX6_even_12 : decode cX6_even 12 = .ok (.aload_n 0, 1) := by decide +kernel
theorem dX6_even_13 : decode cX6_even 13 = .ok (.invokevirtual 185, 3) := by decide +kernel
theorem dX6_even_16 : decode cX6_even 16 = .ok (.iload_n 1, 1) := by decide +kernel
theorem dX6_even_17 : decode cX6_even 17 = .ok (.ifCond .ne 10, 3) := by decide +kernel
theorem dX6_even_20 : decode cX6_even 20 = .ok (.aload_n 0, 1) := by decide +kernel
theorem dX6_even_21 : decode cX6_even 21 = .ok (.getfield 188, 3) := by decide +kernel
theorem dX6_even_24 : decode cX6_even 24 = .ok (.goto 7, 3) := by decide +kernel
theorem dX6_even_27 : decode cX6_even 27 = .ok (.aload_n 0, 1) := by decide +kernel
theorem dX6_even_28 : decode cX6_even 28 = .ok (.getfield 191, 3) := by decide +kernel
theorem dX6_even_31 : decode cX6_even 31 = .ok (.ireturn, 1) := by decide +kernel
theorem dX6_border_0 : decode cX6_border 0 = .ok (.aload_n 0, 1) := by decide +kernel
theorem dX6_border_1 : decode cX6_border 1 = .ok (.getfield 12, 3) := by decide +kernel
theorem dX6_border_4 : decode cX6_border 4 = .ok (.iload_n 1, 1) := by decide +kernel
theorem dX6_border_5 : decode cX6_border 5 = .ok (.invokevirtual 125, 3) := by decide +kernel
theorem dX6_border_8 : decode cX6_border 8 = .ok (.ifCond .eq 28, 3) := by decide +kernel
theorem dX6_border_11 : decode cX6_border 11 = .ok (.aload_n 0, 1) := by decide +kernel
theorem dX6_border_12 : decode cX6_border 12 = .ok (.getfield 12, 3) := by decide +kernel
theorem dX6_border_15 : decode cX6_border 15 = .ok (.iload_n 2, 1) := by decide +kernel
theorem dX6_border_16 : decode cX6_border 16 = .ok (.invokevirtual 125, 3) := by decide +kernel
theorem dX6_border_19 : decode cX6_border 19 = .ok (.ifCond .eq 17, 3) := by decide +kernel
theorem dX6_border_22 : decode cX6_border 22 = .ok (.iload_n 3, 1) := by decide +kernel
theorem dX6_border_23 : decode cX6_border 23 = .ok (.iconst 0, 1) := by decide +kernel
theorem dX6_border_24 : decode cX6_border 24 = .ok (.iconst 2, 1) := by decide +kernel
theorem dX6_border_25 : decode cX6_border 25 = .ok (.invokestatic 77, 3) := by decide +kernel
theorem dX6_border_28 : decode cX6_border 28 = .ok (.ifCond .eq 8, 3) := by decide +kernel
theorem dX6_border_31 : decode cX6_border 31 = .ok (.iload_n 1, 1) := by decide +kernel
theorem dX6_border_32 : decode cX6_border 32 = .ok (.iload_n 2, 1) := by decide +kernel
theorem dX6_border_33 : decode cX6_border 33 = .ok (.if_icmp .ne 7, 3) := by decide +kernel
theorem dX6_border_36 : decode cX6_border 36 = .ok (.ldc2_w 194, 3) := by decide +kernel
theorem dX6_border_39 : decode cX6_border 39 = .ok (.lreturn, 1) := by decide +kernel
theorem dX6_border_40 : decode cX6_border 40 = .ok (.aload_n 0, 1) := by decide +kernel
theorem dX6_border_41 : decode cX6_border 41 = .ok (.getfield 12, 3) := by decide +kernel
theorem dX6_border_44 : decode cX6_border 44 = .ok (.getfield 128, 3) := by decide +kernel
theorem dX6_border_47 : decode cX6_border 47 = .ok (.iload_n 1, 1) := by decide +kernel
theorem dX6_border_48 : decode cX6_border 48 = .ok (.iaload, 1) := by decide +kernel
theorem dX6_border_49 : decode cX6_border 49 = .ok (.ifCond .ne 27, 3) := by decide +kernel
theorem dX6_border_52 : decode cX6_border 52 = .ok (.aload_n 0, 1) := by decide +kernel
theorem dX6_border_53 : decode cX6_border 53 = .ok (.getfield 12, 3) := by decide +kernel
theorem dX6_border_56 : decode cX6_border 56 = .ok (.getfield 128, 3) := by decide +kernel
theorem dX6_border_59 : decode cX6_border 59 = .ok (.iload_n 2, 1) := by decide +kernel
theorem dX6_border_60 : decode cX6_border 60 = .ok (.iaload, 1) := by decide +kernel
theorem dX6_border_61 : decode cX6_border 61 = .ok (.ifCond .ne 15, 3) := by decide +kernel
theorem dX6_border_64 : decode cX6_border 64 = .ok (.aload_n 0, 1) := by decide +kernel
theorem dX6_border_65 : decode cX6_border 65 = .ok (.getfield 12, 3) := by decide +kernel
theorem dX6_border_68 : decode cX6_border 68 = .ok (.iload_n 1, 1) := by decide +kernel
theorem dX6_border_69 : decode cX6_border 69 = .ok (.iload_n 2, 1) := by decide +kernel
theorem dX6_border_70 : decode cX6_border 70 = .ok (.invokevirtual 196, 3) := by decide +kernel
theorem dX6_border_73 : decode cX6_border 73 = .ok (.ifCond .eq 7, 3) := by decide +kernel
theorem dX6_border_76 : decode cX6_border 76 = .ok (.ldc2_w 194, 3) := by decide +kernel
theorem dX6_border_79 : decode cX6_border 79 = .ok (.lreturn, 1) := by decide +kernel
theorem dX6_border_80 : decode cX6_border 80 = .ok (.aload_n 0, 1) := by decide +kernel
theorem dX6_border_81 : decode cX6_border 81 = .ok (.invokevirtual 158, 3) := by decide +kernel
theorem dX6_border_84 : decode cX6_border 84 = .ok (.bipush (-9), 2) := by decide +kernel
theorem dX6_border_86 : decode cX6_border 86 = .ok (.if_icmp .ne 9, 3) := by decide +kernel
theorem dX6_border_89 : decode cX6_border 89 = .ok (.ldc2_w 194, 3) := by decide +kernel
theorem dX6_border_92 : decode cX6_border 92 = .ok (.goto 10, 3) := by decide +kernel
theorem dX6_border_95 : decode cX6_border 95 = .ok (.aload_n 0, 1) := by decide +kernel
theorem dX6_border_96 : decode cX6_border 96 = .ok (.iload_n 1, 1) := by decide +kernel
theorem dX6_border_97 : decode cX6_border 97 = .ok (.iload_n 2, 1) := by decide +kernel
theorem dX6_border_98 : decode cX6_border 98 = .ok (.iload_n 3, 1) := by decide +kernel
theorem dX6_border_99 : decode cX6_border 99 = .ok (.invokevirtual 199, 3) := by decide +kernel
theorem dX6_border_102 : decode cX6_border 102 = .ok (.lreturn, 1) := by decide +kernel
theorem dX6_who_0 : decode cX6_who 0 = .ok (.iload_n 1, 1) := by decide +kernel
theorem dX6_who_1 : decode cX6_who 1 = .ok (.iload_n 2, 1) := by decide +kernel
theorem dX6_who_2 : decode cX6_who 2 = .ok (.invokestatic 73, 3) := by decide +kernel
theorem dX6_who_5 : decode cX6_who 5 = .ok (.ifCond .ne 6, 3) := by decide +kernel
theorem dX6_who_8 : decode cX6_who 8 = .ok (.bipush (-2), 2) := by decide +kernel
theorem dX6_who_10 : decode cX6_who 10 = .ok (.ireturn, 1) := by decide +kernel
theorem dX6_who_11 : decode cX6_who 11 = .ok (.aload_n 0, 1) := by decide +kernel
theorem dX6_who_12 : decode cX6_who 12 = .ok (.invokevirtual 158, 3) := by decide +kernel
theorem dX6_who_15 : decode cX6_who 15 = .ok (.bipush (-9), 2) := by decide +kernel
theorem dX6_who_17 : decode cX6_who 17 = .ok (.if_icmp .ne 6, 3) := by decide +kernel
theorem dX6_who_20 : decode cX6_who 20 = .ok (.bipush (-3), 2) := by decide +kernel
theorem dX6_who_22 : decode cX6_who 22 = .ok (.ireturn, 1) := by decide +kernel
theorem dX6_who_23 : decode cX6_who 23 = .ok (.aload_n 0, 1) := by decide +kernel
theorem dX6_who_24 : decode cX6_who 24 = .ok (.iload_n 1, 1) := by decide +kernel
theorem dX6_who_25 : decode cX6_who 25 = .ok (.iload_n 2, 1) := by decide +kernel
theorem dX6_who_26 : decode cX6_who 26 = .ok (.invokevirtual 203, 3) := by decide +kernel
theorem dX6_who_29 : decode cX6_who 29 = .ok (.ireturn, 1) := by decide +kernel
theorem dX6_place_0 : decode cX6_place 0 = .ok (.iload_n 1, 1) := by decide +kernel
theorem dX6_place_1 : decode cX6_place 1 = .ok (.iload_n 2, 1) := by decide +kernel
theorem dX6_place_2 : decode cX6_place 2 = .ok (.invokestatic 73, 3) := by decide +kernel
theorem dX6_place_5 : decode cX6_place 5 = .ok (.ifCond .ne 6, 3) := by decide +kernel
theorem dX6_place_8 : decode cX6_place 8 = .ok (.bipush (-2), 2) := by decide +kernel
theorem dX6_place_10 : decode cX6_place 10 = .ok (.ireturn, 1) := by decide +kernel
theorem dX6_place_11 : decode cX6_place 11 = .ok (.aload_n 0, 1) := by decide +kernel
theorem dX6_place_12 : decode cX6_place 12 = .ok (.getfield 206, 3) := by decide +kernel
theorem dX6_place_15 : decode cX6_place 15 = .ok (.bipush 8, 2) := by decide +kernel
theorem dX6_place_17 : decode cX6_place 17 = .ok (.if_icmp .lt 6, 3) := by decide +kernel
theorem dX6_place_20 : decode cX6_place 20 = .ok (.bipush (-4), 2) := by decide +kernel
theorem dX6_place_22 : decode cX6_place 22 = .ok (.ireturn, 1) := by decide +kernel
theorem dX6_place_23 : decode cX6_place 23 = .ok (.aload_n 0, 1) := by decide +kernel
theorem dX6_place_24 : decode cX6_place 24 = .ok (.getfield 55, 3) := by decide +kernel
theorem dX6_place_27 : decode cX6_place 27 = .ok (.aload_n 0, 1) := by decide +kernel
theorem dX6_place_28 : decode cX6_place 28 = .ok (.getfield 206, 3) := by decide +kernel
theorem dX6_place_31 : decode cX6_place 31 = .ok (.iload_n 1, 1) := by decide +kernel
theorem dX6_place_32 : decode cX6_place 32 = .ok (.iastore, 1) := by decide +kernel
theorem dX6_place_33 : decode cX6_place 33 = .ok (.aload_n 0, 1) := by decide +kernel
theorem dX6_place_34 : decode cX6_place 34 = .ok (.getfield 59, 3) := by decide +kernel
theorem dX6_place_37 : decode cX6_place 37 = .ok (.aload_n 0, 1) := by decide +kernel
theorem dX6_place_38 : decode cX6_place 38 = .ok (.getfield 206, 3) := by decide +kernel
theorem dX6_place_41 : decode cX6_place 41 = .ok (.iload_n 2, 1) := by decide +kernel
theorem dX6_place_42 : decode cX6_place 42 = .ok (.iastore, 1) := by decide +kernel
theorem dX6_place_43 : decode cX6_place 43 = .ok (.aload_n 0, 1) := by decide +kernel
theorem dX6_place_44 : decode cX6_place 44 = .ok (.dup, 1) := by decide +kernel
theorem dX6_place_45 : decode cX6_place 45 = .ok (.getfield 206, 3) := by decide +kernel
theorem dX6_place_48 : decode cX6_place 48 = .ok (.dup_x1, 1) := by decide +kernel
theorem dX6_place_49 : decode cX6_place 49 = .ok (.iconst 1, 1) := by decide +kernel
theorem dX6_place_50 : decode cX6_place 50 = .ok (.iadd, 1) := by decide +kernel
theorem dX6_place_51 : decode cX6_place 51 = .ok (.putfield 206, 3) := by decide +kernel
theorem dX6_place_54 : decode cX6_place 54 = .ok (.ireturn, 1) := by decide +kernel
theorem dX6_move_0 : decode cX6_move 0 = .ok (.aload_n 0, 1) := by decide +kernel
theorem dX6_move_1 : decode cX6_move 1 = .ok (.getfield 12, 3) := by decide +kernel
theorem dX6_move_4 : decode cX6_move 4 = .ok (.iload_n 1, 1) := by decide +kernel
theorem dX6_move_5 : decode cX6_move 5 = .ok (.invokevirtual 125, 3) := by decide +kernel
theorem dX6_move_8 : decode cX6_move 8 = .ok (.ifCond .ne 5, 3) := by decide +kernel
theorem dX6_move_11 : decode cX6_move 11 = .ok (.iconst (-1), 1) := by decide +kernel
theorem dX6_move_12 : decode cX6_move 12 = .ok (.ireturn, 1) := by decide +kernel
theorem dX6_move_13 : decode cX6_move 13 = .ok (.aload_n 0, 1) := by decide +kernel
theorem dX6_move_14 : decode cX6_move 14 = .ok (.iload_n 1, 1) := by decide +kernel
theorem dX6_move_15 : decode cX6_move 15 = .ok (.invokevirtual 209, 3) := by decide +kernel
theorem dX6_move_18 : decode cX6_move 18 = .ok (.istore_n 2, 1) := by decide +kernel
theorem dX6_move_19 : decode cX6_move 19 = .ok (.iload_n 2, 1) := by decide +kernel
theorem dX6_move_20 : decode cX6_move 20 = .ok (.ifCond .ge 6, 3) := by decide +kernel
theorem dX6_move_23 : decode cX6_move 23 = .ok (.bipush (-9), 2) := by decide +kernel
theorem dX6_move_25 : decode cX6_move 25 = .ok (.ireturn, 1) := by decide +kernel
theorem dX6_move_26 : decode cX6_move 26 = .ok (.aload_n 0, 1) := by decide +kernel
theorem dX6_move_27 : decode cX6_move 27 = .ok (.getfield 12, 3) := by decide +kernel
theorem dX6_move_30 : decode cX6_move 30 = .ok (.iload_n 1, 1) := by decide +kernel
theorem dX6_move_31 : decode cX6_move 31 = .ok (.aload_n 0, 1) := by decide +kernel
theorem dX6_move_32 : decode cX6_move 32 = .ok (.getfield 55, 3) := by decide +kernel
theorem dX6_move_35 : decode cX6_move 35 = .ok (.iload_n 2, 1) := by decide +kernel
theorem dX6_move_36 : decode cX6_move 36 = .ok (.iaload, 1) := by decide +kernel
theorem dX6_move_37 : decode cX6_move 37 = .ok (.aload_n 0, 1) := by decide +kernel
theorem dX6_move_38 : decode cX6_move 38 = .ok (.getfield 59, 3) := by decide +kernel
theorem dX6_move_41 : decode cX6_move 41 = .ok (.iload_n 2, 1) := by decide +kernel
theorem dX6_move_42 : decode cX6_move 42 = .ok (.iaload, 1) := by decide +kernel
theorem dX6_move_43 : decode cX6_move 43 = .ok (.invokevirtual 212, 3) := by decide +kernel
theorem dX6_move_46 : decode cX6_move 46 = .ok (.iload_n 2, 1) := by decide +kernel
theorem dX6_move_47 : decode cX6_move 47 = .ok (.ireturn, 1) := by decide +kernel
theorem dX6_open_0 : decode cX6_open 0 = .ok (.iload_n 1, 1) := by decide +kernel
theorem dX6_open_1 : decode cX6_open 1 = .ok (.iconst 0, 1) := by decide +kernel
theorem dX6_open_2 : decode cX6_open 2 = .ok (.iconst 1, 1) := by decide +kernel
theorem dX6_open_3 : decode cX6_open 3 = .ok (.aload_n 0, 1) := by decide +kernel
theorem dX6_open_4 : decode cX6_open 4 = .ok (.getfield 12, 3) := by decide +kernel
theorem dX6_open_7 : decode cX6_open 7 = .ok (.getfield 88, 3) := by decide +kernel
theorem dX6_open_10 : decode cX6_open 10 = .ok (.ishl, 1) := by decide +kernel
theorem dX6_open_11 : decode cX6_open 11 = .ok (.iconst 1, 1) := by decide +kernel
theorem dX6_open_12 : decode cX6_open 12 = .ok (.isub, 1) := by decide +kernel
theorem dX6_open_13 : decode cX6_open 13 = .ok (.invokestatic 77, 3) := by decide +kernel
theorem dX6_open_16 : decode cX6_open 16 = .ok (.ifCond .eq 11, 3) := by decide +kernel
theorem dX6_open_19 : decode cX6_open 19 = .ok (.aload_n 0, 1) := by decide +kernel
theorem dX6_open_20 : decode cX6_open 20 = .ok (.iload_n 1, 1) := by decide +kernel
theorem dX6_open_21 : decode cX6_open 21 = .ok (.invokevirtual 216, 3) := by decide +kernel
theorem dX6_open_24 : decode cX6_open 24 = .ok (.goto 5, 3) := by decide +kernel
theorem dX6_open_27 : decode cX6_open 27 = .ok (.bipush (-2), 2) := by decide +kernel
theorem dX6_open_29 : decode cX6_open 29 = .ok (.ireturn, 1) := by decide +kernel
theorem dX6_best_0 : decode cX6_best 0 = .ok (.iload_n 1, 1) := by decide +kernel
theorem dX6_best_1 : decode cX6_best 1 = .ok (.iconst 0, 1) := by decide +kernel
theorem dX6_best_2 : decode cX6_best 2 = .ok (.aload_n 0, 1) := by decide +kernel
theorem dX6_best_3 : decode cX6_best 3 = .ok (.getfield 12, 3) := by decide +kernel
theorem dX6_best_6 : decode cX6_best 6 = .ok (.getfield 88, 3) := by decide +kernel
theorem dX6_best_9 : decode cX6_best 9 = .ok (.invokestatic 77, 3) := by decide +kernel
theorem dX6_best_12 : decode cX6_best 12 = .ok (.ifCond .ne 6, 3) := by decide +kernel
theorem dX6_best_15 : decode cX6_best 15 = .ok (.bipush (-2), 2) := by decide +kernel
theorem dX6_best_17 : decode cX6_best 17 = .ok (.ireturn, 1) := by decide +kernel
theorem dX6_best_18 : decode cX6_best 18 = .ok (.bipush (-9), 2) := by decide +kernel
theorem dX6_best_20 : decode cX6_best 20 = .ok (.istore_n 2, 1) := by decide +kernel
theorem dX6_best_21 : decode cX6_best 21 = .ok (.ldc 181, 2) := by decide +kernel
theorem dX6_best_23 : decode cX6_best 23 = .ok (.istore_n 3, 1) := by decide +kernel
theorem dX6_best_24 : decode cX6_best 24 = .ok (.iconst 0, 1) := by decide +kernel
theorem dX6_best_25 : decode cX6_best 25 = .ok (.istore 4, 2) := by decide +kernel
theorem dX6_best_27 : decode cX6_best 27 = .ok (.iload 4, 2) := by decide +kernel
theorem dX6_best_29 : decode cX6_best 29 = .ok (.iconst 1, 1) := by decide +kernel
theorem dX6_best_30 : decode cX6_best 30 = .ok (.aload_n 0, 1) := by decide +kernel
theorem dX6_best_31 : decode cX6_best 31 = .ok (.getfield 12, 3) := by decide +kernel
theorem dX6_best_34 : decode cX6_best 34 = .ok (.getfield 88, 3) := by decide +kernel
theorem dX6_best_37 : decode cX6_best 37 = .ok (.ishl, 1) := by decide +kernel
theorem dX6_best_38 : decode cX6_best 38 = .ok (.if_icmp .ge 45, 3) := by decide +kernel
theorem dX6_best_41 : decode cX6_best 41 = .ok (.iload 4, 2) := by decide +kernel
theorem dX6_best_43 : decode cX6_best 43 = .ok (.invokestatic 219, 3) := by decide +kernel
theorem dX6_best_46 : decode cX6_best 46 = .ok (.iload_n 1, 1) := by decide +kernel
theorem dX6_best_47 : decode cX6_best 47 = .ok (.if_icmp .ne 30, 3) := by decide +kernel
theorem dX6_best_50 : decode cX6_best 50 = .ok (.aload_n 0, 1) := by decide +kernel
theorem dX6_best_51 : decode cX6_best 51 = .ok (.iload 4, 2) := by decide +kernel
theorem dX6_best_53 : decode cX6_best 53 = .ok (.invokevirtual 216, 3) := by decide +kernel
theorem dX6_best_56 : decode cX6_best 56 = .ok (.istore 5, 2) := by decide +kernel
theorem dX6_best_58 : decode cX6_best 58 = .ok (.iload 5, 2) := by decide +kernel
theorem dX6_best_60 : decode cX6_best 60 = .ok (.bipush (-9), 2) := by decide +kernel
theorem dX6_best_62 : decode cX6_best 62 = .ok (.if_icmp .eq 15, 3) := by decide +kernel
theorem dX6_best_65 : decode cX6_best 65 = .ok (.iload 5, 2) := by decide +kernel
theorem dX6_best_67 : decode cX6_best 67 = .ok (.iload_n 3, 1) := by decide +kernel
theorem dX6_best_68 : decode cX6_best 68 = .ok (.if_icmp .ge 9, 3) := by decide +kernel
theorem dX6_best_71 : decode cX6_best 71 = .ok (.iload 5, 2) := by decide +kernel
theorem dX6_best_73 : decode cX6_best 73 = .ok (.istore_n 3, 1) := by decide +kernel
theorem dX6_best_74 : decode cX6_best 74 = .ok (.iload 4, 2) := by decide +kernel
theorem dX6_best_76 : decode cX6_best 76 = .ok (.istore_n 2, 1) := by decide +kernel
theorem dX6_best_77 : decode cX6_best 77 = .ok (.iinc 4 1, 3) := by decide +kernel
theorem dX6_best_80 : decode cX6_best 80 = .ok (.goto (-53), 3) := by decide +kernel
theorem dX6_best_83 : decode cX6_best 83 = .ok (.iload_n 2, 1) := by decide +kernel
theorem dX6_best_84 : decode cX6_best 84 = .ok (.ireturn, 1) := by decide +kernel
theorem dX6_sheet_0 : decode cX6_sheet 0 = .ok (.aload_n 0, 1) := by decide +kernel
theorem dX6_sheet_1 : decode cX6_sheet 1 = .ok (.iconst 0, 1) := by decide +kernel
theorem dX6_sheet_2 : decode cX6_sheet 2 = .ok (.putfield 224, 3) := by decide +kernel
theorem dX6_sheet_5 : decode cX6_sheet 5 = .ok (.iload_n 1, 1) := by decide +kernel
theorem dX6_sheet_6 : decode cX6_sheet 6 = .ok (.invokestatic 227, 3) := by decide +kernel
theorem dX6_sheet_9 : decode cX6_sheet 9 = .ok (.ifCond .ne 5, 3) := by decide +kernel
theorem dX6_sheet_12 : decode cX6_sheet 12 = .ok (.iconst (-1), 1) := by decide +kernel
theorem dX6_sheet_13 : decode cX6_sheet 13 = .ok (.ireturn, 1) := by decide +kernel
theorem dX6_sheet_14 : decode cX6_sheet 14 = .ok (.iload_n 2, 1) := by decide +kernel
theorem dX6_sheet_15 : decode cX6_sheet 15 = .ok (.invokestatic 230, 3) := by decide +kernel
theorem dX6_sheet_18 : decode cX6_sheet 18 = .ok (.ifCond .eq 9, 3) := by decide +kernel
theorem dX6_sheet_21 : decode cX6_sheet 21 = .ok (.iload_n 3, 1) := by decide +kernel
theorem dX6_sheet_22 : decode cX6_sheet 22 = .ok (.bipush 80, 2) := by decide +kernel
theorem dX6_sheet_24 : decode cX6_sheet 24 = .ok (.if_icmp .le 6, 3) := by decide +kernel
theorem dX6_sheet_27 : decode cX6_sheet 27 = .ok (.bipush (-2), 2) := by decide +kernel
theorem dX6_sheet_29 : decode cX6_sheet 29 = .ok (.ireturn, 1) := by decide +kernel
theorem dX6_sheet_30 : decode cX6_sheet 30 = .ok (.iload_n 3, 1) := by decide +kernel
theorem dX6_sheet_31 : decode cX6_sheet 31 = .ok (.ifCond .ge 9, 3) := by decide +kernel
theorem dX6_sheet_34 : decode cX6_sheet 34 = .ok (.aload_n 0, 1) := by decide +kernel
theorem dX6_sheet_35 : decode cX6_sheet 35 = .ok (.iconst 4, 1) := by decide +kernel
theorem dX6_sheet_36 : decode cX6_sheet 36 = .ok (.invokevirtual 233, 3) := by decide +kernel
theorem dX6_sheet_39 : decode cX6_sheet 39 = .ok (.ireturn, 1) := by decide +kernel
theorem dX6_sheet_40 : decode cX6_sheet 40 = .ok (.aload_n 0, 1) := by decide +kernel
theorem dX6_sheet_41 : decode cX6_sheet 41 = .ok (.getfield 51, 3) := by decide +kernel
theorem dX6_sheet_44 : decode cX6_sheet 44 = .ok (.iload_n 1, 1) := by decide +kernel
theorem dX6_sheet_45 : decode cX6_sheet 45 = .ok (.aaload, 1) := by decide +kernel
theorem dX6_sheet_46 : decode cX6_sheet 46 = .ok (.iload_n 2, 1) := by decide +kernel
theorem dX6_sheet_47 : decode cX6_sheet 47 = .ok (.iload_n 3, 1) := by decide +kernel
theorem dX6_sheet_48 : decode cX6_sheet 48 = .ok (.invokevirtual 236, 3) := by decide +kernel
theorem dX6_sheet_51 : decode cX6_sheet 51 = .ok (.iconst 1, 1) := by decide +kernel
theorem dX6_sheet_52 : decode cX6_sheet 52 = .ok (.ireturn, 1) := by decide +kernel
theorem dX6_lose_0 : decode cX6_lose 0 = .ok (.iload_n 1, 1) := by decide +kernel
theorem dX6_lose_1 : decode cX6_lose 1 = .ok (.invokestatic 227, 3) := by decide +kernel
theorem dX6_lose_4 : decode cX6_lose 4 = .ok (.ifCond .ne 5, 3) := by decide +kernel
theorem dX6_lose_7 : decode cX6_lose 7 = .ok (.iconst (-1), 1) := by decide +kernel
theorem dX6_lose_8 : decode cX6_lose 8 = .ok (.ireturn, 1) := by decide +kernel
theorem dX6_lose_9 : decode cX6_lose 9 = .ok (.aload_n 0, 1) := by decide +kernel
theorem dX6_lose_10 : decode cX6_lose 10 = .ok (.getfield 51, 3) := by decide +kernel
theorem dX6_lose_13 : decode cX6_lose 13 = .ok (.iload_n 1, 1) := by decide +kernel
theorem dX6_lose_14 : decode cX6_lose 14 = .ok (.aaload, 1) := by decide +kernel
theorem dX6_lose_15 : decode cX6_lose 15 = .ok (.getfield 239, 3) := by decide +kernel
theorem dX6_lose_18 : decode cX6_lose 18 = .ok (.ifCond .ne 5, 3) := by decide +kernel
theorem dX6_lose_21 : decode cX6_lose 21 = .ok (.iconst 0, 1) := by decide +kernel
theorem dX6_lose_22 : decode cX6_lose 22 = .ok (.ireturn, 1) := by decide +kernel
theorem dX6_lose_23 : decode cX6_lose 23 = .ok (.aload_n 0, 1) := by decide +kernel
theorem dX6_lose_24 : decode cX6_lose 24 = .ok (.getfield 51, 3) := by decide +kernel
theorem dX6_lose_27 : decode cX6_lose 27 = .ok (.iload_n 1, 1) := by decide +kernel
theorem dX6_lose_28 : decode cX6_lose 28 = .ok (.aaload, 1) := by decide +kernel
theorem dX6_lose_29 : decode cX6_lose 29 = .ok (.iconst 0, 1) := by decide +kernel
theorem dX6_lose_30 : decode cX6_lose 30 = .ok (.putfield 239, 3) := by decide +kernel
theorem dX6_lose_33 : decode cX6_lose 33 = .ok (.iconst 1, 1) := by decide +kernel
theorem dX6_lose_34 : decode cX6_lose 34 = .ok (.ireturn, 1) := by decide +kernel
theorem dX6_put_0 : decode cX6_put 0 = .ok (.aload_n 0, 1) := by decide +kernel
theorem dX6_put_1 : decode cX6_put 1 = .ok (.iconst 0, 1) := by decide +kernel
theorem dX6_put_2 : decode cX6_put 2 = .ok (.putfield 224, 3) := by decide +kernel
theorem dX6_put_5 : decode cX6_put 5 = .ok (.iload_n 1, 1) := by decide +kernel
theorem dX6_put_6 : decode cX6_put 6 = .ok (.invokestatic 227, 3) := by decide +kernel
theorem dX6_put_9 : decode cX6_put 9 = .ok (.ifCond .ne 5, 3) := by decide +kernel
theorem dX6_put_12 : decode cX6_put 12 = .ok (.iconst (-1), 1) := by decide +kernel
theorem dX6_put_13 : decode cX6_put 13 = .ok (.ireturn, 1) := by decide +kernel
theorem dX6_put_14 : decode cX6_put 14 = .ok (.aload_n 0, 1) := by decide +kernel
theorem dX6_put_15 : decode cX6_put 15 = .ok (.getfield 51, 3) := by decide +kernel
theorem dX6_put_18 : decode cX6_put 18 = .ok (.iload_n 1, 1) := by decide +kernel
theorem dX6_put_19 : decode cX6_put 19 = .ok (.aaload, 1) := by decide +kernel
theorem dX6_put_20 : decode cX6_put 20 = .ok (.getfield 239, 3) := by decide +kernel
theorem dX6_put_23 : decode cX6_put 23 = .ok (.ifCond .ne 9, 3) := by decide +kernel
theorem dX6_put_26 : decode cX6_put 26 = .ok (.aload_n 0, 1) := by decide +kernel
theorem dX6_put_27 : decode cX6_put 27 = .ok (.iconst 1, 1) := by decide +kernel
theorem dX6_put_28 : decode cX6_put 28 = .ok (.invokevirtual 233, 3) := by decide +kernel
theorem dX6_put_31 : decode cX6_put 31 = .ok (.ireturn, 1) := by decide +kernel
theorem dX6_put_32 : decode cX6_put 32 = .ok (.aload_n 0, 1) := by decide +kernel
theorem dX6_put_33 : decode cX6_put 33 = .ok (.getfield 51, 3) := by decide +kernel
theorem dX6_put_36 : decode cX6_put 36 = .ok (.iload_n 1, 1) := by decide +kernel
theorem dX6_put_37 : decode cX6_put 37 = .ok (.aaload, 1) := by decide +kernel
theorem dX6_put_38 : decode cX6_put 38 = .ok (.iload_n 2, 1) := by decide +kernel
theorem dX6_put_39 : decode cX6_put 39 = .ok (.invokevirtual 243, 3) := by decide +kernel
theorem dX6_put_42 : decode cX6_put 42 = .ok (.ifCond .ne 9, 3) := by decide +kernel
theorem dX6_put_45 : decode cX6_put 45 = .ok (.aload_n 0, 1) := by decide +kernel
theorem dX6_put_46 : decode cX6_put 46 = .ok (.iconst 3, 1) := by decide +kernel
theorem dX6_put_47 : decode cX6_put 47 = .ok (.invokevirtual 233, 3) := by decide +kernel
theorem dX6_put_50 : decode cX6_put 50 = .ok (.ireturn, 1) := by decide +kernel
theorem dX6_put_51 : decode cX6_put 51 = .ok (.aload_n 0, 1) := by decide +kernel
theorem dX6_put_52 : decode cX6_put 52 = .ok (.getfield 51, 3) := by decide +kernel
theorem dX6_put_55 : decode cX6_put 55 = .ok (.iload_n 1, 1) := by decide +kernel
theorem dX6_put_56 : decode cX6_put 56 = .ok (.aaload, 1) := by decide +kernel
theorem dX6_put_57 : decode cX6_put 57 = .ok (.iload_n 2, 1) := by decide +kernel
theorem dX6_put_58 : decode cX6_put 58 = .ok (.iload_n 3, 1) := by decide +kernel
theorem dX6_put_59 : decode cX6_put 59 = .ok (.invokevirtual 246, 3) := by decide +kernel
theorem dX6_put_62 : decode cX6_put 62 = .ok (.iconst 1, 1) := by decide +kernel
theorem dX6_put_63 : decode cX6_put 63 = .ok (.ireturn, 1) := by decide +kernel
theorem dX6_cell_0 : decode cX6_cell 0 = .ok (.aload_n 0, 1) := by decide +kernel
theorem dX6_cell_1 : decode cX6_cell 1 = .ok (.iconst 0, 1) := by decide +kernel
theorem dX6_cell_2 : decode cX6_cell 2 = .ok (.putfield 224, 3) := by decide +kernel
theorem dX6_cell_5 : decode cX6_cell 5 = .ok (.iload_n 1, 1) := by decide +kernel
theorem dX6_cell_6 : decode cX6_cell 6 = .ok (.invokestatic 227, 3) := by decide +kernel
theorem dX6_cell_9 : decode cX6_cell 9 = .ok (.ifCond .eq 10, 3) := by decide +kernel
theorem dX6_cell_12 : decode cX6_cell 12 = .ok (.iload_n 3, 1) := by decide +kernel
theorem dX6_cell_13 : decode cX6_cell 13 = .ok (.invokestatic 230, 3) := by decide +kernel
theorem dX6_cell_16 : decode cX6_cell 16 = .ok (.ifCond .ne 7, 3) := by decide +kernel
theorem dX6_cell_19 : decode cX6_cell 19 = .ok (.ldc2_w 194, 3) := by decide +kernel
theorem dX6_cell_22 : decode cX6_cell 22 = .ok (.lreturn, 1) := by decide +kernel
theorem dX6_cell_23 : decode cX6_cell 23 = .ok (.aload_n 0, 1) := by decide +kernel
theorem dX6_cell_24 : decode cX6_cell 24 = .ok (.getfield 51, 3) := by decide +kernel
theorem dX6_cell_27 : decode cX6_cell 27 = .ok (.iload_n 1, 1) := by decide +kernel
theorem dX6_cell_28 : decode cX6_cell 28 = .ok (.aaload, 1) := by decide +kernel
theorem dX6_cell_29 : decode cX6_cell 29 = .ok (.astore 4, 2) := by decide +kernel
theorem dX6_cell_31 : decode cX6_cell 31 = .ok (.aload 4, 2) := by decide +kernel
theorem dX6_cell_33 : decode cX6_cell 33 = .ok (.getfield 239, 3) := by decide +kernel
theorem dX6_cell_36 : decode cX6_cell 36 = .ok (.ifCond .ne 11, 3) := by decide +kernel
theorem dX6_cell_39 : decode cX6_cell 39 = .ok (.aload_n 0, 1) := by decide +kernel
theorem dX6_cell_40 : decode cX6_cell 40 = .ok (.iconst 1, 1) := by decide +kernel
theorem dX6_cell_41 : decode cX6_cell 41 = .ok (.putfield 224, 3) := by decide +kernel
theorem dX6_cell_44 : decode cX6_cell 44 = .ok (.goto 46, 3) := by decide +kernel
theorem dX6_cell_47 : decode cX6_cell 47 = .ok (.aload 4, 2) := by decide +kernel
theorem dX6_cell_49 : decode cX6_cell 49 = .ok (.getfield 249, 3) := by decide +kernel
theorem dX6_cell_52 : decode cX6_cell 52 = .ok (.iload_n 3, 1) := by decide +kernel
theorem dX6_cell_53 : decode cX6_cell 53 = .ok (.if_icmp .eq 11, 3) := by decide +kernel
theorem dX6_cell_56 : decode cX6_cell 56 = .ok (.aload_n 0, 1) := by decide +kernel
theorem dX6_cell_57 : decode cX6_cell 57 = .ok (.iconst 2, 1) := by decide +kernel
theorem dX6_cell_58 : decode cX6_cell 58 = .ok (.putfield 224, 3) := by decide +kernel
theorem dX6_cell_61 : decode cX6_cell 61 = .ok (.goto 29, 3) := by decide +kernel
theorem dX6_cell_64 : decode cX6_cell 64 = .ok (.aload 4, 2) := by decide +kernel
theorem dX6_cell_66 : decode cX6_cell 66 = .ok (.iload_n 2, 1) := by decide +kernel
theorem dX6_cell_67 : decode cX6_cell 67 = .ok (.invokevirtual 243, 3) := by decide +kernel
theorem dX6_cell_70 : decode cX6_cell 70 = .ok (.ifCond .ne 11, 3) := by decide +kernel
theorem dX6_cell_73 : decode cX6_cell 73 = .ok (.aload_n 0, 1) := by decide +kernel
theorem dX6_cell_74 : decode cX6_cell 74 = .ok (.iconst 3, 1) := by decide +kernel
theorem dX6_cell_75 : decode cX6_cell 75 = .ok (.putfield 224, 3) := by decide +kernel
theorem dX6_cell_78 : decode cX6_cell 78 = .ok (.goto 12, 3) := by decide +kernel
theorem dX6_cell_81 : decode cX6_cell 81 = .ok (.aload 4, 2) := by decide +kernel
theorem dX6_cell_83 : decode cX6_cell 83 = .ok (.getfield 98, 3) := by decide +kernel
theorem dX6_cell_86 : decode cX6_cell 86 = .ok (.iload_n 2, 1) := by decide +kernel
theorem dX6_cell_87 : decode cX6_cell 87 = .ok (.iaload, 1) := by decide +kernel
theorem dX6_cell_88 : decode cX6_cell 88 = .ok (.i2l, 1) := by decide +kernel
theorem dX6_cell_89 : decode cX6_cell 89 = .ok (.lreturn, 1) := by decide +kernel
theorem dX6_cell_90 : decode cX6_cell 90 = .ok (.ldc2_w 194, 3) := by decide +kernel
theorem dX6_cell_93 : decode cX6_cell 93 = .ok (.lreturn, 1) := by decide +kernel
theorem dX6_copy_0 : decode cX6_copy 0 = .ok (.aload_n 0, 1) := by decide +kernel
theorem dX6_copy_1 : decode cX6_copy 1 = .ok (.iconst 0, 1) := by decide +kernel
theorem dX6_copy_2 : decode cX6_copy 2 = .ok (.putfield 224, 3) := by decide +kernel
theorem dX6_copy_5 : decode cX6_copy 5 = .ok (.iload_n 1, 1) := by decide +kernel
theorem dX6_copy_6 : decode cX6_copy 6 = .ok (.invokestatic 227, 3) := by decide +kernel
theorem dX6_copy_9 : decode cX6_copy 9 = .ok (.ifCond .eq 10, 3) := by decide +kernel
theorem dX6_copy_12 : decode cX6_copy 12 = .ok (.iload_n 3, 1) := by decide +kernel
theorem dX6_copy_13 : decode cX6_copy 13 = .ok (.invokestatic 227, 3) := by decide +kernel
theorem dX6_copy_16 : decode cX6_copy 16 = .ok (.ifCond .ne 5, 3) := by decide +kernel
theorem dX6_copy_19 : decode cX6_copy 19 = .ok (.iconst (-1), 1) := by decide +kernel
theorem dX6_copy_20 : decode cX6_copy 20 = .ok (.ireturn, 1) := by decide +kernel
theorem dX6_copy_21 : decode cX6_copy 21 = .ok (.aload_n 0, 1) := by decide +kernel
theorem dX6_copy_22 : decode cX6_copy 22 = .ok (.getfield 51, 3) := by decide +kernel
theorem dX6_copy_25 : decode cX6_copy 25 = .ok (.iload_n 1, 1) := by decide +kernel
theorem dX6_copy_26 : decode cX6_copy 26 = .ok (.aaload, 1) := by decide +kernel
theorem dX6_copy_27 : decode cX6_copy 27 = .ok (.astore 6, 2) := by decide +kernel
theorem dX6_copy_29 : decode cX6_copy 29 = .ok (.aload_n 0, 1) := by decide +kernel
theorem dX6_copy_30 : decode cX6_copy 30 = .ok (.getfield 51, 3) := by decide +kernel
theorem dX6_copy_33 : decode cX6_copy 33 = .ok (.iload_n 3, 1) := by decide +kernel
theorem dX6_copy_34 : decode cX6_copy 34 = .ok (.aaload, 1) := by decide +kernel
theorem dX6_copy_35 : decode cX6_copy 35 = .ok (.astore 7, 2) := by decide +kernel
theorem dX6_copy_37 : decode cX6_copy 37 = .ok (.aload 6, 2) := by decide +kernel
theorem dX6_copy_39 : decode cX6_copy 39 = .ok (.getfield 239, 3) := by decide +kernel
theorem dX6_copy_42 : decode cX6_copy 42 = .ok (.ifCond .eq 11, 3) := by decide +kernel
theorem dX6_copy_45 : decode cX6_copy 45 = .ok (.aload 7, 2) := by decide +kernel
theorem dX6_copy_47 : decode cX6_copy 47 = .ok (.getfield 239, 3) := by decide +kernel
theorem dX6_copy_50 : decode cX6_copy 50 = .ok (.ifCond .ne 9, 3) := by decide +kernel
theorem dX6_copy_53 : decode cX6_copy 53 = .ok (.aload_n 0, 1) := by decide +kernel
theorem dX6_copy_54 : decode cX6_copy 54 = .ok (.iconst 1, 1) := by decide +kernel
theorem dX6_copy_55 : decode cX6_copy 55 = .ok (.invokevirtual 233, 3) := by decide +kernel
theorem dX6_copy_58 : decode cX6_copy 58 = .ok (.ireturn, 1) := by decide +kernel
theorem dX6_copy_59 : decode cX6_copy 59 = .ok (.aload 6, 2) := by decide +kernel
theorem dX6_copy_61 : decode cX6_copy 61 = .ok (.getfield 249, 3) := by decide +kernel
theorem dX6_copy_64 : decode cX6_copy 64 = .ok (.aload 7, 2) := by decide +kernel
theorem dX6_copy_66 : decode cX6_copy 66 = .ok (.getfield 249, 3) := by decide +kernel
theorem dX6_copy_69 : decode cX6_copy 69 = .ok (.if_icmp .eq 9, 3) := by decide +kernel
theorem dX6_copy_72 : decode cX6_copy 72 = .ok (.aload_n 0, 1) := by decide +kernel
theorem dX6_copy_73 : decode cX6_copy 73 = .ok (.iconst 2, 1) := by decide +kernel
theorem dX6_copy_74 : decode cX6_copy 74 = .ok (.invokevirtual 233, 3) := by decide +kernel
theorem dX6_copy_77 : decode cX6_copy 77 = .ok (.ireturn, 1) := by decide +kernel
theorem dX6_copy_78 : decode cX6_copy 78 = .ok (.iload 5, 2) := by decide +kernel
theorem dX6_copy_80 : decode cX6_copy 80 = .ok (.ifCond .lt 26, 3) := by decide +kernel
theorem dX6_copy_83 : decode cX6_copy 83 = .ok (.aload 6, 2) := by decide +kernel
theorem dX6_copy_85 : decode cX6_copy 85 = .ok (.iload_n 2, 1) := by decide +kernel
theorem dX6_copy_86 : decode cX6_copy 86 = .ok (.iload 5, 2) := by decide +kernel
theorem dX6_copy_88 : decode cX6_copy 88 = .ok (.invokevirtual 252, 3) := by decide +kernel
theorem dX6_copy_91 : decode cX6_copy 91 = .ok (.ifCond .eq 15, 3) := by decide +kernel
theorem dX6_copy_94 : decode cX6_copy 94 = .ok (.aload 7, 2) := by decide +kernel
theorem dX6_copy_96 : decode cX6_copy 96 = .ok (.iload 4, 2) := by decide +kernel
theorem dX6_copy_98 : decode cX6_copy 98 = .ok (.iload 5, 2) := by decide +kernel
theorem dX6_copy_100 : decode cX6_copy 100 = .ok (.invokevirtual 252, 3) := by decide +kernel
theorem dX6_copy_103 : decode cX6_copy 103 = .ok (.ifCond .ne 9, 3) := by decide +kernel
theorem dX6_copy_106 : decode cX6_copy 106 = .ok (.aload_n 0, 1) := by decide +kernel
theorem dX6_copy_107 : decode cX6_copy 107 = .ok (.iconst 3, 1) := by decide +kernel
theorem dX6_copy_108 : decode cX6_copy 108 = .ok (.invokevirtual 233, 3) := by decide +kernel
theorem dX6_copy_111 : decode cX6_copy 111 = .ok (.ireturn, 1) := by decide +kernel
theorem dX6_copy_112 : decode cX6_copy 112 = .ok (.aload 6, 2) := by decide +kernel
theorem dX6_copy_114 : decode cX6_copy 114 = .ok (.getfield 98, 3) := by decide +kernel
theorem dX6_copy_117 : decode cX6_copy 117 = .ok (.iload_n 2, 1) := by decide +kernel
theorem dX6_copy_118 : decode cX6_copy 118 = .ok (.aload 7, 2) := by decide +kernel
theorem dX6_copy_120 : decode cX6_copy 120 = .ok (.getfield 98, 3) := by decide +kernel
theorem dX6_copy_123 : decode cX6_copy 123 = .ok (.iload 4, 2) := by decide +kernel
theorem dX6_copy_125 : decode cX6_copy 125 = .ok (.iload 5, 2) := by decide +kernel
theorem dX6_copy_127 : decode cX6_copy 127 = .ok (.invokestatic 255, 3) := by decide +kernel
theorem dX6_copy_130 : decode cX6_copy 130 = .ok (.iload 5, 2) := by decide +kernel
theorem dX6_copy_132 : decode cX6_copy 132 = .ok (.ireturn, 1) := by decide +kernel
theorem dX6_tell_0 : decode cX6_tell 0 = .ok (.aload_n 0, 1) := by decide +kernel
theorem dX6_tell_1 : decode cX6_tell 1 = .ok (.getfield 12, 3) := by decide +kernel
theorem dX6_tell_4 : decode cX6_tell 4 = .ok (.iload_n 1, 1) := by decide +kernel
theorem dX6_tell_5 : decode cX6_tell 5 = .ok (.invokevirtual 125, 3) := by decide +kernel
theorem dX6_tell_8 : decode cX6_tell 8 = .ok (.ifCond .eq 31, 3) := by decide +kernel
theorem dX6_tell_11 : decode cX6_tell 11 = .ok (.aload_n 0, 1) := by decide +kernel
theorem dX6_tell_12 : decode cX6_tell 12 = .ok (.getfield 45, 3) := by decide +kernel
theorem dX6_tell_15 : decode cX6_tell 15 = .ok (.aload_n 0, 1) := by decide +kernel
theorem dX6_tell_16 : decode cX6_tell 16 = .ok (.getfield 12, 3) := by decide +kernel
theorem dX6_tell_19 : decode cX6_tell 19 = .ok (.getfield 128, 3) := by decide +kernel
theorem dX6_tell_22 : decode cX6_tell 22 = .ok (.iload_n 1, 1) := by decide +kernel
theorem dX6_tell_23 : decode cX6_tell 23 = .ok (.iaload, 1) := by decide +kernel
theorem dX6_tell_24 : decode cX6_tell 24 = .ok (.aload_n 0, 1) := by decide +kernel
theorem dX6_tell_25 : decode cX6_tell 25 = .ok (.getfield 12, 3) := by decide +kernel
theorem dX6_tell_28 : decode cX6_tell 28 = .ok (.getfield 137, 3) := by decide +kernel
theorem dX6_tell_31 : decode cX6_tell 31 = .ok (.iload_n 1, 1) := by decide +kernel
theorem dX6_tell_32 : decode cX6_tell 32 = .ok (.iaload, 1) := by decide +kernel
theorem dX6_tell_33 : decode cX6_tell 33 = .ok (.invokevirtual 261, 3) := by decide +kernel
theorem dX6_tell_36 : decode cX6_tell 36 = .ok (.goto 4, 3) := by decide +kernel
theorem dX6_tell_39 : decode cX6_tell 39 = .ok (.iconst (-1), 1) := by decide +kernel
theorem dX6_tell_40 : decode cX6_tell 40 = .ok (.ireturn, 1) := by decide +kernel
theorem dX6_ring_0 : decode cX6_ring 0 = .ok (.aload_n 0, 1) := by decide +kernel
theorem dX6_ring_1 : decode cX6_ring 1 = .ok (.getfield 12, 3) := by decide +kernel
theorem dX6_ring_4 : decode cX6_ring 4 = .ok (.iload_n 1, 1) := by decide +kernel
theorem dX6_ring_5 : decode cX6_ring 5 = .ok (.invokevirtual 125, 3) := by decide +kernel
theorem dX6_ring_8 : decode cX6_ring 8 = .ok (.ifCond .eq 23, 3) := by decide +kernel
theorem dX6_ring_11 : decode cX6_ring 11 = .ok (.aload_n 0, 1) := by decide +kernel
theorem dX6_ring_12 : decode cX6_ring 12 = .ok (.getfield 45, 3) := by decide +kernel
theorem dX6_ring_15 : decode cX6_ring 15 = .ok (.aload_n 0, 1) := by decide +kernel
theorem dX6_ring_16 : decode cX6_ring 16 = .ok (.getfield 12, 3) := by decide +kernel
theorem dX6_ring_19 : decode cX6_ring 19 = .ok (.getfield 128, 3) := by decide +kernel
theorem dX6_ring_22 : decode cX6_ring 22 = .ok (.iload_n 1, 1) := by decide +kernel
theorem dX6_ring_23 : decode cX6_ring 23 = .ok (.iaload, 1) := by decide +kernel
theorem dX6_ring_24 : decode cX6_ring 24 = .ok (.iload_n 1, 1) := by decide +kernel
theorem dX6_ring_25 : decode cX6_ring 25 = .ok (.invokevirtual 264, 3) := by decide +kernel
theorem dX6_ring_28 : decode cX6_ring 28 = .ok (.goto 4, 3) := by decide +kernel
theorem dX6_ring_31 : decode cX6_ring 31 = .ok (.iconst (-1), 1) := by decide +kernel
theorem dX6_ring_32 : decode cX6_ring 32 = .ok (.ireturn, 1) := by decide +kernel
theorem dX6_as_0 : decode cX6_as 0 = .ok (.aload_n 0, 1) := by decide +kernel
theorem dX6_as_1 : decode cX6_as 1 = .ok (.iconst 0, 1) := by decide +kernel
theorem dX6_as_2 : decode cX6_as 2 = .ok (.putfield 224, 3) := by decide +kernel
theorem dX6_as_5 : decode cX6_as 5 = .ok (.aload_n 0, 1) := by decide +kernel
theorem dX6_as_6 : decode cX6_as 6 = .ok (.getfield 12, 3) := by decide +kernel
theorem dX6_as_9 : decode cX6_as 9 = .ok (.iload_n 1, 1) := by decide +kernel
theorem dX6_as_10 : decode cX6_as 10 = .ok (.invokevirtual 125, 3) := by decide +kernel
theorem dX6_as_13 : decode cX6_as 13 = .ok (.ifCond .ne 5, 3) := by decide +kernel
theorem dX6_as_16 : decode cX6_as 16 = .ok (.iconst (-1), 1) := by decide +kernel
theorem dX6_as_17 : decode cX6_as 17 = .ok (.ireturn, 1) := by decide +kernel
theorem dX6_as_18 : decode cX6_as 18 = .ok (.iload_n 2, 1) := by decide +kernel
theorem dX6_as_19 : decode cX6_as 19 = .ok (.iconst 0, 1) := by decide +kernel
theorem dX6_as_20 : decode cX6_as 20 = .ok (.iconst 2, 1) := by decide +kernel
theorem dX6_as_21 : decode cX6_as 21 = .ok (.invokestatic 77, 3) := by decide +kernel
theorem dX6_as_24 : decode cX6_as 24 = .ok (.ifCond .ne 6, 3) := by decide +kernel
theorem dX6_as_27 : decode cX6_as 27 = .ok (.bipush (-2), 2) := by decide +kernel
theorem dX6_as_29 : decode cX6_as 29 = .ok (.ireturn, 1) := by decide +kernel
theorem dX6_as_30 : decode cX6_as 30 = .ok (.aload_n 0, 1) := by decide +kernel
theorem dX6_as_31 : decode cX6_as 31 = .ok (.getfield 12, 3) := by decide +kernel
theorem dX6_as_34 : decode cX6_as 34 = .ok (.getfield 128, 3) := by decide +kernel
theorem dX6_as_37 : decode cX6_as 37 = .ok (.iload_n 1, 1) := by decide +kernel
theorem dX6_as_38 : decode cX6_as 38 = .ok (.iaload, 1) := by decide +kernel
theorem dX6_as_39 : decode cX6_as 39 = .ok (.iload_n 2, 1) := by decide +kernel
theorem dX6_as_40 : decode cX6_as 40 = .ok (.if_icmp .ge 11, 3) := by decide +kernel
theorem dX6_as_43 : decode cX6_as 43 = .ok (.aload_n 0, 1) := by decide +kernel
theorem dX6_as_44 : decode cX6_as 44 = .ok (.iconst 2, 1) := by decide +kernel
theorem dX6_as_45 : decode cX6_as 45 = .ok (.invokevirtual 233, 3) := by decide +kernel
theorem dX6_as_48 : decode cX6_as 48 = .ok (.goto 4, 3) := by decide +kernel
theorem dX6_as_51 : decode cX6_as 51 = .ok (.iconst 1, 1) := by decide +kernel
theorem dX6_as_52 : decode cX6_as 52 = .ok (.ireturn, 1) := by decide +kernel
theorem dX6_trace_0 : decode cX6_trace 0 = .ok (.aload_n 0, 1) := by decide +kernel
theorem dX6_trace_1 : decode cX6_trace 1 = .ok (.getfield 45, 3) := by decide +kernel
theorem dX6_trace_4 : decode cX6_trace 4 = .ok (.getfield 267, 3) := by decide +kernel
theorem dX6_trace_7 : decode cX6_trace 7 = .ok (.ireturn, 1) := by decide +kernel
theorem dX6_fault_0 : decode cX6_fault 0 = .ok (.aload_n 0, 1) := by decide +kernel
theorem dX6_fault_1 : decode cX6_fault 1 = .ok (.getfield 224, 3) := by decide +kernel
theorem dX6_fault_4 : decode cX6_fault 4 = .ok (.ireturn, 1) := by decide +kernel
theorem dX6_many_0 : decode cX6_many 0 = .ok (.iload_n 1, 1) := by decide +kernel
theorem dX6_many_1 : decode cX6_many 1 = .ok (.tableswitch 92 0 4 #[35, 43, 51, 56, 74], 35) := by decide +kernel
theorem dX6_many_36 : decode cX6_many 36 = .ok (.aload_n 0, 1) := by decide +kernel
theorem dX6_many_37 : decode cX6_many 37 = .ok (.getfield 12, 3) := by decide +kernel
theorem dX6_many_40 : decode cX6_many 40 = .ok (.getfield 81, 3) := by decide +kernel
theorem dX6_many_43 : decode cX6_many 43 = .ok (.ireturn, 1) := by decide +kernel
theorem dX6_many_44 : decode cX6_many 44 = .ok (.aload_n 0, 1) := by decide +kernel
theorem dX6_many_45 : decode cX6_many 45 = .ok (.getfield 12, 3) := by decide +kernel
theorem dX6_many_48 : decode cX6_many 48 = .ok (.getfield 88, 3) := by decide +kernel
theorem dX6_many_51 : decode cX6_many 51 = .ok (.ireturn, 1) := by decide +kernel
theorem dX6_many_52 : decode cX6_many 52 = .ok (.aload_n 0, 1) := by decide +kernel
theorem dX6_many_53 : decode cX6_many 53 = .ok (.getfield 206, 3) := by decide +kernel
theorem dX6_many_56 : decode cX6_many 56 = .ok (.ireturn, 1) := by decide +kernel
theorem dX6_many_57 : decode cX6_many 57 = .ok (.aload_n 0, 1) := by decide +kernel
theorem dX6_many_58 : decode cX6_many 58 = .ok (.getfield 12, 3) := by decide +kernel
theorem dX6_many_61 : decode cX6_many 61 = .ok (.getfield 122, 3) := by decide +kernel
theorem dX6_many_64 : decode cX6_many 64 = .ok (.aload_n 0, 1) := by decide +kernel
theorem dX6_many_65 : decode cX6_many 65 = .ok (.getfield 12, 3) := by decide +kernel
theorem dX6_many_68 : decode cX6_many 68 = .ok (.getfield 81, 3) := by decide +kernel
theorem dX6_many_71 : decode cX6_many 71 = .ok (.invokestatic 270, 3) := by decide +kernel
theorem dX6_many_74 : decode cX6_many 74 = .ok (.ireturn, 1) := by decide +kernel
theorem dX6_many_75 : decode cX6_many 75 = .ok (.aload_n 0, 1) := by decide +kernel
theorem dX6_many_76 : decode cX6_many 76 = .ok (.getfield 12, 3) := by decide +kernel
theorem dX6_many_79 : decode cX6_many 79 = .ok (.getfield 137, 3) := by decide +kernel
theorem dX6_many_82 : decode cX6_many 82 = .ok (.aload_n 0, 1) := by decide +kernel
theorem dX6_many_83 : decode cX6_many 83 = .ok (.getfield 12, 3) := by decide +kernel
theorem dX6_many_86 : decode cX6_many 86 = .ok (.getfield 88, 3) := by decide +kernel
theorem dX6_many_89 : decode cX6_many 89 = .ok (.invokestatic 270, 3) := by decide +kernel
theorem dX6_many_92 : decode cX6_many 92 = .ok (.ireturn, 1) := by decide +kernel
theorem dX6_many_93 : decode cX6_many 93 = .ok (.bipush (-2), 2) := by decide +kernel
theorem dX6_many_95 : decode cX6_many 95 = .ok (.ireturn, 1) := by decide +kernel
theorem dX6_isWithin_0 : decode cX6_isWithin 0 = .ok (.iload_n 0, 1) := by decide +kernel
theorem dX6_isWithin_1 : decode cX6_isWithin 1 = .ok (.iload_n 1, 1) := by decide +kernel
theorem dX6_isWithin_2 : decode cX6_isWithin 2 = .ok (.if_icmp .lt 12, 3) := by decide +kernel
theorem dX6_isWithin_5 : decode cX6_isWithin 5 = .ok (.iload_n 0, 1) := by decide +kernel
theorem dX6_isWithin_6 : decode cX6_isWithin 6 = .ok (.iload_n 2, 1) := by decide +kernel
theorem dX6_isWithin_7 : decode cX6_isWithin 7 = .ok (.if_icmp .gt 7, 3) := by decide +kernel
theorem dX6_isWithin_10 : decode cX6_isWithin 10 = .ok (.iconst 1, 1) := by decide +kernel
theorem dX6_isWithin_11 : decode cX6_isWithin 11 = .ok (.goto 4, 3) := by decide +kernel
theorem dX6_isWithin_14 : decode cX6_isWithin 14 = .ok (.iconst 0, 1) := by decide +kernel
theorem dX6_isWithin_15 : decode cX6_isWithin 15 = .ok (.ireturn, 1) := by decide +kernel
theorem dX6_isSpot_0 : decode cX6_isSpot 0 = .ok (.iload_n 0, 1) := by decide +kernel
theorem dX6_isSpot_1 : decode cX6_isSpot 1 = .ok (.iconst 0, 1) := by decide +kernel
theorem dX6_isSpot_2 : decode cX6_isSpot 2 = .ok (.bipush 60, 2) := by decide +kernel
theorem dX6_isSpot_4 : decode cX6_isSpot 4 = .ok (.invokestatic 77, 3) := by decide +kernel
theorem dX6_isSpot_7 : decode cX6_isSpot 7 = .ok (.ifCond .eq 17, 3) := by decide +kernel
theorem dX6_isSpot_10 : decode cX6_isSpot 10 = .ok (.iload_n 1, 1) := by decide +kernel
theorem dX6_isSpot_11 : decode cX6_isSpot 11 = .ok (.iconst 0, 1) := by decide +kernel
theorem dX6_isSpot_12 : decode cX6_isSpot 12 = .ok (.bipush 60, 2) := by decide +kernel
theorem dX6_isSpot_14 : decode cX6_isSpot 14 = .ok (.invokestatic 77, 3) := by decide +kernel
theorem dX6_isSpot_17 : decode cX6_isSpot 17 = .ok (.ifCond .eq 7, 3) := by decide +kernel
theorem dX6_isSpot_20 : decode cX6_isSpot 20 = .ok (.iconst 1, 1) := by decide +kernel
theorem dX6_isSpot_21 : decode cX6_isSpot 21 = .ok (.goto 4, 3) := by decide +kernel
theorem dX6_isSpot_24 : decode cX6_isSpot 24 = .ok (.iconst 0, 1) := by decide +kernel
theorem dX6_isSpot_25 : decode cX6_isSpot 25 = .ok (.ireturn, 1) := by decide +kernel
theorem dX6_isSheet_0 : decode cX6_isSheet 0 = .ok (.iload_n 0, 1) := by decide +kernel
theorem dX6_isSheet_1 : decode cX6_isSheet 1 = .ok (.iconst 0, 1) := by decide +kernel
theorem dX6_isSheet_2 : decode cX6_isSheet 2 = .ok (.iconst 3, 1) := by decide +kernel
theorem dX6_isSheet_3 : decode cX6_isSheet 3 = .ok (.invokestatic 77, 3) := by decide +kernel
theorem dX6_isSheet_6 : decode cX6_isSheet 6 = .ok (.ireturn, 1) := by decide +kernel
theorem dX6_isLane_0 : decode cX6_isLane 0 = .ok (.iload_n 0, 1) := by decide +kernel
theorem dX6_isLane_1 : decode cX6_isLane 1 = .ok (.iconst 0, 1) := by decide +kernel
theorem dX6_isLane_2 : decode cX6_isLane 2 = .ok (.iconst 2, 1) := by decide +kernel
theorem dX6_isLane_3 : decode cX6_isLane 3 = .ok (.invokestatic 77, 3) := by decide +kernel
theorem dX6_isLane_6 : decode cX6_isLane 6 = .ok (.ireturn, 1) := by decide +kernel
theorem dX6_sumOf_0 : decode cX6_sumOf 0 = .ok (.iconst 0, 1) := by decide +kernel
theorem dX6_sumOf_1 : decode cX6_sumOf 1 = .ok (.istore_n 2, 1) := by decide +kernel
theorem dX6_sumOf_2 : decode cX6_sumOf 2 = .ok (.iconst 0, 1) := by decide +kernel
theorem dX6_sumOf_3 : decode cX6_sumOf 3 = .ok (.istore_n 3, 1) := by decide +kernel
theorem dX6_sumOf_4 : decode cX6_sumOf 4 = .ok (.iload_n 3, 1) := by decide +kernel
theorem dX6_sumOf_5 : decode cX6_sumOf 5 = .ok (.iload_n 1, 1) := by decide +kernel
theorem dX6_sumOf_6 : decode cX6_sumOf 6 = .ok (.if_icmp .ge 21, 3) := by decide +kernel
theorem dX6_sumOf_9 : decode cX6_sumOf 9 = .ok (.iload_n 3, 1) := by decide +kernel
theorem dX6_sumOf_10 : decode cX6_sumOf 10 = .ok (.aload_n 0, 1) := by decide +kernel
theorem dX6_sumOf_11 : decode cX6_sumOf 11 = .ok (.arraylength, 1) := by decide +kernel
theorem dX6_sumOf_12 : decode cX6_sumOf 12 = .ok (.if_icmp .ge 15, 3) := by decide +kernel
theorem dX6_sumOf_15 : decode cX6_sumOf 15 = .ok (.iload_n 2, 1) := by decide +kernel
theorem dX6_sumOf_16 : decode cX6_sumOf 16 = .ok (.aload_n 0, 1) := by decide +kernel
theorem dX6_sumOf_17 : decode cX6_sumOf 17 = .ok (.iload_n 3, 1) := by decide +kernel
theorem dX6_sumOf_18 : decode cX6_sumOf 18 = .ok (.iaload, 1) := by decide +kernel
theorem dX6_sumOf_19 : decode cX6_sumOf 19 = .ok (.iadd, 1) := by decide +kernel
theorem dX6_sumOf_20 : decode cX6_sumOf 20 = .ok (.istore_n 2, 1) := by decide +kernel
theorem dX6_sumOf_21 : decode cX6_sumOf 21 = .ok (.iinc 3 1, 3) := by decide +kernel
theorem dX6_sumOf_24 : decode cX6_sumOf 24 = .ok (.goto (-20), 3) := by decide +kernel
theorem dX6_sumOf_27 : decode cX6_sumOf 27 = .ok (.iload_n 2, 1) := by decide +kernel
theorem dX6_sumOf_28 : decode cX6_sumOf 28 = .ok (.ireturn, 1) := by decide +kernel
theorem dX6_faulty_0 : decode cX6_faulty 0 = .ok (.aload_n 0, 1) := by decide +kernel
theorem dX6_faulty_1 : decode cX6_faulty 1 = .ok (.iload_n 1, 1) := by decide +kernel
theorem dX6_faulty_2 : decode cX6_faulty 2 = .ok (.putfield 224, 3) := by decide +kernel
theorem dX6_faulty_5 : decode cX6_faulty 5 = .ok (.bipush (-10), 2) := by decide +kernel
theorem dX6_faulty_7 : decode cX6_faulty 7 = .ok (.iload_n 1, 1) := by decide +kernel
theorem dX6_faulty_8 : decode cX6_faulty 8 = .ok (.isub, 1) := by decide +kernel
theorem dX6_faulty_9 : decode cX6_faulty 9 = .ok (.ireturn, 1) := by decide +kernel
theorem dX6_refusalOfRow_0 : decode cX6_refusalOfRow 0 = .ok (.aload_n 0, 1) := by decide +kernel
theorem dX6_refusalOfRow_1 : decode cX6_refusalOfRow 1 = .ok (.iconst 0, 1) := by decide +kernel
theorem dX6_refusalOfRow_2 : decode cX6_refusalOfRow 2 = .ok (.putfield 224, 3) := by decide +kernel
theorem dX6_refusalOfRow_5 : decode cX6_refusalOfRow 5 = .ok (.iload_n 1, 1) := by decide +kernel
theorem dX6_refusalOfRow_6 : decode cX6_refusalOfRow 6 = .ok (.invokestatic 227, 3) := by decide +kernel
theorem dX6_refusalOfRow_9 : decode cX6_refusalOfRow 9 = .ok (.ifCond .ne 5, 3) := by decide +kernel
theorem dX6_refusalOfRow_12 : decode cX6_refusalOfRow 12 = .ok (.iconst (-1), 1) := by decide +kernel
theorem dX6_refusalOfRow_13 : decode cX6_refusalOfRow 13 = .ok (.ireturn, 1) := by decide +kernel
theorem dX6_refusalOfRow_14 : decode cX6_refusalOfRow 14 = .ok (.iload_n 2, 1) := by decide +kernel
theorem dX6_refusalOfRow_15 : decode cX6_refusalOfRow 15 = .ok (.invokestatic 230, 3) := by decide +kernel
theorem dX6_refusalOfRow_18 : decode cX6_refusalOfRow 18 = .ok (.ifCond .ne 6, 3) := by decide +kernel
theorem dX6_refusalOfRow_21 : decode cX6_refusalOfRow 21 = .ok (.bipush (-2), 2) := by decide +kernel
theorem dX6_refusalOfRow_23 : decode cX6_refusalOfRow 23 = .ok (.ireturn, 1) := by decide +kernel
theorem dX6_refusalOfRow_24 : decode cX6_refusalOfRow 24 = .ok (.aload_n 0, 1) := by decide +kernel
theorem dX6_refusalOfRow_25 : decode cX6_refusalOfRow 25 = .ok (.getfield 51, 3) := by decide +kernel
theorem dX6_refusalOfRow_28 : decode cX6_refusalOfRow 28 = .ok (.iload_n 1, 1) := by decide +kernel
theorem dX6_refusalOfRow_29 : decode cX6_refusalOfRow 29 = .ok (.aaload, 1) := by decide +kernel
theorem dX6_refusalOfRow_30 : decode cX6_refusalOfRow 30 = .ok (.astore 5, 2) := by decide +kernel
theorem dX6_refusalOfRow_32 : decode cX6_refusalOfRow 32 = .ok (.aload 5, 2) := by decide +kernel
theorem dX6_refusalOfRow_34 : decode cX6_refusalOfRow 34 = .ok (.getfield 239, 3) := by decide +kernel
theorem dX6_refusalOfRow_37 : decode cX6_refusalOfRow 37 = .ok (.ifCond .ne 9, 3) := by decide +kernel
theorem dX6_refusalOfRow_40 : decode cX6_refusalOfRow 40 = .ok (.aload_n 0, 1) := by decide +kernel
theorem dX6_refusalOfRow_41 : decode cX6_refusalOfRow 41 = .ok (.iconst 1, 1) := by decide +kernel
theorem dX6_refusalOfRow_42 : decode cX6_refusalOfRow 42 = .ok (.invokevirtual 233, 3) := by decide +kernel
theorem dX6_refusalOfRow_45 : decode cX6_refusalOfRow 45 = .ok (.ireturn, 1) := by decide +kernel
theorem dX6_refusalOfRow_46 : decode cX6_refusalOfRow 46 = .ok (.aload 5, 2) := by decide +kernel
theorem dX6_refusalOfRow_48 : decode cX6_refusalOfRow 48 = .ok (.getfield 249, 3) := by decide +kernel
theorem dX6_refusalOfRow_51 : decode cX6_refusalOfRow 51 = .ok (.iload_n 2, 1) := by decide +kernel
theorem dX6_refusalOfRow_52 : decode cX6_refusalOfRow 52 = .ok (.if_icmp .eq 9, 3) := by decide +kernel
theorem dX6_refusalOfRow_55 : decode cX6_refusalOfRow 55 = .ok (.aload_n 0, 1) := by decide +kernel
theorem dX6_refusalOfRow_56 : decode cX6_refusalOfRow 56 = .ok (.iconst 2, 1) := by decide +kernel
theorem dX6_refusalOfRow_57 : decode cX6_refusalOfRow 57 = .ok (.invokevirtual 233, 3) := by decide +kernel
theorem dX6_refusalOfRow_60 : decode cX6_refusalOfRow 60 = .ok (.ireturn, 1) := by decide +kernel
theorem dX6_refusalOfRow_61 : decode cX6_refusalOfRow 61 = .ok (.iload 4, 2) := by decide +kernel
theorem dX6_refusalOfRow_63 : decode cX6_refusalOfRow 63 = .ok (.ifCond .ge 9, 3) := by decide +kernel
theorem dX6_refusalOfRow_66 : decode cX6_refusalOfRow 66 = .ok (.aload_n 0, 1) := by decide +kernel
theorem dX6_refusalOfRow_67 : decode cX6_refusalOfRow 67 = .ok (.iconst 4, 1) := by decide +kernel
theorem dX6_refusalOfRow_68 : decode cX6_refusalOfRow 68 = .ok (.invokevirtual 233, 3) := by decide +kernel
theorem dX6_refusalOfRow_71 : decode cX6_refusalOfRow 71 = .ok (.ireturn, 1) := by decide +kernel
theorem dX6_refusalOfRow_72 : decode cX6_refusalOfRow 72 = .ok (.aload 5, 2) := by decide +kernel
theorem dX6_refusalOfRow_74 : decode cX6_refusalOfRow 74 = .ok (.iload_n 3, 1) := by decide +kernel
theorem dX6_refusalOfRow_75 : decode cX6_refusalOfRow 75 = .ok (.iload 4, 2) := by decide +kernel
theorem dX6_refusalOfRow_77 : decode cX6_refusalOfRow 77 = .ok (.invokevirtual 252, 3) := by decide +kernel
theorem dX6_refusalOfRow_80 : decode cX6_refusalOfRow 80 = .ok (.ifCond .eq 7, 3) := by decide +kernel
theorem dX6_refusalOfRow_83 : decode cX6_refusalOfRow 83 = .ok (.iconst 0, 1) := by decide +kernel
theorem dX6_refusalOfRow_84 : decode cX6_refusalOfRow 84 = .ok (.goto 8, 3) := by decide +kernel
theorem dX6_refusalOfRow_87 : decode cX6_refusalOfRow 87 = .ok (.aload_n 0, 1) := by decide +kernel
theorem dX6_refusalOfRow_88 : decode cX6_refusalOfRow 88 = .ok (.iconst 3, 1) := by decide +kernel
theorem dX6_refusalOfRow_89 : decode cX6_refusalOfRow 89 = .ok (.invokevirtual 233, 3) := by decide +kernel
theorem dX6_refusalOfRow_92 : decode cX6_refusalOfRow 92 = .ok (.ireturn, 1) := by decide +kernel
theorem dX6_leastMiles_0 : decode cX6_leastMiles 0 = .ok (.aload_n 0, 1) := by decide +kernel
theorem dX6_leastMiles_1 : decode cX6_leastMiles 1 = .ok (.getfield 62, 3) := by decide +kernel
theorem dX6_leastMiles_4 : decode cX6_leastMiles 4 = .ok (.aload_n 0, 1) := by decide +kernel
theorem dX6_leastMiles_5 : decode cX6_leastMiles 5 = .ok (.getfield 12, 3) := by decide +kernel
theorem dX6_leastMiles_8 : decode cX6_leastMiles 8 = .ok (.getfield 274, 3) := by decide +kernel
theorem dX6_leastMiles_11 : decode cX6_leastMiles 11 = .ok (.if_icmp .eq 52, 3) := by decide +kernel
theorem dX6_leastMiles_14 : decode cX6_leastMiles 14 = .ok (.aload_n 0, 1) := by decide +kernel
theorem dX6_leastMiles_15 : decode cX6_leastMiles 15 = .ok (.getfield 28, 3) := by decide +kernel
theorem dX6_leastMiles_18 : decode cX6_leastMiles 18 = .ok (.aload_n 0, 1) := by decide +kernel
theorem dX6_leastMiles_19 : decode cX6_leastMiles 19 = .ok (.getfield 12, 3) := by decide +kernel
theorem dX6_leastMiles_22 : decode cX6_leastMiles 22 = .ok (.invokevirtual 277, 3) := by decide +kernel
theorem dX6_leastMiles_25 : decode cX6_leastMiles 25 = .ok (.aload_n 0, 1) := by decide +kernel
theorem dX6_leastMiles_26 : decode cX6_leastMiles 26 = .ok (.aload_n 0, 1) := by decide +kernel
theorem dX6_leastMiles_27 : decode cX6_leastMiles 27 = .ok (.getfield 28, 3) := by decide +kernel
theorem dX6_leastMiles_30 : decode cX6_leastMiles 30 = .ok (.invokevirtual 281, 3) := by decide +kernel
theorem dX6_leastMiles_33 : decode cX6_leastMiles 33 = .ok (.putfield 284, 3) := by decide +kernel
theorem dX6_leastMiles_36 : decode cX6_leastMiles 36 = .ok (.aload_n 0, 1) := by decide +kernel
theorem dX6_leastMiles_37 : decode cX6_leastMiles 37 = .ok (.getfield 284, 3) := by decide +kernel
theorem dX6_leastMiles_40 : decode cX6_leastMiles 40 = .ok (.bipush (-9), 2) := by decide +kernel
theorem dX6_leastMiles_42 : decode cX6_leastMiles 42 = .ok (.if_icmp .eq 10, 3) := by decide +kernel
theorem dX6_leastMiles_45 : decode cX6_leastMiles 45 = .ok (.aload_n 0, 1) := by decide +kernel
theorem dX6_leastMiles_46 : decode cX6_leastMiles 46 = .ok (.getfield 28, 3) := by decide +kernel
theorem dX6_leastMiles_49 : decode cX6_leastMiles 49 = .ok (.invokevirtual 287, 3) := by decide +kernel
theorem dX6_leastMiles_52 : decode cX6_leastMiles 52 = .ok (.aload_n 0, 1) := by decide +kernel
theorem dX6_leastMiles_53 : decode cX6_leastMiles 53 = .ok (.aload_n 0, 1) := by decide +kernel
theorem dX6_leastMiles_54 : decode cX6_leastMiles 54 = .ok (.getfield 12, 3) := by decide +kernel
theorem dX6_leastMiles_57 : decode cX6_leastMiles 57 = .ok (.getfield 274, 3) := by decide +kernel
theorem dX6_leastMiles_60 : decode cX6_leastMiles 60 = .ok (.putfield 62, 3) := by decide +kernel
theorem dX6_leastMiles_63 : decode cX6_leastMiles 63 = .ok (.aload_n 0, 1) := by decide +kernel
theorem dX6_leastMiles_64 : decode cX6_leastMiles 64 = .ok (.getfield 284, 3) := by decide +kernel
theorem dX6_leastMiles_67 : decode cX6_leastMiles 67 = .ok (.ireturn, 1) := by decide +kernel
theorem dX6_seekFamilies_0 : decode cX6_seekFamilies 0 = .ok (.aload_n 0, 1) := by decide +kernel
theorem dX6_seekFamilies_1 : decode cX6_seekFamilies 1 = .ok (.getfield 69, 3) := by decide +kernel
theorem dX6_seekFamilies_4 : decode cX6_seekFamilies 4 = .ok (.aload_n 0, 1) := by decide +kernel
theorem dX6_seekFamilies_5 : decode cX6_seekFamilies 5 = .ok (.getfield 12, 3) := by decide +kernel
theorem dX6_seekFamilies_8 : decode cX6_seekFamilies 8 = .ok (.getfield 274, 3) := by decide +kernel
theorem dX6_seekFamilies_11 : decode cX6_seekFamilies 11 = .ok (.if_icmp .eq 25, 3) := by decide +kernel
theorem dX6_seekFamilies_14 : decode cX6_seekFamilies 14 = .ok (.aload_n 0, 1) := by decide +kernel
theorem dX6_seekFamilies_15 : decode cX6_seekFamilies 15 = .ok (.getfield 38, 3) := by decide +kernel
theorem dX6_seekFamilies_18 : decode cX6_seekFamilies 18 = .ok (.aload_n 0, 1) := by decide +kernel
theorem dX6_seekFamilies_19 : decode cX6_seekFamilies 19 = .ok (.getfield 12, 3) := by decide +kernel
theorem dX6_seekFamilies_22 : decode cX6_seekFamilies 22 = .ok (.invokevirtual 290, 3) := by decide +kernel
theorem dX6_seekFamilies_25 : decode cX6_seekFamilies 25 = .ok (.aload_n 0, 1) := by decide +kernel
theorem dX6_seekFamilies_26 : decode cX6_seekFamilies 26 = .ok (.aload_n 0, 1) := by decide +kernel
theorem dX6_seekFamilies_27 : decode cX6_seekFamilies 27 = .ok (.getfield 12, 3) := by decide +kernel
theorem dX6_seekFamilies_30 : decode cX6_seekFamilies 30 = .ok (.getfield 274, 3) := by decide +kernel
theorem dX6_seekFamilies_33 : decode cX6_seekFamilies 33 = .ok (.putfield 69, 3) := by decide +kernel
theorem dX6_seekFamilies_36 : decode cX6_seekFamilies 36 = .ok (.return_, 1) := by decide +kernel
theorem dX6_seekEven_0 : decode cX6_seekEven 0 = .ok (.aload_n 0, 1) := by decide +kernel
theorem dX6_seekEven_1 : decode cX6_seekEven 1 = .ok (.getfield 66, 3) := by decide +kernel
theorem dX6_seekEven_4 : decode cX6_seekEven 4 = .ok (.aload_n 0, 1) := by decide +kernel
theorem dX6_seekEven_5 : decode cX6_seekEven 5 = .ok (.getfield 12, 3) := by decide +kernel
theorem dX6_seekEven_8 : decode cX6_seekEven 8 = .ok (.getfield 274, 3) := by decide +kernel
theorem dX6_seekEven_11 : decode cX6_seekEven 11 = .ok (.if_icmp .eq 51, 3) := by decide +kernel
theorem dX6_seekEven_14 : decode cX6_seekEven 14 = .ok (.aload_n 0, 1) := by decide +kernel
theorem dX6_seekEven_15 : decode cX6_seekEven 15 = .ok (.aload_n 0, 1) := by decide +kernel
theorem dX6_seekEven_16 : decode cX6_seekEven 16 = .ok (.invokevirtual 158, 3) := by decide +kernel
theorem dX6_seekEven_19 : decode cX6_seekEven 19 = .ok (.putfield 191, 3) := by decide +kernel
theorem dX6_seekEven_22 : decode cX6_seekEven 22 = .ok (.aload_n 0, 1) := by decide +kernel
theorem dX6_seekEven_23 : decode cX6_seekEven 23 = .ok (.aload_n 0, 1) := by decide +kernel
theorem dX6_seekEven_24 : decode cX6_seekEven 24 = .ok (.getfield 191, 3) := by decide +kernel
theorem dX6_seekEven_27 : decode cX6_seekEven 27 = .ok (.bipush (-9), 2) := by decide +kernel
theorem dX6_seekEven_29 : decode cX6_seekEven 29 = .ok (.if_icmp .ne 8, 3) := by decide +kernel
theorem dX6_seekEven_32 : decode cX6_seekEven 32 = .ok (.bipush (-9), 2) := by decide +kernel
theorem dX6_seekEven_34 : decode cX6_seekEven 34 = .ok (.goto 10, 3) := by decide +kernel
theorem dX6_seekEven_37 : decode cX6_seekEven 37 = .ok (.aload_n 0, 1) := by decide +kernel
theorem dX6_seekEven_38 : decode cX6_seekEven 38 = .ok (.getfield 28, 3) := by decide +kernel
theorem dX6_seekEven_41 : decode cX6_seekEven 41 = .ok (.invokevirtual 293, 3) := by decide +kernel
theorem dX6_seekEven_44 : decode cX6_seekEven 44 = .ok (.putfield 188, 3) := by decide +kernel
theorem dX6_seekEven_47 : decode cX6_seekEven 47 = .ok (.aload_n 0, 1) := by decide +kernel
theorem dX6_seekEven_48 : decode cX6_seekEven 48 = .ok (.invokevirtual 296, 3) := by decide +kernel
theorem dX6_seekEven_51 : decode cX6_seekEven 51 = .ok (.aload_n 0, 1) := by decide +kernel
theorem dX6_seekEven_52 : decode cX6_seekEven 52 = .ok (.aload_n 0, 1) := by decide +kernel
theorem dX6_seekEven_53 : decode cX6_seekEven 53 = .ok (.getfield 12, 3) := by decide +kernel
theorem dX6_seekEven_56 : decode cX6_seekEven 56 = .ok (.getfield 274, 3) := by decide +kernel
theorem dX6_seekEven_59 : decode cX6_seekEven 59 = .ok (.putfield 66, 3) := by decide +kernel
theorem dX6_seekEven_62 : decode cX6_seekEven 62 = .ok (.return_, 1) := by decide +kernel
theorem dX6_shortenLongest_0 : decode cX6_shortenLongest 0 = .ok (.iconst 0, 1) := by decide +kernel
theorem dX6_shortenLongest_1 : decode cX6_shortenLongest 1 = .ok (.istore_n 1, 1) := by decide +kernel
theorem dX6_shortenLongest_2 : decode cX6_shortenLongest 2 = .ok (.iconst 0, 1) := by decide +kernel
theorem dX6_shortenLongest_3 : decode cX6_shortenLongest 3 = .ok (.istore_n 2, 1) := by decide +kernel
theorem dX6_shortenLongest_4 : decode cX6_shortenLongest 4 = .ok (.iload_n 2, 1) := by decide +kernel
theorem dX6_shortenLongest_5 : decode cX6_shortenLongest 5 = .ok (.bipush 16, 2) := by decide +kernel
theorem dX6_shortenLongest_7 : decode cX6_shortenLongest 7 = .ok (.if_icmp .ge 85, 3) := by decide +kernel
theorem dX6_shortenLongest_10 : decode cX6_shortenLongest 10 = .ok (.iload_n 1, 1) := by decide +kernel
theorem dX6_shortenLongest_11 : decode cX6_shortenLongest 11 = .ok (.aload_n 0, 1) := by decide +kernel
theorem dX6_shortenLongest_12 : decode cX6_shortenLongest 12 = .ok (.getfield 188, 3) := by decide +kernel
theorem dX6_shortenLongest_15 : decode cX6_shortenLongest 15 = .ok (.if_icmp .ge 77, 3) := by decide +kernel
theorem dX6_shortenLongest_18 : decode cX6_shortenLongest 18 = .ok (.iload_n 1, 1) := by decide +kernel
theorem dX6_shortenLongest_19 : decode cX6_shortenLongest 19 = .ok (.aload_n 0, 1) := by decide +kernel
theorem dX6_shortenLongest_20 : decode cX6_shortenLongest 20 = .ok (.getfield 188, 3) := by decide +kernel
theorem dX6_shortenLongest_23 : decode cX6_shortenLongest 23 = .ok (.iadd, 1) := by decide +kernel
theorem dX6_shortenLongest_24 : decode cX6_shortenLongest 24 = .ok (.iconst 2, 1) := by decide +kernel
theorem dX6_shortenLongest_25 : decode cX6_shortenLongest 25 = .ok (.idiv, 1) := by decide +kernel
theorem dX6_shortenLongest_26 : decode cX6_shortenLongest 26 = .ok (.istore_n 3, 1) := by decide +kernel
theorem dX6_shortenLongest_27 : decode cX6_shortenLongest 27 = .ok (.aload_n 0, 1) := by decide +kernel
theorem dX6_shortenLongest_28 : decode cX6_shortenLongest 28 = .ok (.getfield 32, 3) := by decide +kernel
theorem dX6_shortenLongest_31 : decode cX6_shortenLongest 31 = .ok (.aload_n 0, 1) := by decide +kernel
theorem dX6_shortenLongest_32 : decode cX6_shortenLongest 32 = .ok (.getfield 12, 3) := by decide +kernel
theorem dX6_shortenLongest_35 : decode cX6_shortenLongest 35 = .ok (.invokevirtual 277, 3) := by decide +kernel
theorem dX6_shortenLongest_38 : decode cX6_shortenLongest 38 = .ok (.aload_n 0, 1) := by decide +kernel
theorem dX6_shortenLongest_39 : decode cX6_shortenLongest 39 = .ok (.getfield 32, 3) := by decide +kernel
theorem dX6_shortenLongest_42 : decode cX6_shortenLongest 42 = .ok (.iload_n 3, 1) := by decide +kernel
theorem dX6_shortenLongest_43 : decode cX6_shortenLongest 43 = .ok (.invokevirtual 299, 3) := by decide +kernel
theorem dX6_shortenLongest_46 : decode cX6_shortenLongest 46 = .ok (.aload_n 0, 1) := by decide +kernel
theorem dX6_shortenLongest_47 : decode cX6_shortenLongest 47 = .ok (.getfield 32, 3) := by decide +kernel
theorem dX6_shortenLongest_50 : decode cX6_shortenLongest 50 = .ok (.invokevirtual 281, 3) := by decide +kernel
theorem dX6_shortenLongest_53 : decode cX6_shortenLongest 53 = .ok (.istore 4, 2) := by decide +kernel
theorem dX6_shortenLongest_55 : decode cX6_shortenLongest 55 = .ok (.iload 4, 2) := by decide +kernel
theorem dX6_shortenLongest_57 : decode cX6_shortenLongest 57 = .ok (.bipush (-9), 2) := by decide +kernel
theorem dX6_shortenLongest_59 : decode cX6_shortenLongest 59 = .ok (.if_icmp .ne 10, 3) := by decide +kernel
theorem dX6_shortenLongest_62 : decode cX6_shortenLongest 62 = .ok (.iload_n 3, 1) := by decide +kernel
theorem dX6_shortenLongest_63 : decode cX6_shortenLongest 63 = .ok (.iconst 1, 1) := by decide +kernel
theorem dX6_shortenLongest_64 : decode cX6_shortenLongest 64 = .ok (.iadd, 1) := by decide +kernel
theorem dX6_shortenLongest_65 : decode cX6_shortenLongest 65 = .ok (.istore_n 1, 1) := by decide +kernel
theorem dX6_shortenLongest_66 : decode cX6_shortenLongest 66 = .ok (.goto 20, 3) := by decide +kernel
theorem dX6_shortenLongest_69 : decode cX6_shortenLongest 69 = .ok (.aload_n 0, 1) := by decide +kernel
theorem dX6_shortenLongest_70 : decode cX6_shortenLongest 70 = .ok (.iload 4, 2) := by decide +kernel
theorem dX6_shortenLongest_72 : decode cX6_shortenLongest 72 = .ok (.putfield 191, 3) := by decide +kernel
theorem dX6_shortenLongest_75 : decode cX6_shortenLongest 75 = .ok (.aload_n 0, 1) := by decide +kernel
theorem dX6_shortenLongest_76 : decode cX6_shortenLongest 76 = .ok (.aload_n 0, 1) := by decide +kernel
theorem dX6_shortenLongest_77 : decode cX6_shortenLongest 77 = .ok (.getfield 32, 3) := by decide +kernel
theorem dX6_shortenLongest_80 : decode cX6_shortenLongest 80 = .ok (.invokevirtual 293, 3) := by decide +kernel
theorem dX6_shortenLongest_83 : decode cX6_shortenLongest 83 = .ok (.putfield 188, 3) := by decide +kernel
theorem dX6_shortenLongest_86 : decode cX6_shortenLongest 86 = .ok (.iinc 2 1, 3) := by decide +kernel
theorem dX6_shortenLongest_89 : decode cX6_shortenLongest 89 = .ok (.goto (-85), 3) := by decide +kernel
theorem dX6_shortenLongest_92 : decode cX6_shortenLongest 92 = .ok (.return_, 1) := by decide +kernel
theorem dX6_milesOfSet_0 : decode cX6_milesOfSet 0 = .ok (.aload_n 0, 1) := by decide +kernel
theorem dX6_milesOfSet_1 : decode cX6_milesOfSet 1 = .ok (.getfield 32, 3) := by decide +kernel
theorem dX6_milesOfSet_4 : decode cX6_milesOfSet 4 = .ok (.aload_n 0, 1) := by decide +kernel
theorem dX6_milesOfSet_5 : decode cX6_milesOfSet 5 = .ok (.getfield 12, 3) := by decide +kernel
theorem dX6_milesOfSet_8 : decode cX6_milesOfSet 8 = .ok (.invokevirtual 277, 3) := by decide +kernel
theorem dX6_milesOfSet_11 : decode cX6_milesOfSet 11 = .ok (.aload_n 0, 1) := by decide +kernel
theorem dX6_milesOfSet_12 : decode cX6_milesOfSet 12 = .ok (.getfield 32, 3) := by decide +kernel
theorem dX6_milesOfSet_15 : decode cX6_milesOfSet 15 = .ok (.iload_n 1, 1) := by decide +kernel
theorem dX6_milesOfSet_16 : decode cX6_milesOfSet 16 = .ok (.invokevirtual 303, 3) := by decide +kernel
theorem dX6_milesOfSet_19 : decode cX6_milesOfSet 19 = .ok (.aload_n 0, 1) := by decide +kernel
theorem dX6_milesOfSet_20 : decode cX6_milesOfSet 20 = .ok (.getfield 32, 3) := by decide +kernel
theorem dX6_milesOfSet_23 : decode cX6_milesOfSet 23 = .ok (.invokevirtual 281, 3) := by decide +kernel
theorem dX6_milesOfSet_26 : decode cX6_milesOfSet 26 = .ok (.ireturn, 1) := by decide +kernel
theorem dX6_bestPlace_0 : decode cX6_bestPlace 0 = .ok (.iconst (-1), 1) := by decide +kernel
theorem dX6_bestPlace_1 : decode cX6_bestPlace 1 = .ok (.istore_n 2, 1) := by decide +kernel
theorem dX6_bestPlace_2 : decode cX6_bestPlace 2 = .ok (.aload_n 0, 1) := by decide +kernel
theorem dX6_bestPlace_3 : decode cX6_bestPlace 3 = .ok (.invokevirtual 158, 3) := by decide +kernel
theorem dX6_bestPlace_6 : decode cX6_bestPlace 6 = .ok (.bipush (-9), 2) := by decide +kernel
theorem dX6_bestPlace_8 : decode cX6_bestPlace 8 = .ok (.if_icmp .ne 8, 3) := by decide +kernel
theorem dX6_bestPlace_11 : decode cX6_bestPlace 11 = .ok (.ldc 181, 2) := by decide +kernel
theorem dX6_bestPlace_13 : decode cX6_bestPlace 13 = .ok (.goto 7, 3) := by decide +kernel
theorem dX6_bestPlace_16 : decode cX6_bestPlace 16 = .ok (.aload_n 0, 1) := by decide +kernel
theorem dX6_bestPlace_17 : decode cX6_bestPlace 17 = .ok (.getfield 284, 3) := by decide +kernel
theorem dX6_bestPlace_20 : decode cX6_bestPlace 20 = .ok (.istore_n 3, 1) := by decide +kernel
theorem dX6_bestPlace_21 : decode cX6_bestPlace 21 = .ok (.iconst 0, 1) := by decide +kernel
theorem dX6_bestPlace_22 : decode cX6_bestPlace 22 = .ok (.istore 4, 2) := by decide +kernel
theorem dX6_bestPlace_24 : decode cX6_bestPlace 24 = .ok (.iload 4, 2) := by decide +kernel
theorem dX6_bestPlace_26 : decode cX6_bestPlace 26 = .ok (.aload_n 0, 1) := by decide +kernel
theorem dX6_bestPlace_27 : decode cX6_bestPlace 27 = .ok (.getfield 206, 3) := by decide +kernel
theorem dX6_bestPlace_30 : decode cX6_bestPlace 30 = .ok (.if_icmp .ge 74, 3) := by decide +kernel
theorem dX6_bestPlace_33 : decode cX6_bestPlace 33 = .ok (.aload_n 0, 1) := by decide +kernel
theorem dX6_bestPlace_34 : decode cX6_bestPlace 34 = .ok (.getfield 32, 3) := by decide +kernel
theorem dX6_bestPlace_37 : decode cX6_bestPlace 37 = .ok (.aload_n 0, 1) := by decide +kernel
theorem dX6_bestPlace_38 : decode cX6_bestPlace 38 = .ok (.getfield 12, 3) := by decide +kernel
theorem dX6_bestPlace_41 : decode cX6_bestPlace 41 = .ok (.invokevirtual 277, 3) := by decide +kernel
theorem dX6_bestPlace_44 : decode cX6_bestPlace 44 = .ok (.aload_n 0, 1) := by decide +kernel
theorem dX6_bestPlace_45 : decode cX6_bestPlace 45 = .ok (.getfield 32, 3) := by decide +kernel
theorem dX6_bestPlace_48 : decode cX6_bestPlace 48 = .ok (.aload_n 0, 1) := by decide +kernel
theorem dX6_bestPlace_49 : decode cX6_bestPlace 49 = .ok (.getfield 12, 3) := by decide +kernel
theorem dX6_bestPlace_52 : decode cX6_bestPlace 52 = .ok (.iload_n 1, 1) := by decide +kernel
theorem dX6_bestPlace_53 : decode cX6_bestPlace 53 = .ok (.aload_n 0, 1) := by decide +kernel
theorem dX6_bestPlace_54 : decode cX6_bestPlace 54 = .ok (.getfield 55, 3) := by decide +kernel
theorem dX6_bestPlace_57 : decode cX6_bestPlace 57 = .ok (.iload 4, 2) := by decide +kernel
theorem dX6_bestPlace_59 : decode cX6_bestPlace 59 = .ok (.iaload, 1) := by decide +kernel
theorem dX6_bestPlace_60 : decode cX6_bestPlace 60 = .ok (.aload_n 0, 1) := by decide +kernel
theorem dX6_bestPlace_61 : decode cX6_bestPlace 61 = .ok (.getfield 59, 3) := by decide +kernel
theorem dX6_bestPlace_64 : decode cX6_bestPlace 64 = .ok (.iload 4, 2) := by decide +kernel
theorem dX6_bestPlace_66 : decode cX6_bestPlace 66 = .ok (.iaload, 1) := by decide +kernel
theorem dX6_bestPlace_67 : decode cX6_bestPlace 67 = .ok (.invokevirtual 306, 3) := by decide +kernel
theorem dX6_bestPlace_70 : decode cX6_bestPlace 70 = .ok (.aload_n 0, 1) := by decide +kernel
theorem dX6_bestPlace_71 : decode cX6_bestPlace 71 = .ok (.getfield 32, 3) := by decide +kernel
theorem dX6_bestPlace_74 : decode cX6_bestPlace 74 = .ok (.invokevirtual 281, 3) := by decide +kernel
theorem dX6_bestPlace_77 : decode cX6_bestPlace 77 = .ok (.istore 5, 2) := by decide +kernel
theorem dX6_bestPlace_79 : decode cX6_bestPlace 79 = .ok (.iload 5, 2) := by decide +kernel
theorem dX6_bestPlace_81 : decode cX6_bestPlace 81 = .ok (.bipush (-9), 2) := by decide +kernel
theorem dX6_bestPlace_83 : decode cX6_bestPlace 83 = .ok (.if_icmp .eq 15, 3) := by decide +kernel
theorem dX6_bestPlace_86 : decode cX6_bestPlace 86 = .ok (.iload 5, 2) := by decide +kernel
theorem dX6_bestPlace_88 : decode cX6_bestPlace 88 = .ok (.iload_n 3, 1) := by decide +kernel
theorem dX6_bestPlace_89 : decode cX6_bestPlace 89 = .ok (.if_icmp .ge 9, 3) := by decide +kernel
theorem dX6_bestPlace_92 : decode cX6_bestPlace 92 = .ok (.iload 5, 2) := by decide +kernel
theorem dX6_bestPlace_94 : decode cX6_bestPlace 94 = .ok (.istore_n 3, 1) := by decide +kernel
theorem dX6_bestPlace_95 : decode cX6_bestPlace 95 = .ok (.iload 4, 2) := by decide +kernel
theorem dX6_bestPlace_97 : decode cX6_bestPlace 97 = .ok (.istore_n 2, 1) := by decide +kernel
theorem dX6_bestPlace_98 : decode cX6_bestPlace 98 = .ok (.iinc 4 1, 3) := by decide +kernel
theorem dX6_bestPlace_101 : decode cX6_bestPlace 101 = .ok (.goto (-77), 3) := by decide +kernel
theorem dX6_bestPlace_104 : decode cX6_bestPlace 104 = .ok (.iload_n 2, 1) := by decide +kernel
theorem dX6_bestPlace_105 : decode cX6_bestPlace 105 = .ok (.ireturn, 1) := by decide +kernel
theorem dX6_leastChurch_0 : decode cX6_leastChurch 0 = .ok (.bipush (-9), 2) := by decide +kernel
theorem dX6_leastChurch_2 : decode cX6_leastChurch 2 = .ok (.istore_n 3, 1) := by decide +kernel
theorem dX6_leastChurch_3 : decode cX6_leastChurch 3 = .ok (.ldc 181, 2) := by decide +kernel
theorem dX6_leastChurch_5 : decode cX6_leastChurch 5 = .ok (.istore 4, 2) := by decide +kernel
theorem dX6_leastChurch_7 : decode cX6_leastChurch 7 = .ok (.iconst 0, 1) := by decide +kernel
theorem dX6_leastChurch_8 : decode cX6_leastChurch 8 = .ok (.istore 5, 2) := by decide +kernel
theorem dX6_leastChurch_10 : decode cX6_leastChurch 10 = .ok (.iload 5, 2) := by decide +kernel
theorem dX6_leastChurch_12 : decode cX6_leastChurch 12 = .ok (.aload_n 0, 1) := by decide +kernel
theorem dX6_leastChurch_13 : decode cX6_leastChurch 13 = .ok (.getfield 12, 3) := by decide +kernel
theorem dX6_leastChurch_16 : decode cX6_leastChurch 16 = .ok (.getfield 88, 3) := by decide +kernel
theorem dX6_leastChurch_19 : decode cX6_leastChurch 19 = .ok (.if_icmp .ge 47, 3) := by decide +kernel
theorem dX6_leastChurch_22 : decode cX6_leastChurch 22 = .ok (.aload_n 0, 1) := by decide +kernel
theorem dX6_leastChurch_23 : decode cX6_leastChurch 23 = .ok (.getfield 12, 3) := by decide +kernel
theorem dX6_leastChurch_26 : decode cX6_leastChurch 26 = .ok (.iload 5, 2) := by decide +kernel
theorem dX6_leastChurch_28 : decode cX6_leastChurch 28 = .ok (.iload_n 1, 1) := by decide +kernel
theorem dX6_leastChurch_29 : decode cX6_leastChurch 29 = .ok (.iload_n 2, 1) := by decide +kernel
theorem dX6_leastChurch_30 : decode cX6_leastChurch 30 = .ok (.invokevirtual 155, 3) := by decide +kernel
theorem dX6_leastChurch_33 : decode cX6_leastChurch 33 = .ok (.aload_n 0, 1) := by decide +kernel
theorem dX6_leastChurch_34 : decode cX6_leastChurch 34 = .ok (.getfield 28, 3) := by decide +kernel
theorem dX6_leastChurch_37 : decode cX6_leastChurch 37 = .ok (.getfield 165, 3) := by decide +kernel
theorem dX6_leastChurch_40 : decode cX6_leastChurch 40 = .ok (.iload 5, 2) := by decide +kernel
theorem dX6_leastChurch_42 : decode cX6_leastChurch 42 = .ok (.iaload, 1) := by decide +kernel
theorem dX6_leastChurch_43 : decode cX6_leastChurch 43 = .ok (.iadd, 1) := by decide +kernel
theorem dX6_leastChurch_44 : decode cX6_leastChurch 44 = .ok (.istore 6, 2) := by decide +kernel
theorem dX6_leastChurch_46 : decode cX6_leastChurch 46 = .ok (.iload 6, 2) := by decide +kernel
theorem dX6_leastChurch_48 : decode cX6_leastChurch 48 = .ok (.iload 4, 2) := by decide +kernel
theorem dX6_leastChurch_50 : decode cX6_leastChurch 50 = .ok (.if_icmp .ge 10, 3) := by decide +kernel
theorem dX6_leastChurch_53 : decode cX6_leastChurch 53 = .ok (.iload 6, 2) := by decide +kernel
theorem dX6_leastChurch_55 : decode cX6_leastChurch 55 = .ok (.istore 4, 2) := by decide +kernel
theorem dX6_leastChurch_57 : decode cX6_leastChurch 57 = .ok (.iload 5, 2) := by decide +kernel
theorem dX6_leastChurch_59 : decode cX6_leastChurch 59 = .ok (.istore_n 3, 1) := by decide +kernel
theorem dX6_leastChurch_60 : decode cX6_leastChurch 60 = .ok (.iinc 5 1, 3) := by decide +kernel
theorem dX6_leastChurch_63 : decode cX6_leastChurch 63 = .ok (.goto (-53), 3) := by decide +kernel
theorem dX6_leastChurch_66 : decode cX6_leastChurch 66 = .ok (.iload_n 3, 1) := by decide +kernel
theorem dX6_leastChurch_67 : decode cX6_leastChurch 67 = .ok (.ireturn, 1) := by decide +kernel
theorem dX6_partOfBorder_0 : decode cX6_partOfBorder 0 = .ok (.iconst 2, 1) := by decide +kernel
theorem dX6_partOfBorder_1 : decode cX6_partOfBorder 1 = .ok (.aload_n 0, 1) := by decide +kernel
theorem dX6_partOfBorder_2 : decode cX6_partOfBorder 2 = .ok (.getfield 12, 3) := by decide +kernel
theorem dX6_partOfBorder_5 : decode cX6_partOfBorder 5 = .ok (.getfield 131, 3) := by decide +kernel
theorem dX6_partOfBorder_8 : decode cX6_partOfBorder 8 = .ok (.iload_n 2, 1) := by decide +kernel
theorem dX6_partOfBorder_9 : decode cX6_partOfBorder 9 = .ok (.iaload, 1) := by decide +kernel
theorem dX6_partOfBorder_10 : decode cX6_partOfBorder 10 = .ok (.aload_n 0, 1) := by decide +kernel
theorem dX6_partOfBorder_11 : decode cX6_partOfBorder 11 = .ok (.getfield 12, 3) := by decide +kernel
theorem dX6_partOfBorder_14 : decode cX6_partOfBorder 14 = .ok (.getfield 131, 3) := by decide +kernel
theorem dX6_partOfBorder_17 : decode cX6_partOfBorder 17 = .ok (.iload_n 1, 1) := by decide +kernel
theorem dX6_partOfBorder_18 : decode cX6_partOfBorder 18 = .ok (.iaload, 1) := by decide +kernel
theorem dX6_partOfBorder_19 : decode cX6_partOfBorder 19 = .ok (.isub, 1) := by decide +kernel
theorem dX6_partOfBorder_20 : decode cX6_partOfBorder 20 = .ok (.imul, 1) := by decide +kernel
theorem dX6_partOfBorder_21 : decode cX6_partOfBorder 21 = .ok (.istore 4, 2) := by decide +kernel
theorem dX6_partOfBorder_23 : decode cX6_partOfBorder 23 = .ok (.iconst 2, 1) := by decide +kernel
theorem dX6_partOfBorder_24 : decode cX6_partOfBorder 24 = .ok (.aload_n 0, 1) := by decide +kernel
theorem dX6_partOfBorder_25 : decode cX6_partOfBorder 25 = .ok (.getfield 12, 3) := by decide +kernel
theorem dX6_partOfBorder_28 : decode cX6_partOfBorder 28 = .ok (.getfield 134, 3) := by decide +kernel
theorem dX6_partOfBorder_31 : decode cX6_partOfBorder 31 = .ok (.iload_n 2, 1) := by decide +kernel
theorem dX6_partOfBorder_32 : decode cX6_partOfBorder 32 = .ok (.iaload, 1) := by decide +kernel
theorem dX6_partOfBorder_33 : decode cX6_partOfBorder 33 = .ok (.aload_n 0, 1) := by decide +kernel
theorem dX6_partOfBorder_34 : decode cX6_partOfBorder 34 = .ok (.getfield 12, 3) := by decide +kernel
theorem dX6_partOfBorder_37 : decode cX6_partOfBorder 37 = .ok (.getfield 134, 3) := by decide +kernel
theorem dX6_partOfBorder_40 : decode cX6_partOfBorder 40 = .ok (.iload_n 1, 1) := by decide +kernel
theorem dX6_partOfBorder_41 : decode cX6_partOfBorder 41 = .ok (.iaload, 1) := by decide +kernel
theorem dX6_partOfBorder_42 : decode cX6_partOfBorder 42 = .ok (.isub, 1) := by decide +kernel
theorem dX6_partOfBorder_43 : decode cX6_partOfBorder 43 = .ok (.imul, 1) := by decide +kernel
theorem dX6_partOfBorder_44 : decode cX6_partOfBorder 44 = .ok (.istore 5, 2) := by decide +kernel
theorem dX6_partOfBorder_46 : decode cX6_partOfBorder 46 = .ok (.aload_n 0, 1) := by decide +kernel
theorem dX6_partOfBorder_47 : decode cX6_partOfBorder 47 = .ok (.iload_n 2, 1) := by decide +kernel
theorem dX6_partOfBorder_48 : decode cX6_partOfBorder 48 = .ok (.invokevirtual 310, 3) := by decide +kernel
theorem dX6_partOfBorder_51 : decode cX6_partOfBorder 51 = .ok (.aload_n 0, 1) := by decide +kernel
theorem dX6_partOfBorder_52 : decode cX6_partOfBorder 52 = .ok (.iload_n 1, 1) := by decide +kernel
theorem dX6_partOfBorder_53 : decode cX6_partOfBorder 53 = .ok (.invokevirtual 310, 3) := by decide +kernel
theorem dX6_partOfBorder_56 : decode cX6_partOfBorder 56 = .ok (.isub, 1) := by decide +kernel
theorem dX6_partOfBorder_57 : decode cX6_partOfBorder 57 = .ok (.istore 6, 2) := by decide +kernel
theorem dX6_partOfBorder_59 : decode cX6_partOfBorder 59 = .ok (.iload 4, 2) := by decide +kernel
theorem dX6_partOfBorder_61 : decode cX6_partOfBorder 61 = .ok (.invokestatic 313, 3) := by decide +kernel
theorem dX6_partOfBorder_64 : decode cX6_partOfBorder 64 = .ok (.iload 5, 2) := by decide +kernel
theorem dX6_partOfBorder_66 : decode cX6_partOfBorder 66 = .ok (.invokestatic 313, 3) := by decide +kernel
theorem dX6_partOfBorder_69 : decode cX6_partOfBorder 69 = .ok (.invokestatic 318, 3) := by decide +kernel
theorem dX6_partOfBorder_72 : decode cX6_partOfBorder 72 = .ok (.iload 6, 2) := by decide +kernel
theorem dX6_partOfBorder_74 : decode cX6_partOfBorder 74 = .ok (.invokestatic 313, 3) := by decide +kernel
theorem dX6_partOfBorder_77 : decode cX6_partOfBorder 77 = .ok (.invokestatic 318, 3) := by decide +kernel
theorem dX6_partOfBorder_80 : decode cX6_partOfBorder 80 = .ok (.istore 7, 2) := by decide +kernel
theorem dX6_partOfBorder_82 : decode cX6_partOfBorder 82 = .ok (.iload 7, 2) := by decide +kernel
theorem dX6_partOfBorder_84 : decode cX6_partOfBorder 84 = .ok (.ifCond .ne 7, 3) := by decide +kernel
theorem dX6_partOfBorder_87 : decode cX6_partOfBorder 87 = .ok (.ldc2_w 194, 3) := by decide +kernel
theorem dX6_partOfBorder_90 : decode cX6_partOfBorder 90 = .ok (.lreturn, 1) := by decide +kernel
theorem dX6_partOfBorder_91 : decode cX6_partOfBorder 91 = .ok (.iload 4, 2) := by decide +kernel
theorem dX6_partOfBorder_93 : decode cX6_partOfBorder 93 = .ok (.ifCond .lt 13, 3) := by decide +kernel
theorem dX6_partOfBorder_96 : decode cX6_partOfBorder 96 = .ok (.iload 4, 2) := by decide +kernel
theorem dX6_partOfBorder_98 : decode cX6_partOfBorder 98 = .ok (.ifCond .ne 14, 3) := by decide +kernel
theorem dX6_partOfBorder_101 : decode cX6_partOfBorder 101 = .ok (.iload 5, 2) := by decide +kernel
theorem dX6_partOfBorder_103 : decode cX6_partOfBorder 103 = .ok (.ifCond .ge 9, 3) := by decide +kernel
theorem dX6_partOfBorder_106 : decode cX6_partOfBorder 106 = .ok (.iload 7, 2) := by decide +kernel
theorem dX6_partOfBorder_108 : decode cX6_partOfBorder 108 = .ok (.ineg, 1) := by decide +kernel
theorem dX6_partOfBorder_109 : decode cX6_partOfBorder 109 = .ok (.goto 5, 3) := by decide +kernel
theorem dX6_partOfBorder_112 : decode cX6_partOfBorder 112 = .ok (.iload 7, 2) := by decide +kernel
theorem dX6_partOfBorder_114 : decode cX6_partOfBorder 114 = .ok (.istore 8, 2) := by decide +kernel
theorem dX6_partOfBorder_116 : decode cX6_partOfBorder 116 = .ok (.iload_n 3, 1) := by decide +kernel
theorem dX6_partOfBorder_117 : decode cX6_partOfBorder 117 = .ok (.ifCond .ne 12, 3) := by decide +kernel
theorem dX6_partOfBorder_120 : decode cX6_partOfBorder 120 = .ok (.iload 4, 2) := by decide +kernel
theorem dX6_partOfBorder_122 : decode cX6_partOfBorder 122 = .ok (.iload 8, 2) := by decide +kernel
theorem dX6_partOfBorder_124 : decode cX6_partOfBorder 124 = .ok (.idiv, 1) := by decide +kernel
theorem dX6_partOfBorder_125 : decode cX6_partOfBorder 125 = .ok (.i2l, 1) := by decide +kernel
theorem dX6_partOfBorder_126 : decode cX6_partOfBorder 126 = .ok (.goto 23, 3) := by decide +kernel
theorem dX6_partOfBorder_129 : decode cX6_partOfBorder 129 = .ok (.iload_n 3, 1) := by decide +kernel
theorem dX6_partOfBorder_130 : decode cX6_partOfBorder 130 = .ok (.iconst 1, 1) := by decide +kernel
theorem dX6_partOfBorder_131 : decode cX6_partOfBorder 131 = .ok (.if_icmp .ne 12, 3) := by decide +kernel
theorem dX6_partOfBorder_134 : decode cX6_partOfBorder 134 = .ok (.iload 5, 2) := by decide +kernel
theorem dX6_partOfBorder_136 : decode cX6_partOfBorder 136 = .ok (.iload 8, 2) := by decide +kernel
theorem dX6_partOfBorder_138 : decode cX6_partOfBorder 138 = .ok (.idiv, 1) := by decide +kernel
theorem dX6_partOfBorder_139 : decode cX6_partOfBorder 139 = .ok (.i2l, 1) := by decide +kernel
theorem dX6_partOfBorder_140 : decode cX6_partOfBorder 140 = .ok (.goto 9, 3) := by decide +kernel
theorem dX6_partOfBorder_143 : decode cX6_partOfBorder 143 = .ok (.iload 6, 2) := by decide +kernel
theorem dX6_partOfBorder_145 : decode cX6_partOfBorder 145 = .ok (.iload 8, 2) := by decide +kernel
theorem dX6_partOfBorder_147 : decode cX6_partOfBorder 147 = .ok (.idiv, 1) := by decide +kernel
theorem dX6_partOfBorder_148 : decode cX6_partOfBorder 148 = .ok (.i2l, 1) := by decide +kernel
theorem dX6_partOfBorder_149 : decode cX6_partOfBorder 149 = .ok (.lreturn, 1) := by decide +kernel
theorem dX6_sideOfBorder_0 : decode cX6_sideOfBorder 0 = .ok (.aload_n 0, 1) := by decide +kernel
theorem dX6_sideOfBorder_1 : decode cX6_sideOfBorder 1 = .ok (.getfield 12, 3) := by decide +kernel
theorem dX6_sideOfBorder_4 : decode cX6_sideOfBorder 4 = .ok (.getfield 131, 3) := by decide +kernel
theorem dX6_sideOfBorder_7 : decode cX6_sideOfBorder 7 = .ok (.iload_n 1, 1) := by decide +kernel
theorem dX6_sideOfBorder_8 : decode cX6_sideOfBorder 8 = .ok (.iaload, 1) := by decide +kernel
theorem dX6_sideOfBorder_9 : decode cX6_sideOfBorder 9 = .ok (.aload_n 0, 1) := by decide +kernel
theorem dX6_sideOfBorder_10 : decode cX6_sideOfBorder 10 = .ok (.getfield 12, 3) := by decide +kernel
theorem dX6_sideOfBorder_13 : decode cX6_sideOfBorder 13 = .ok (.getfield 131, 3) := by decide +kernel
theorem dX6_sideOfBorder_16 : decode cX6_sideOfBorder 16 = .ok (.iload_n 1, 1) := by decide +kernel
theorem dX6_sideOfBorder_17 : decode cX6_sideOfBorder 17 = .ok (.iaload, 1) := by decide +kernel
theorem dX6_sideOfBorder_18 : decode cX6_sideOfBorder 18 = .ok (.imul, 1) := by decide +kernel
theorem dX6_sideOfBorder_19 : decode cX6_sideOfBorder 19 = .ok (.aload_n 0, 1) := by decide +kernel
theorem dX6_sideOfBorder_20 : decode cX6_sideOfBorder 20 = .ok (.getfield 12, 3) := by decide +kernel
theorem dX6_sideOfBorder_23 : decode cX6_sideOfBorder 23 = .ok (.getfield 134, 3) := by decide +kernel
theorem dX6_sideOfBorder_26 : decode cX6_sideOfBorder 26 = .ok (.iload_n 1, 1) := by decide +kernel
theorem dX6_sideOfBorder_27 : decode cX6_sideOfBorder 27 = .ok (.iaload, 1) := by decide +kernel
theorem dX6_sideOfBorder_28 : decode cX6_sideOfBorder 28 = .ok (.aload_n 0, 1) := by decide +kernel
theorem dX6_sideOfBorder_29 : decode cX6_sideOfBorder 29 = .ok (.getfield 12, 3) := by decide +kernel
theorem dX6_sideOfBorder_32 : decode cX6_sideOfBorder 32 = .ok (.getfield 134, 3) := by decide +kernel
theorem dX6_sideOfBorder_35 : decode cX6_sideOfBorder 35 = .ok (.iload_n 1, 1) := by decide +kernel
theorem dX6_sideOfBorder_36 : decode cX6_sideOfBorder 36 = .ok (.iaload, 1) := by decide +kernel
theorem dX6_sideOfBorder_37 : decode cX6_sideOfBorder 37 = .ok (.imul, 1) := by decide +kernel
theorem dX6_sideOfBorder_38 : decode cX6_sideOfBorder 38 = .ok (.iadd, 1) := by decide +kernel
theorem dX6_sideOfBorder_39 : decode cX6_sideOfBorder 39 = .ok (.aload_n 0, 1) := by decide +kernel
theorem dX6_sideOfBorder_40 : decode cX6_sideOfBorder 40 = .ok (.getfield 28, 3) := by decide +kernel
theorem dX6_sideOfBorder_43 : decode cX6_sideOfBorder 43 = .ok (.getfield 165, 3) := by decide +kernel
theorem dX6_sideOfBorder_46 : decode cX6_sideOfBorder 46 = .ok (.iload_n 1, 1) := by decide +kernel
theorem dX6_sideOfBorder_47 : decode cX6_sideOfBorder 47 = .ok (.iaload, 1) := by decide +kernel
theorem dX6_sideOfBorder_48 : decode cX6_sideOfBorder 48 = .ok (.iadd, 1) := by decide +kernel
theorem dX6_sideOfBorder_49 : decode cX6_sideOfBorder 49 = .ok (.ireturn, 1) := by decide +kernel
theorem dX6_commonDivisor_0 : decode cX6_commonDivisor 0 = .ok (.iload_n 0, 1) := by decide +kernel
theorem dX6_commonDivisor_1 : decode cX6_commonDivisor 1 = .ok (.istore_n 2, 1) := by decide +kernel
theorem dX6_commonDivisor_2 : decode cX6_commonDivisor 2 = .ok (.iload_n 1, 1) := by decide +kernel
theorem dX6_commonDivisor_3 : decode cX6_commonDivisor 3 = .ok (.istore_n 3, 1) := by decide +kernel
theorem dX6_commonDivisor_4 : decode cX6_commonDivisor 4 = .ok (.iconst 0, 1) := by decide +kernel
theorem dX6_commonDivisor_5 : decode cX6_commonDivisor 5 = .ok (.istore 4, 2) := by decide +kernel
theorem dX6_commonDivisor_7 : decode cX6_commonDivisor 7 = .ok (.iload 4, 2) := by decide +kernel
theorem dX6_commonDivisor_9 : decode cX6_commonDivisor 9 = .ok (.bipush 64, 2) := by decide +kernel
theorem dX6_commonDivisor_11 : decode cX6_commonDivisor 11 = .ok (.if_icmp .ge 23, 3) := by decide +kernel
theorem dX6_commonDivisor_14 : decode cX6_commonDivisor 14 = .ok (.iload_n 3, 1) := by decide +kernel
theorem dX6_commonDivisor_15 : decode cX6_commonDivisor 15 = .ok (.ifCond .eq 19, 3) := by decide +kernel
theorem dX6_commonDivisor_18 : decode cX6_commonDivisor 18 = .ok (.iload_n 2, 1) := by decide +kernel
theorem dX6_commonDivisor_19 : decode cX6_commonDivisor 19 = .ok (.iload_n 3, 1) := by decide +kernel
theorem dX6_commonDivisor_20 : decode cX6_commonDivisor 20 = .ok (.irem, 1) := by decide +kernel
theorem dX6_commonDivisor_21 : decode cX6_commonDivisor 21 = .ok (.istore 5, 2) := by decide +kernel
theorem dX6_commonDivisor_23 : decode cX6_commonDivisor 23 = .ok (.iload_n 3, 1) := by decide +kernel
theorem dX6_commonDivisor_24 : decode cX6_commonDivisor 24 = .ok (.istore_n 2, 1) := by decide +kernel
theorem dX6_commonDivisor_25 : decode cX6_commonDivisor 25 = .ok (.iload 5, 2) := by decide +kernel
theorem dX6_commonDivisor_27 : decode cX6_commonDivisor 27 = .ok (.istore_n 3, 1) := by decide +kernel
theorem dX6_commonDivisor_28 : decode cX6_commonDivisor 28 = .ok (.iinc 4 1, 3) := by decide +kernel
theorem dX6_commonDivisor_31 : decode cX6_commonDivisor 31 = .ok (.goto (-24), 3) := by decide +kernel
theorem dX6_commonDivisor_34 : decode cX6_commonDivisor 34 = .ok (.iload_n 2, 1) := by decide +kernel
theorem dX6_commonDivisor_35 : decode cX6_commonDivisor 35 = .ok (.ireturn, 1) := by decide +kernel
theorem dJ6_bitCount_0f7a4_0 : decode cJ6_bitCount_0f7a4 0 = .ok (.iload_n 0, 1) := by decide +kernel
theorem dJ6_bitCount_0f7a4_1 : decode cJ6_bitCount_0f7a4 1 = .ok (.iload_n 0, 1) := by decide +kernel
theorem dJ6_bitCount_0f7a4_2 : decode cJ6_bitCount_0f7a4 2 = .ok (.iconst 1, 1) := by decide +kernel
theorem dJ6_bitCount_0f7a4_3 : decode cJ6_bitCount_0f7a4 3 = .ok (.iushr, 1) := by decide +kernel
theorem dJ6_bitCount_0f7a4_4 : decode cJ6_bitCount_0f7a4 4 = .ok (.ldc_w 265, 3) := by decide +kernel
theorem dJ6_bitCount_0f7a4_7 : decode cJ6_bitCount_0f7a4 7 = .ok (.iand, 1) := by decide +kernel
theorem dJ6_bitCount_0f7a4_8 : decode cJ6_bitCount_0f7a4 8 = .ok (.isub, 1) := by decide +kernel
theorem dJ6_bitCount_0f7a4_9 : decode cJ6_bitCount_0f7a4 9 = .ok (.istore_n 0, 1) := by decide +kernel
theorem dJ6_bitCount_0f7a4_10 : decode cJ6_bitCount_0f7a4 10 = .ok (.iload_n 0, 1) := by decide +kernel
theorem dJ6_bitCount_0f7a4_11 : decode cJ6_bitCount_0f7a4 11 = .ok (.ldc_w 266, 3) := by decide +kernel
theorem dJ6_bitCount_0f7a4_14 : decode cJ6_bitCount_0f7a4 14 = .ok (.iand, 1) := by decide +kernel
theorem dJ6_bitCount_0f7a4_15 : decode cJ6_bitCount_0f7a4 15 = .ok (.iload_n 0, 1) := by decide +kernel
theorem dJ6_bitCount_0f7a4_16 : decode cJ6_bitCount_0f7a4 16 = .ok (.iconst 2, 1) := by decide +kernel
theorem dJ6_bitCount_0f7a4_17 : decode cJ6_bitCount_0f7a4 17 = .ok (.iushr, 1) := by decide +kernel
theorem dJ6_bitCount_0f7a4_18 : decode cJ6_bitCount_0f7a4 18 = .ok (.ldc_w 266, 3) := by decide +kernel
theorem dJ6_bitCount_0f7a4_21 : decode cJ6_bitCount_0f7a4 21 = .ok (.iand, 1) := by decide +kernel
theorem dJ6_bitCount_0f7a4_22 : decode cJ6_bitCount_0f7a4 22 = .ok (.iadd, 1) := by decide +kernel
theorem dJ6_bitCount_0f7a4_23 : decode cJ6_bitCount_0f7a4 23 = .ok (.istore_n 0, 1) := by decide +kernel
theorem dJ6_bitCount_0f7a4_24 : decode cJ6_bitCount_0f7a4 24 = .ok (.iload_n 0, 1) := by decide +kernel
theorem dJ6_bitCount_0f7a4_25 : decode cJ6_bitCount_0f7a4 25 = .ok (.iload_n 0, 1) := by decide +kernel
theorem dJ6_bitCount_0f7a4_26 : decode cJ6_bitCount_0f7a4 26 = .ok (.iconst 4, 1) := by decide +kernel
theorem dJ6_bitCount_0f7a4_27 : decode cJ6_bitCount_0f7a4 27 = .ok (.iushr, 1) := by decide +kernel
theorem dJ6_bitCount_0f7a4_28 : decode cJ6_bitCount_0f7a4 28 = .ok (.iadd, 1) := by decide +kernel
theorem dJ6_bitCount_0f7a4_29 : decode cJ6_bitCount_0f7a4 29 = .ok (.ldc_w 267, 3) := by decide +kernel
theorem dJ6_bitCount_0f7a4_32 : decode cJ6_bitCount_0f7a4 32 = .ok (.iand, 1) := by decide +kernel
theorem dJ6_bitCount_0f7a4_33 : decode cJ6_bitCount_0f7a4 33 = .ok (.istore_n 0, 1) := by decide +kernel
theorem dJ6_bitCount_0f7a4_34 : decode cJ6_bitCount_0f7a4 34 = .ok (.iload_n 0, 1) := by decide +kernel
theorem dJ6_bitCount_0f7a4_35 : decode cJ6_bitCount_0f7a4 35 = .ok (.iload_n 0, 1) := by decide +kernel
theorem dJ6_bitCount_0f7a4_36 : decode cJ6_bitCount_0f7a4 36 = .ok (.bipush 8, 2) := by decide +kernel
theorem dJ6_bitCount_0f7a4_38 : decode cJ6_bitCount_0f7a4 38 = .ok (.iushr, 1) := by decide +kernel
theorem dJ6_bitCount_0f7a4_39 : decode cJ6_bitCount_0f7a4 39 = .ok (.iadd, 1) := by decide +kernel
theorem dJ6_bitCount_0f7a4_40 : decode cJ6_bitCount_0f7a4 40 = .ok (.istore_n 0, 1) := by decide +kernel
theorem dJ6_bitCount_0f7a4_41 : decode cJ6_bitCount_0f7a4 41 = .ok (.iload_n 0, 1) := by decide +kernel
theorem dJ6_bitCount_0f7a4_42 : decode cJ6_bitCount_0f7a4 42 = .ok (.iload_n 0, 1) := by decide +kernel
theorem dJ6_bitCount_0f7a4_43 : decode cJ6_bitCount_0f7a4 43 = .ok (.bipush 16, 2) := by decide +kernel
theorem dJ6_bitCount_0f7a4_45 : decode cJ6_bitCount_0f7a4 45 = .ok (.iushr, 1) := by decide +kernel
theorem dJ6_bitCount_0f7a4_46 : decode cJ6_bitCount_0f7a4 46 = .ok (.iadd, 1) := by decide +kernel
theorem dJ6_bitCount_0f7a4_47 : decode cJ6_bitCount_0f7a4 47 = .ok (.istore_n 0, 1) := by decide +kernel
theorem dJ6_bitCount_0f7a4_48 : decode cJ6_bitCount_0f7a4 48 = .ok (.iload_n 0, 1) := by decide +kernel
theorem dJ6_bitCount_0f7a4_49 : decode cJ6_bitCount_0f7a4 49 = .ok (.bipush 63, 2) := by decide +kernel
theorem dJ6_bitCount_0f7a4_51 : decode cJ6_bitCount_0f7a4 51 = .ok (.iand, 1) := by decide +kernel
theorem dJ6_bitCount_0f7a4_52 : decode cJ6_bitCount_0f7a4 52 = .ok (.ireturn, 1) := by decide +kernel
theorem dJ9_abs_0f7a4_0 : decode cJ9_abs_0f7a4 0 = .ok (.iload_n 0, 1) := by decide +kernel
theorem dJ9_abs_0f7a4_1 : decode cJ9_abs_0f7a4 1 = .ok (.ifCond .ge 8, 3) := by decide +kernel
theorem dJ9_abs_0f7a4_4 : decode cJ9_abs_0f7a4 4 = .ok (.iload_n 0, 1) := by decide +kernel
theorem dJ9_abs_0f7a4_5 : decode cJ9_abs_0f7a4 5 = .ok (.ineg, 1) := by decide +kernel
theorem dJ9_abs_0f7a4_6 : decode cJ9_abs_0f7a4 6 = .ok (.goto 4, 3) := by decide +kernel
theorem dJ9_abs_0f7a4_9 : decode cJ9_abs_0f7a4 9 = .ok (.iload_n 0, 1) := by decide +kernel
theorem dJ9_abs_0f7a4_10 : decode cJ9_abs_0f7a4 10 = .ok (.ireturn, 1) := by decide +kernel
theorem dJ9_max_7cf53_0 : decode cJ9_max_7cf53 0 = .ok (.iload_n 0, 1) := by decide +kernel
theorem dJ9_max_7cf53_1 : decode cJ9_max_7cf53 1 = .ok (.iload_n 1, 1) := by decide +kernel
theorem dJ9_max_7cf53_2 : decode cJ9_max_7cf53 2 = .ok (.if_icmp .lt 7, 3) := by decide +kernel
theorem dJ9_max_7cf53_5 : decode cJ9_max_7cf53 5 = .ok (.iload_n 0, 1) := by decide +kernel
theorem dJ9_max_7cf53_6 : decode cJ9_max_7cf53 6 = .ok (.goto 4, 3) := by decide +kernel
theorem dJ9_max_7cf53_9 : decode cJ9_max_7cf53 9 = .ok (.iload_n 1, 1) := by decide +kernel
theorem dJ9_max_7cf53_10 : decode cJ9_max_7cf53 10 = .ok (.ireturn, 1) := by decide +kernel
theorem dJ9_min_7cf53_0 : decode cJ9_min_7cf53 0 = .ok (.iload_n 0, 1) := by decide +kernel
theorem dJ9_min_7cf53_1 : decode cJ9_min_7cf53 1 = .ok (.iload_n 1, 1) := by decide +kernel
theorem dJ9_min_7cf53_2 : decode cJ9_min_7cf53 2 = .ok (.if_icmp .gt 7, 3) := by decide +kernel
theorem dJ9_min_7cf53_5 : decode cJ9_min_7cf53 5 = .ok (.iload_n 0, 1) := by decide +kernel
theorem dJ9_min_7cf53_6 : decode cJ9_min_7cf53 6 = .ok (.goto 4, 3) := by decide +kernel
theorem dJ9_min_7cf53_9 : decode cJ9_min_7cf53 9 = .ok (.iload_n 1, 1) := by decide +kernel
theorem dJ9_min_7cf53_10 : decode cJ9_min_7cf53 10 = .ok (.ireturn, 1) := by decide +kernel
