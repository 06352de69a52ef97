theorem dX0_init_0 : decode cX0_init 0 = .ok (.aload_n 0, 1) := by decide +kernel
theorem dX0_init_1 : decode cX0_init 1 = .ok (.invokespecial 3, 3) := by decide +kernel
theorem dX0_init_4 : decode cX0_init 4 = .ok (.aload_n 0, 1) := by decide +kernel
theorem dX0_init_5 : decode cX0_init 5 = .ok (.bipush 6, 2) := by decide +kernel
theorem dX0_init_7 : decode cX0_init 7 = .ok (.newarray .int, 2) := by decide +kernel
theorem dX0_init_9 : decode cX0_init 9 = .ok (.putfield 9, 3) := by decide +kernel
theorem dX0_init_12 : decode cX0_init 12 = .ok (.aload_n 0, 1) := by decide +kernel
theorem dX0_init_13 : decode cX0_init 13 = .ok (.bipush 6, 2) := by decide +kernel
theorem dX0_init_15 : decode cX0_init 15 = .ok (.newarray .int, 2) := by decide +kernel
theorem dX0_init_17 : decode cX0_init 17 = .ok (.putfield 15, 3) := by decide +kernel
theorem dX0_init_20 : decode cX0_init 20 = .ok (.aload_n 0, 1) := by decide +kernel
theorem dX0_init_21 : decode cX0_init 21 = .ok (.bipush 8, 2) := by decide +kernel
theorem dX0_init_23 : decode cX0_init 23 = .ok (.newarray .int, 2) := by decide +kernel
theorem dX0_init_25 : decode cX0_init 25 = .ok (.putfield 18, 3) := by decide +kernel
theorem dX0_init_28 : decode cX0_init 28 = .ok (.aload_n 0, 1) := by decide +kernel
theorem dX0_init_29 : decode cX0_init 29 = .ok (.bipush 8, 2) := by decide +kernel
theorem dX0_init_31 : decode cX0_init 31 = .ok (.newarray .int, 2) := by decide +kernel
theorem dX0_init_33 : decode cX0_init 33 = .ok (.putfield 21, 3) := by decide +kernel
theorem dX0_init_36 : decode cX0_init 36 = .ok (.aload_n 0, 1) := by decide +kernel
theorem dX0_init_37 : decode cX0_init 37 = .ok (.bipush 8, 2) := by decide +kernel
theorem dX0_init_39 : decode cX0_init 39 = .ok (.newarray .int, 2) := by decide +kernel
theorem dX0_init_41 : decode cX0_init 41 = .ok (.putfield 24, 3) := by decide +kernel
theorem dX0_init_44 : decode cX0_init 44 = .ok (.aload_n 0, 1) := by decide +kernel
theorem dX0_init_45 : decode cX0_init 45 = .ok (.bipush 8, 2) := by decide +kernel
theorem dX0_init_47 : decode cX0_init 47 = .ok (.newarray .int, 2) := by decide +kernel
theorem dX0_init_49 : decode cX0_init 49 = .ok (.putfield 27, 3) := by decide +kernel
theorem dX0_init_52 : decode cX0_init 52 = .ok (.aload_n 0, 1) := by decide +kernel
theorem dX0_init_53 : decode cX0_init 53 = .ok (.bipush 8, 2) := by decide +kernel
theorem dX0_init_55 : decode cX0_init 55 = .ok (.newarray .int, 2) := by decide +kernel
theorem dX0_init_57 : decode cX0_init 57 = .ok (.putfield 30, 3) := by decide +kernel
theorem dX0_init_60 : decode cX0_init 60 = .ok (.aload_n 0, 1) := by decide +kernel
theorem dX0_init_61 : decode cX0_init 61 = .ok (.bipush 8, 2) := by decide +kernel
theorem dX0_init_63 : decode cX0_init 63 = .ok (.newarray .int, 2) := by decide +kernel
theorem dX0_init_65 : decode cX0_init 65 = .ok (.putfield 33, 3) := by decide +kernel
theorem dX0_init_68 : decode cX0_init 68 = .ok (.aload_n 0, 1) := by decide +kernel
theorem dX0_init_69 : decode cX0_init 69 = .ok (.bipush 8, 2) := by decide +kernel
theorem dX0_init_71 : decode cX0_init 71 = .ok (.newarray .int, 2) := by decide +kernel
theorem dX0_init_73 : decode cX0_init 73 = .ok (.putfield 36, 3) := by decide +kernel
theorem dX0_init_76 : decode cX0_init 76 = .ok (.aload_n 0, 1) := by decide +kernel
theorem dX0_init_77 : decode cX0_init 77 = .ok (.bipush 10, 2) := by decide +kernel
theorem dX0_init_79 : decode cX0_init 79 = .ok (.newarray .int, 2) := by decide +kernel
theorem dX0_init_81 : decode cX0_init 81 = .ok (.putfield 39, 3) := by decide +kernel
theorem dX0_init_84 : decode cX0_init 84 = .ok (.aload_n 0, 1) := by decide +kernel
theorem dX0_init_85 : decode cX0_init 85 = .ok (.iconst 0, 1) := by decide +kernel
theorem dX0_init_86 : decode cX0_init 86 = .ok (.putfield 42, 3) := by decide +kernel
theorem dX0_init_89 : decode cX0_init 89 = .ok (.aload_n 0, 1) := by decide +kernel
theorem dX0_init_90 : decode cX0_init 90 = .ok (.iconst 0, 1) := by decide +kernel
theorem dX0_init_91 : decode cX0_init 91 = .ok (.putfield 46, 3) := by decide +kernel
theorem dX0_init_94 : decode cX0_init 94 = .ok (.aload_n 0, 1) := by decide +kernel
theorem dX0_init_95 : decode cX0_init 95 = .ok (.iconst 0, 1) := by decide +kernel
theorem dX0_init_96 : decode cX0_init 96 = .ok (.putfield 49, 3) := by decide +kernel
theorem dX0_init_99 : decode cX0_init 99 = .ok (.aload_n 0, 1) := by decide +kernel
theorem dX0_init_100 : decode cX0_init 100 = .ok (.iconst 1, 1) := by decide +kernel
theorem dX0_init_101 : decode cX0_init 101 = .ok (.putfield 52, 3) := by decide +kernel
theorem dX0_init_104 : decode cX0_init 104 = .ok (.iconst 0, 1) := by decide +kernel
theorem dX0_init_105 : decode cX0_init 105 = .ok (.istore_n 1, 1) := by decide +kernel
theorem dX0_init_106 : decode cX0_init 106 = .ok (.iload_n 1, 1) := by decide +kernel
theorem dX0_init_107 : decode cX0_init 107 = .ok (.bipush 6, 2) := by decide +kernel
theorem dX0_init_109 : decode cX0_init 109 = .ok (.if_icmp .ge 17, 3) := by decide +kernel
theorem dX0_init_112 : decode cX0_init 112 = .ok (.aload_n 0, 1) := by decide +kernel
theorem dX0_init_113 : decode cX0_init 113 = .ok (.getfield 15, 3) := by decide +kernel
theorem dX0_init_116 : decode cX0_init 116 = .ok (.iload_n 1, 1) := by decide +kernel
theorem dX0_init_117 : decode cX0_init 117 = .ok (.bipush 10, 2) := by decide +kernel
theorem dX0_init_119 : decode cX0_init 119 = .ok (.iastore, 1) := by decide +kernel
theorem dX0_init_120 : decode cX0_init 120 = .ok (.iinc 1 1, 3) := by decide +kernel
theorem dX0_init_123 : decode cX0_init 123 = .ok (.goto (-17), 3) := by decide +kernel
theorem dX0_init_126 : decode cX0_init 126 = .ok (.iconst 0, 1) := by decide +kernel
theorem dX0_init_127 : decode cX0_init 127 = .ok (.istore_n 1, 1) := by decide +kernel
theorem dX0_init_128 : decode cX0_init 128 = .ok (.iload_n 1, 1) := by decide +kernel
theorem dX0_init_129 : decode cX0_init 129 = .ok (.bipush 10, 2) := by decide +kernel
theorem dX0_init_131 : decode cX0_init 131 = .ok (.if_icmp .ge 16, 3) := by decide +kernel
theorem dX0_init_134 : decode cX0_init 134 = .ok (.aload_n 0, 1) := by decide +kernel
theorem dX0_init_135 : decode cX0_init 135 = .ok (.getfield 39, 3) := by decide +kernel
theorem dX0_init_138 : decode cX0_init 138 = .ok (.iload_n 1, 1) := by decide +kernel
theorem dX0_init_139 : decode cX0_init 139 = .ok (.iconst (-1), 1) := by decide +kernel
theorem dX0_init_140 : decode cX0_init 140 = .ok (.iastore, 1) := by decide +kernel
theorem dX0_init_141 : decode cX0_init 141 = .ok (.iinc 1 1, 3) := by decide +kernel
theorem dX0_init_144 : decode cX0_init 144 = .ok (.goto (-16), 3) := by decide +kernel
theorem dX0_init_147 : decode cX0_init 147 = .ok (.return_, 1) := by decide +kernel
theorem dX0_takeFrom_0 : decode cX0_takeFrom 0 = .ok (.aload_n 1, 1) := by decide +kernel
theorem dX0_takeFrom_1 : decode cX0_takeFrom 1 = .ok (.getfield 9, 3) := by decide +kernel
theorem dX0_takeFrom_4 : decode cX0_takeFrom 4 = .ok (.iconst 0, 1) := by decide +kernel
theorem dX0_takeFrom_5 : decode cX0_takeFrom 5 = .ok (.aload_n 0, 1) := by decide +kernel
theorem dX0_takeFrom_6 : decode cX0_takeFrom 6 = .ok (.getfield 9, 3) := by decide +kernel
theorem dX0_takeFrom_9 : decode cX0_takeFrom 9 = .ok (.iconst 0, 1) := by decide +kernel
theorem dX0_takeFrom_10 : decode cX0_takeFrom 10 = .ok (.bipush 6, 2) := by decide +kernel
theorem dX0_takeFrom_12 : decode cX0_takeFrom 12 = .ok (.invokestatic 55, 3) := by decide +kernel
theorem dX0_takeFrom_15 : decode cX0_takeFrom 15 = .ok (.aload_n 1, 1) := by decide +kernel
theorem dX0_takeFrom_16 : decode cX0_takeFrom 16 = .ok (.getfield 15, 3) := by decide +kernel
theorem dX0_takeFrom_19 : decode cX0_takeFrom 19 = .ok (.iconst 0, 1) := by decide +kernel
theorem dX0_takeFrom_20 : decode cX0_takeFrom 20 = .ok (.aload_n 0, 1) := by decide +kernel
theorem dX0_takeFrom_21 : decode cX0_takeFrom 21 = .ok (.getfield 15, 3) := by decide +kernel
theorem dX0_takeFrom_24 : decode cX0_takeFrom 24 = .ok (.iconst 0, 1) := by decide +kernel
theorem dX0_takeFrom_25 : decode cX0_takeFrom 25 = .ok (.bipush 6, 2) := by decide +kernel
theorem dX0_takeFrom_27 : decode cX0_takeFrom 27 = .ok (.invokestatic 55, 3) := by decide +kernel
theorem dX0_takeFrom_30 : decode cX0_takeFrom 30 = .ok (.iconst 0, 1) := by decide +kernel
theorem dX0_takeFrom_31 : decode cX0_takeFrom 31 = .ok (.istore_n 2, 1) := by decide +kernel
theorem dX0_takeFrom_32 : decode cX0_takeFrom 32 = .ok (.iload_n 2, 1) := by decide +kernel
theorem dX0_takeFrom_33 : decode cX0_takeFrom 33 = .ok (.bipush 7, 2) := by decide +kernel
theorem dX0_takeFrom_35 : decode cX0_takeFrom 35 = .ok (.if_icmp .ge 26, 3) := by decide +kernel
theorem dX0_takeFrom_38 : decode cX0_takeFrom 38 = .ok (.aload_n 1, 1) := by decide +kernel
theorem dX0_takeFrom_39 : decode cX0_takeFrom 39 = .ok (.iload_n 2, 1) := by decide +kernel
theorem dX0_takeFrom_40 : decode cX0_takeFrom 40 = .ok (.invokevirtual 61, 3) := by decide +kernel
theorem dX0_takeFrom_43 : decode cX0_takeFrom 43 = .ok (.iconst 0, 1) := by decide +kernel
theorem dX0_takeFrom_44 : decode cX0_takeFrom 44 = .ok (.aload_n 0, 1) := by decide +kernel
theorem dX0_takeFrom_45 : decode cX0_takeFrom 45 = .ok (.iload_n 2, 1) := by decide +kernel
theorem dX0_takeFrom_46 : decode cX0_takeFrom 46 = .ok (.invokevirtual 61, 3) := by decide +kernel
theorem dX0_takeFrom_49 : decode cX0_takeFrom 49 = .ok (.iconst 0, 1) := by decide +kernel
theorem dX0_takeFrom_50 : decode cX0_takeFrom 50 = .ok (.bipush 8, 2) := by decide +kernel
theorem dX0_takeFrom_52 : decode cX0_takeFrom 52 = .ok (.invokestatic 55, 3) := by decide +kernel
theorem dX0_takeFrom_55 : decode cX0_takeFrom 55 = .ok (.iinc 2 1, 3) := by decide +kernel
theorem dX0_takeFrom_58 : decode cX0_takeFrom 58 = .ok (.goto (-26), 3) := by decide +kernel
theorem dX0_takeFrom_61 : decode cX0_takeFrom 61 = .ok (.aload_n 1, 1) := by decide +kernel
theorem dX0_takeFrom_62 : decode cX0_takeFrom 62 = .ok (.getfield 39, 3) := by decide +kernel
theorem dX0_takeFrom_65 : decode cX0_takeFrom 65 = .ok (.iconst 0, 1) := by decide +kernel
theorem dX0_takeFrom_66 : decode cX0_takeFrom 66 = .ok (.aload_n 0, 1) := by decide +kernel
theorem dX0_takeFrom_67 : decode cX0_takeFrom 67 = .ok (.getfield 39, 3) := by decide +kernel
theorem dX0_takeFrom_70 : decode cX0_takeFrom 70 = .ok (.iconst 0, 1) := by decide +kernel
theorem dX0_takeFrom_71 : decode cX0_takeFrom 71 = .ok (.bipush 10, 2) := by decide +kernel
theorem dX0_takeFrom_73 : decode cX0_takeFrom 73 = .ok (.invokestatic 55, 3) := by decide +kernel
theorem dX0_takeFrom_76 : decode cX0_takeFrom 76 = .ok (.aload_n 0, 1) := by decide +kernel
theorem dX0_takeFrom_77 : decode cX0_takeFrom 77 = .ok (.aload_n 1, 1) := by decide +kernel
theorem dX0_takeFrom_78 : decode cX0_takeFrom 78 = .ok (.getfield 42, 3) := by decide +kernel
theorem dX0_takeFrom_81 : decode cX0_takeFrom 81 = .ok (.putfield 42, 3) := by decide +kernel
theorem dX0_takeFrom_84 : decode cX0_takeFrom 84 = .ok (.aload_n 0, 1) := by decide +kernel
theorem dX0_takeFrom_85 : decode cX0_takeFrom 85 = .ok (.aload_n 1, 1) := by decide +kernel
theorem dX0_takeFrom_86 : decode cX0_takeFrom 86 = .ok (.getfield 46, 3) := by decide +kernel
theorem dX0_takeFrom_89 : decode cX0_takeFrom 89 = .ok (.putfield 46, 3) := by decide +kernel
theorem dX0_takeFrom_92 : decode cX0_takeFrom 92 = .ok (.aload_n 0, 1) := by decide +kernel
theorem dX0_takeFrom_93 : decode cX0_takeFrom 93 = .ok (.aload_n 1, 1) := by decide +kernel
theorem dX0_takeFrom_94 : decode cX0_takeFrom 94 = .ok (.getfield 49, 3) := by decide +kernel
theorem dX0_takeFrom_97 : decode cX0_takeFrom 97 = .ok (.putfield 49, 3) := by decide +kernel
theorem dX0_takeFrom_100 : decode cX0_takeFrom 100 = .ok (.aload_n 0, 1) := by decide +kernel
theorem dX0_takeFrom_101 : decode cX0_takeFrom 101 = .ok (.aload_n 1, 1) := by decide +kernel
theorem dX0_takeFrom_102 : decode cX0_takeFrom 102 = .ok (.getfield 52, 3) := by decide +kernel
theorem dX0_takeFrom_105 : decode cX0_takeFrom 105 = .ok (.putfield 52, 3) := by decide +kernel
theorem dX0_takeFrom_108 : decode cX0_takeFrom 108 = .ok (.return_, 1) := by decide +kernel
theorem dX0_marksOf_0 : decode cX0_marksOf 0 = .ok (.iload_n 1, 1) := by decide +kernel
theorem dX0_marksOf_1 : decode cX0_marksOf 1 = .ok (.tableswitch 69 0 5 #[39, 44, 49, 54, 59, 64], 39) := by decide +kernel
theorem dX0_marksOf_40 : decode cX0_marksOf 40 = .ok (.aload_n 0, 1) := by decide +kernel
theorem dX0_marksOf_41 : decode cX0_marksOf 41 = .ok (.getfield 18, 3) := by decide +kernel
theorem dX0_marksOf_44 : decode cX0_marksOf 44 = .ok (.areturn, 1) := by decide +kernel
theorem dX0_marksOf_45 : decode cX0_marksOf 45 = .ok (.aload_n 0, 1) := by decide +kernel
theorem dX0_marksOf_46 : decode cX0_marksOf 46 = .ok (.getfield 21, 3) := by decide +kernel
theorem dX0_marksOf_49 : decode cX0_marksOf 49 = .ok (.areturn, 1) := by decide +kernel
theorem dX0_marksOf_50 : decode cX0_marksOf 50 = .ok (.aload_n 0, 1) := by decide +kernel
theorem dX0_marksOf_51 : decode cX0_marksOf 51 = .ok (.getfield 24, 3) := by decide +kernel
theorem dX0_marksOf_54 : decode cX0_marksOf 54 = .ok (.areturn, 1) := by decide +kernel
theorem dX0_marksOf_55 : decode cX0_marksOf 55 = .ok (.aload_n 0, 1) := by decide +kernel
theorem dX0_marksOf_56 : decode cX0_marksOf 56 = .ok (.getfield 27, 3) := by decide +kernel
theorem dX0_marksOf_59 : decode cX0_marksOf 59 = .ok (.areturn, 1) := by decide +kernel
theorem dX0_marksOf_60 : decode cX0_marksOf 60 = .ok (.aload_n 0, 1) := by decide +kernel
theorem dX0_marksOf_61 : decode cX0_marksOf 61 = .ok (.getfield 30, 3) := by decide +kernel
theorem dX0_marksOf_64 : decode cX0_marksOf 64 = .ok (.areturn, 1) := by decide +kernel
theorem dX0_marksOf_65 : decode cX0_marksOf 65 = .ok (.aload_n 0, 1) := by decide +kernel
theorem dX0_marksOf_66 : decode cX0_marksOf 66 = .ok (.getfield 33, 3) := by decide +kernel
theorem dX0_marksOf_69 : decode cX0_marksOf 69 = .ok (.areturn, 1) := by decide +kernel
theorem dX0_marksOf_70 : decode cX0_marksOf 70 = .ok (.aload_n 0, 1) := by decide +kernel
theorem dX0_marksOf_71 : decode cX0_marksOf 71 = .ok (.getfield 36, 3) := by decide +kernel
theorem dX0_marksOf_74 : decode cX0_marksOf 74 = .ok (.areturn, 1) := by decide +kernel
theorem dX0_addCask_0 : decode cX0_addCask 0 = .ok (.aload_n 0, 1) := by decide +kernel
theorem dX0_addCask_1 : decode cX0_addCask 1 = .ok (.getfield 42, 3) := by decide +kernel
theorem dX0_addCask_4 : decode cX0_addCask 4 = .ok (.istore_n 3, 1) := by decide +kernel
theorem dX0_addCask_5 : decode cX0_addCask 5 = .ok (.aload_n 0, 1) := by decide +kernel
theorem dX0_addCask_6 : decode cX0_addCask 6 = .ok (.dup, 1) := by decide +kernel
theorem dX0_addCask_7 : decode cX0_addCask 7 = .ok (.getfield 42, 3) := by decide +kernel
theorem dX0_addCask_10 : decode cX0_addCask 10 = .ok (.iconst 1, 1) := by decide +kernel
theorem dX0_addCask_11 : decode cX0_addCask 11 = .ok (.iadd, 1) := by decide +kernel
theorem dX0_addCask_12 : decode cX0_addCask 12 = .ok (.putfield 42, 3) := by decide +kernel
theorem dX0_addCask_15 : decode cX0_addCask 15 = .ok (.aload_n 0, 1) := by decide +kernel
theorem dX0_addCask_16 : decode cX0_addCask 16 = .ok (.getfield 18, 3) := by decide +kernel
theorem dX0_addCask_19 : decode cX0_addCask 19 = .ok (.iload_n 3, 1) := by decide +kernel
theorem dX0_addCask_20 : decode cX0_addCask 20 = .ok (.iload_n 1, 1) := by decide +kernel
theorem dX0_addCask_21 : decode cX0_addCask 21 = .ok (.iastore, 1) := by decide +kernel
theorem dX0_addCask_22 : decode cX0_addCask 22 = .ok (.aload_n 0, 1) := by decide +kernel
theorem dX0_addCask_23 : decode cX0_addCask 23 = .ok (.getfield 21, 3) := by decide +kernel
theorem dX0_addCask_26 : decode cX0_addCask 26 = .ok (.iload_n 3, 1) := by decide +kernel
theorem dX0_addCask_27 : decode cX0_addCask 27 = .ok (.iload_n 2, 1) := by decide +kernel
theorem dX0_addCask_28 : decode cX0_addCask 28 = .ok (.iastore, 1) := by decide +kernel
theorem dX0_addCask_29 : decode cX0_addCask 29 = .ok (.aload_n 0, 1) := by decide +kernel
theorem dX0_addCask_30 : decode cX0_addCask 30 = .ok (.getfield 24, 3) := by decide +kernel
theorem dX0_addCask_33 : decode cX0_addCask 33 = .ok (.iload_n 3, 1) := by decide +kernel
theorem dX0_addCask_34 : decode cX0_addCask 34 = .ok (.iconst 0, 1) := by decide +kernel
theorem dX0_addCask_35 : decode cX0_addCask 35 = .ok (.iastore, 1) := by decide +kernel
theorem dX0_addCask_36 : decode cX0_addCask 36 = .ok (.aload_n 0, 1) := by decide +kernel
theorem dX0_addCask_37 : decode cX0_addCask 37 = .ok (.getfield 27, 3) := by decide +kernel
theorem dX0_addCask_40 : decode cX0_addCask 40 = .ok (.iload_n 3, 1) := by decide +kernel
theorem dX0_addCask_41 : decode cX0_addCask 41 = .ok (.iconst 0, 1) := by decide +kernel
theorem dX0_addCask_42 : decode cX0_addCask 42 = .ok (.iastore, 1) := by decide +kernel
theorem dX0_addCask_43 : decode cX0_addCask 43 = .ok (.aload_n 0, 1) := by decide +kernel
theorem dX0_addCask_44 : decode cX0_addCask 44 = .ok (.getfield 30, 3) := by decide +kernel
theorem dX0_addCask_47 : decode cX0_addCask 47 = .ok (.iload_n 3, 1) := by decide +kernel
theorem dX0_addCask_48 : decode cX0_addCask 48 = .ok (.bipush 100, 2) := by decide +kernel
theorem dX0_addCask_50 : decode cX0_addCask 50 = .ok (.iastore, 1) := by decide +kernel
theorem dX0_addCask_51 : decode cX0_addCask 51 = .ok (.aload_n 0, 1) := by decide +kernel
theorem dX0_addCask_52 : decode cX0_addCask 52 = .ok (.getfield 33, 3) := by decide +kernel
theorem dX0_addCask_55 : decode cX0_addCask 55 = .ok (.iload_n 3, 1) := by decide +kernel
theorem dX0_addCask_56 : decode cX0_addCask 56 = .ok (.iconst 0, 1) := by decide +kernel
theorem dX0_addCask_57 : decode cX0_addCask 57 = .ok (.iastore, 1) := by decide +kernel
theorem dX0_addCask_58 : decode cX0_addCask 58 = .ok (.aload_n 0, 1) := by decide +kernel
theorem dX0_addCask_59 : decode cX0_addCask 59 = .ok (.getfield 36, 3) := by decide +kernel
theorem dX0_addCask_62 : decode cX0_addCask 62 = .ok (.iload_n 3, 1) := by decide +kernel
theorem dX0_addCask_63 : decode cX0_addCask 63 = .ok (.iconst 0, 1) := by decide +kernel
theorem dX0_addCask_64 : decode cX0_addCask 64 = .ok (.iastore, 1) := by decide +kernel
theorem dX0_addCask_65 : decode cX0_addCask 65 = .ok (.iload_n 3, 1) := by decide +kernel
theorem dX0_addCask_66 : decode cX0_addCask 66 = .ok (.ireturn, 1) := by decide +kernel
theorem dX0_makeEmpty_0 : decode cX0_makeEmpty 0 = .ok (.aload_n 0, 1) := by decide +kernel
theorem dX0_makeEmpty_1 : decode cX0_makeEmpty 1 = .ok (.getfield 24, 3) := by decide +kernel
theorem dX0_makeEmpty_4 : decode cX0_makeEmpty 4 = .ok (.iload_n 1, 1) := by decide +kernel
theorem dX0_makeEmpty_5 : decode cX0_makeEmpty 5 = .ok (.iconst 0, 1) := by decide +kernel
theorem dX0_makeEmpty_6 : decode cX0_makeEmpty 6 = .ok (.iastore, 1) := by decide +kernel
theorem dX0_makeEmpty_7 : decode cX0_makeEmpty 7 = .ok (.aload_n 0, 1) := by decide +kernel
theorem dX0_makeEmpty_8 : decode cX0_makeEmpty 8 = .ok (.getfield 33, 3) := by decide +kernel
theorem dX0_makeEmpty_11 : decode cX0_makeEmpty 11 = .ok (.iload_n 1, 1) := by decide +kernel
theorem dX0_makeEmpty_12 : decode cX0_makeEmpty 12 = .ok (.iconst 0, 1) := by decide +kernel
theorem dX0_makeEmpty_13 : decode cX0_makeEmpty 13 = .ok (.iastore, 1) := by decide +kernel
theorem dX0_makeEmpty_14 : decode cX0_makeEmpty 14 = .ok (.return_, 1) := by decide +kernel
theorem dX0_makeEmptyAll_0 : decode cX0_makeEmptyAll 0 = .ok (.iconst 0, 1) := by decide +kernel
theorem dX0_makeEmptyAll_1 : decode cX0_makeEmptyAll 1 = .ok (.istore_n 2, 1) := by decide +kernel
theorem dX0_makeEmptyAll_2 : decode cX0_makeEmptyAll 2 = .ok (.iload_n 2, 1) := by decide +kernel
theorem dX0_makeEmptyAll_3 : decode cX0_makeEmptyAll 3 = .ok (.aload_n 0, 1) := by decide +kernel
theorem dX0_makeEmptyAll_4 : decode cX0_makeEmptyAll 4 = .ok (.getfield 42, 3) := by decide +kernel
theorem dX0_makeEmptyAll_7 : decode cX0_makeEmptyAll 7 = .ok (.if_icmp .ge 22, 3) := by decide +kernel
theorem dX0_makeEmptyAll_10 : decode cX0_makeEmptyAll 10 = .ok (.iload_n 1, 1) := by decide +kernel
theorem dX0_makeEmptyAll_11 : decode cX0_makeEmptyAll 11 = .ok (.iload_n 2, 1) := by decide +kernel
theorem dX0_makeEmptyAll_12 : decode cX0_makeEmptyAll 12 = .ok (.ishr, 1) := by decide +kernel
theorem dX0_makeEmptyAll_13 : decode cX0_makeEmptyAll 13 = .ok (.iconst 1, 1) := by decide +kernel
theorem dX0_makeEmptyAll_14 : decode cX0_makeEmptyAll 14 = .ok (.iand, 1) := by decide +kernel
theorem dX0_makeEmptyAll_15 : decode cX0_makeEmptyAll 15 = .ok (.ifCond .eq 8, 3) := by decide +kernel
theorem dX0_makeEmptyAll_18 : decode cX0_makeEmptyAll 18 = .ok (.aload_n 0, 1) := by decide +kernel
theorem dX0_makeEmptyAll_19 : decode cX0_makeEmptyAll 19 = .ok (.iload_n 2, 1) := by decide +kernel
theorem dX0_makeEmptyAll_20 : decode cX0_makeEmptyAll 20 = .ok (.invokevirtual 65, 3) := by decide +kernel
theorem dX0_makeEmptyAll_23 : decode cX0_makeEmptyAll 23 = .ok (.iinc 2 1, 3) := by decide +kernel
theorem dX0_makeEmptyAll_26 : decode cX0_makeEmptyAll 26 = .ok (.goto (-24), 3) := by decide +kernel
theorem dX0_makeEmptyAll_29 : decode cX0_makeEmptyAll 29 = .ok (.return_, 1) := by decide +kernel
theorem dX0_draw_0 : decode cX0_draw 0 = .ok (.aload_n 0, 1) := by decide +kernel
theorem dX0_draw_1 : decode cX0_draw 1 = .ok (.aload_n 0, 1) := by decide +kernel
theorem dX0_draw_2 : decode cX0_draw 2 = .ok (.getfield 52, 3) := by decide +kernel
theorem dX0_draw_5 : decode cX0_draw 5 = .ok (.ldc 69, 2) := by decide +kernel
theorem dX0_draw_7 : decode cX0_draw 7 = .ok (.imul, 1) := by decide +kernel
theorem dX0_draw_8 : decode cX0_draw 8 = .ok (.sipush 12345, 3) := by decide +kernel
theorem dX0_draw_11 : decode cX0_draw 11 = .ok (.iadd, 1) := by decide +kernel
theorem dX0_draw_12 : decode cX0_draw 12 = .ok (.putfield 52, 3) := by decide +kernel
theorem dX0_draw_15 : decode cX0_draw 15 = .ok (.aload_n 0, 1) := by decide +kernel
theorem dX0_draw_16 : decode cX0_draw 16 = .ok (.getfield 52, 3) := by decide +kernel
theorem dX0_draw_19 : decode cX0_draw 19 = .ok (.bipush 8, 2) := by decide +kernel
theorem dX0_draw_21 : decode cX0_draw 21 = .ok (.iushr, 1) := by decide +kernel
theorem dX0_draw_22 : decode cX0_draw 22 = .ok (.ireturn, 1) := by decide +kernel
theorem dX0_loudOf_0 : decode cX0_loudOf 0 = .ok (.aload_n 0, 1) := by decide +kernel
theorem dX0_loudOf_1 : decode cX0_loudOf 1 = .ok (.getfield 18, 3) := by decide +kernel
theorem dX0_loudOf_4 : decode cX0_loudOf 4 = .ok (.iload_n 1, 1) := by decide +kernel
theorem dX0_loudOf_5 : decode cX0_loudOf 5 = .ok (.iaload, 1) := by decide +kernel
theorem dX0_loudOf_6 : decode cX0_loudOf 6 = .ok (.tableswitch 97 1 6 #[38, 44, 50, 58, 74, 76], 38) := by decide +kernel
theorem dX0_loudOf_44 : decode cX0_loudOf 44 = .ok (.aload_n 0, 1) := by decide +kernel
theorem dX0_loudOf_45 : decode cX0_loudOf 45 = .ok (.iload_n 1, 1) := by decide +kernel
theorem dX0_loudOf_46 : decode cX0_loudOf 46 = .ok (.invokevirtual 70, 3) := by decide +kernel
theorem dX0_loudOf_49 : decode cX0_loudOf 49 = .ok (.ireturn, 1) := by decide +kernel
theorem dX0_loudOf_50 : decode cX0_loudOf 50 = .ok (.aload_n 0, 1) := by decide +kernel
theorem dX0_loudOf_51 : decode cX0_loudOf 51 = .ok (.iload_n 1, 1) := by decide +kernel
theorem dX0_loudOf_52 : decode cX0_loudOf 52 = .ok (.invokevirtual 74, 3) := by decide +kernel
theorem dX0_loudOf_55 : decode cX0_loudOf 55 = .ok (.ireturn, 1) := by decide +kernel
theorem dX0_loudOf_56 : decode cX0_loudOf 56 = .ok (.aload_n 0, 1) := by decide +kernel
theorem dX0_loudOf_57 : decode cX0_loudOf 57 = .ok (.iload_n 1, 1) := by decide +kernel
theorem dX0_loudOf_58 : decode cX0_loudOf 58 = .ok (.invokevirtual 74, 3) := by decide +kernel
theorem dX0_loudOf_61 : decode cX0_loudOf 61 = .ok (.iconst 2, 1) := by decide +kernel
theorem dX0_loudOf_62 : decode cX0_loudOf 62 = .ok (.idiv, 1) := by decide +kernel
theorem dX0_loudOf_63 : decode cX0_loudOf 63 = .ok (.ireturn, 1) := by decide +kernel
theorem dX0_loudOf_64 : decode cX0_loudOf 64 = .ok (.aload_n 0, 1) := by decide +kernel
theorem dX0_loudOf_65 : decode cX0_loudOf 65 = .ok (.iload_n 1, 1) := by decide +kernel
theorem dX0_loudOf_66 : decode cX0_loudOf 66 = .ok (.invokevirtual 74, 3) := by decide +kernel
theorem dX0_loudOf_69 : decode cX0_loudOf 69 = .ok (.iconst 2, 1) := by decide +kernel
theorem dX0_loudOf_70 : decode cX0_loudOf 70 = .ok (.idiv, 1) := by decide +kernel
theorem dX0_loudOf_71 : decode cX0_loudOf 71 = .ok (.iconst 5, 1) := by decide +kernel
theorem dX0_loudOf_72 : decode cX0_loudOf 72 = .ok (.aload_n 0, 1) := by decide +kernel
theorem dX0_loudOf_73 : decode cX0_loudOf 73 = .ok (.iload_n 1, 1) := by decide +kernel
theorem dX0_loudOf_74 : decode cX0_loudOf 74 = .ok (.invokevirtual 77, 3) := by decide +kernel
theorem dX0_loudOf_77 : decode cX0_loudOf 77 = .ok (.imul, 1) := by decide +kernel
theorem dX0_loudOf_78 : decode cX0_loudOf 78 = .ok (.iadd, 1) := by decide +kernel
theorem dX0_loudOf_79 : decode cX0_loudOf 79 = .ok (.ireturn, 1) := by decide +kernel
theorem dX0_loudOf_80 : decode cX0_loudOf 80 = .ok (.iconst 0, 1) := by decide +kernel
theorem dX0_loudOf_81 : decode cX0_loudOf 81 = .ok (.ireturn, 1) := by decide +kernel
theorem dX0_loudOf_82 : decode cX0_loudOf 82 = .ok (.aload_n 0, 1) := by decide +kernel
theorem dX0_loudOf_83 : decode cX0_loudOf 83 = .ok (.getfield 33, 3) := by decide +kernel
theorem dX0_loudOf_86 : decode cX0_loudOf 86 = .ok (.iload_n 1, 1) := by decide +kernel
theorem dX0_loudOf_87 : decode cX0_loudOf 87 = .ok (.iaload, 1) := by decide +kernel
theorem dX0_loudOf_88 : decode cX0_loudOf 88 = .ok (.bipush 10, 2) := by decide +kernel
theorem dX0_loudOf_90 : decode cX0_loudOf 90 = .ok (.if_icmp .lt 7, 3) := by decide +kernel
theorem dX0_loudOf_93 : decode cX0_loudOf 93 = .ok (.iconst 0, 1) := by decide +kernel
theorem dX0_loudOf_94 : decode cX0_loudOf 94 = .ok (.goto 8, 3) := by decide +kernel
theorem dX0_loudOf_97 : decode cX0_loudOf 97 = .ok (.aload_n 0, 1) := by decide +kernel
theorem dX0_loudOf_98 : decode cX0_loudOf 98 = .ok (.iload_n 1, 1) := by decide +kernel
theorem dX0_loudOf_99 : decode cX0_loudOf 99 = .ok (.invokevirtual 70, 3) := by decide +kernel
theorem dX0_loudOf_102 : decode cX0_loudOf 102 = .ok (.ireturn, 1) := by decide +kernel
theorem dX0_loudOf_103 : decode cX0_loudOf 103 = .ok (.aload_n 0, 1) := by decide +kernel
theorem dX0_loudOf_104 : decode cX0_loudOf 104 = .ok (.getfield 24, 3) := by decide +kernel
theorem dX0_loudOf_107 : decode cX0_loudOf 107 = .ok (.iload_n 1, 1) := by decide +kernel
theorem dX0_loudOf_108 : decode cX0_loudOf 108 = .ok (.iaload, 1) := by decide +kernel
theorem dX0_loudOf_109 : decode cX0_loudOf 109 = .ok (.ireturn, 1) := by decide +kernel
theorem dX0_crackLoud_0 : decode cX0_crackLoud 0 = .ok (.iconst 0, 1) := by decide +kernel
theorem dX0_crackLoud_1 : decode cX0_crackLoud 1 = .ok (.iconst 2, 1) := by decide +kernel
theorem dX0_crackLoud_2 : decode cX0_crackLoud 2 = .ok (.aload_n 0, 1) := by decide +kernel
theorem dX0_crackLoud_3 : decode cX0_crackLoud 3 = .ok (.getfield 24, 3) := by decide +kernel
theorem dX0_crackLoud_6 : decode cX0_crackLoud 6 = .ok (.iload_n 1, 1) := by decide +kernel
theorem dX0_crackLoud_7 : decode cX0_crackLoud 7 = .ok (.iaload, 1) := by decide +kernel
theorem dX0_crackLoud_8 : decode cX0_crackLoud 8 = .ok (.imul, 1) := by decide +kernel
theorem dX0_crackLoud_9 : decode cX0_crackLoud 9 = .ok (.aload_n 0, 1) := by decide +kernel
theorem dX0_crackLoud_10 : decode cX0_crackLoud 10 = .ok (.getfield 33, 3) := by decide +kernel
theorem dX0_crackLoud_13 : decode cX0_crackLoud 13 = .ok (.iload_n 1, 1) := by decide +kernel
theorem dX0_crackLoud_14 : decode cX0_crackLoud 14 = .ok (.iaload, 1) := by decide +kernel
theorem dX0_crackLoud_15 : decode cX0_crackLoud 15 = .ok (.isub, 1) := by decide +kernel
theorem dX0_crackLoud_16 : decode cX0_crackLoud 16 = .ok (.invokestatic 80, 3) := by decide +kernel
theorem dX0_crackLoud_19 : decode cX0_crackLoud 19 = .ok (.ireturn, 1) := by decide +kernel
theorem dX0_rollLoud_0 : decode cX0_rollLoud 0 = .ok (.aload_n 0, 1) := by decide +kernel
theorem dX0_rollLoud_1 : decode cX0_rollLoud 1 = .ok (.getfield 24, 3) := by decide +kernel
theorem dX0_rollLoud_4 : decode cX0_rollLoud 4 = .ok (.iload_n 1, 1) := by decide +kernel
theorem dX0_rollLoud_5 : decode cX0_rollLoud 5 = .ok (.iaload, 1) := by decide +kernel
theorem dX0_rollLoud_6 : decode cX0_rollLoud 6 = .ok (.aload_n 0, 1) := by decide +kernel
theorem dX0_rollLoud_7 : decode cX0_rollLoud 7 = .ok (.getfield 24, 3) := by decide +kernel
theorem dX0_rollLoud_10 : decode cX0_rollLoud 10 = .ok (.iload_n 1, 1) := by decide +kernel
theorem dX0_rollLoud_11 : decode cX0_rollLoud 11 = .ok (.iaload, 1) := by decide +kernel
theorem dX0_rollLoud_12 : decode cX0_rollLoud 12 = .ok (.iconst 4, 1) := by decide +kernel
theorem dX0_rollLoud_13 : decode cX0_rollLoud 13 = .ok (.idiv, 1) := by decide +kernel
theorem dX0_rollLoud_14 : decode cX0_rollLoud 14 = .ok (.isub, 1) := by decide +kernel
theorem dX0_rollLoud_15 : decode cX0_rollLoud 15 = .ok (.aload_n 0, 1) := by decide +kernel
theorem dX0_rollLoud_16 : decode cX0_rollLoud 16 = .ok (.getfield 33, 3) := by decide +kernel
theorem dX0_rollLoud_19 : decode cX0_rollLoud 19 = .ok (.iload_n 1, 1) := by decide +kernel
theorem dX0_rollLoud_20 : decode cX0_rollLoud 20 = .ok (.iaload, 1) := by decide +kernel
theorem dX0_rollLoud_21 : decode cX0_rollLoud 21 = .ok (.iadd, 1) := by decide +kernel
theorem dX0_rollLoud_22 : decode cX0_rollLoud 22 = .ok (.ireturn, 1) := by decide +kernel
theorem dX0_othersBeside_0 : decode cX0_othersBeside 0 = .ok (.iconst 0, 1) := by decide +kernel
theorem dX0_othersBeside_1 : decode cX0_othersBeside 1 = .ok (.istore_n 2, 1) := by decide +kernel
theorem dX0_othersBeside_2 : decode cX0_othersBeside 2 = .ok (.iconst 0, 1) := by decide +kernel
theorem dX0_othersBeside_3 : decode cX0_othersBeside 3 = .ok (.istore_n 3, 1) := by decide +kernel
theorem dX0_othersBeside_4 : decode cX0_othersBeside 4 = .ok (.iload_n 3, 1) := by decide +kernel
theorem dX0_othersBeside_5 : decode cX0_othersBeside 5 = .ok (.aload_n 0, 1) := by decide +kernel
theorem dX0_othersBeside_6 : decode cX0_othersBeside 6 = .ok (.getfield 42, 3) := by decide +kernel
theorem dX0_othersBeside_9 : decode cX0_othersBeside 9 = .ok (.if_icmp .ge 32, 3) := by decide +kernel
theorem dX0_othersBeside_12 : decode cX0_othersBeside 12 = .ok (.iload_n 3, 1) := by decide +kernel
theorem dX0_othersBeside_13 : decode cX0_othersBeside 13 = .ok (.iload_n 1, 1) := by decide +kernel
theorem dX0_othersBeside_14 : decode cX0_othersBeside 14 = .ok (.if_icmp .eq 21, 3) := by decide +kernel
theorem dX0_othersBeside_17 : decode cX0_othersBeside 17 = .ok (.aload_n 0, 1) := by decide +kernel
theorem dX0_othersBeside_18 : decode cX0_othersBeside 18 = .ok (.getfield 21, 3) := by decide +kernel
theorem dX0_othersBeside_21 : decode cX0_othersBeside 21 = .ok (.iload_n 3, 1) := by decide +kernel
theorem dX0_othersBeside_22 : decode cX0_othersBeside 22 = .ok (.iaload, 1) := by decide +kernel
theorem dX0_othersBeside_23 : decode cX0_othersBeside 23 = .ok (.aload_n 0, 1) := by decide +kernel
theorem dX0_othersBeside_24 : decode cX0_othersBeside 24 = .ok (.getfield 21, 3) := by decide +kernel
theorem dX0_othersBeside_27 : decode cX0_othersBeside 27 = .ok (.iload_n 1, 1) := by decide +kernel
theorem dX0_othersBeside_28 : decode cX0_othersBeside 28 = .ok (.iaload, 1) := by decide +kernel
theorem dX0_othersBeside_29 : decode cX0_othersBeside 29 = .ok (.if_icmp .ne 6, 3) := by decide +kernel
theorem dX0_othersBeside_32 : decode cX0_othersBeside 32 = .ok (.iinc 2 1, 3) := by decide +kernel
theorem dX0_othersBeside_35 : decode cX0_othersBeside 35 = .ok (.iinc 3 1, 3) := by decide +kernel
theorem dX0_othersBeside_38 : decode cX0_othersBeside 38 = .ok (.goto (-34), 3) := by decide +kernel
theorem dX0_othersBeside_41 : decode cX0_othersBeside 41 = .ok (.iload_n 2, 1) := by decide +kernel
theorem dX0_othersBeside_42 : decode cX0_othersBeside 42 = .ok (.ireturn, 1) := by decide +kernel
theorem dX0_leaksOf_0 : decode cX0_leaksOf 0 = .ok (.aload_n 0, 1) := by decide +kernel
theorem dX0_leaksOf_1 : decode cX0_leaksOf 1 = .ok (.getfield 18, 3) := by decide +kernel
theorem dX0_leaksOf_4 : decode cX0_leaksOf 4 = .ok (.iload_n 1, 1) := by decide +kernel
theorem dX0_leaksOf_5 : decode cX0_leaksOf 5 = .ok (.iaload, 1) := by decide +kernel
theorem dX0_leaksOf_6 : decode cX0_leaksOf 6 = .ok (.tableswitch 48 1 6 #[38, 48, 40, 42, 44, 46], 38) := by decide +kernel
theorem dX0_leaksOf_44 : decode cX0_leaksOf 44 = .ok (.iconst 3, 1) := by decide +kernel
theorem dX0_leaksOf_45 : decode cX0_leaksOf 45 = .ok (.ireturn, 1) := by decide +kernel
theorem dX0_leaksOf_46 : decode cX0_leaksOf 46 = .ok (.iconst 0, 1) := by decide +kernel
theorem dX0_leaksOf_47 : decode cX0_leaksOf 47 = .ok (.ireturn, 1) := by decide +kernel
theorem dX0_leaksOf_48 : decode cX0_leaksOf 48 = .ok (.iconst 0, 1) := by decide +kernel
theorem dX0_leaksOf_49 : decode cX0_leaksOf 49 = .ok (.ireturn, 1) := by decide +kernel
theorem dX0_leaksOf_50 : decode cX0_leaksOf 50 = .ok (.iconst 5, 1) := by decide +kernel
theorem dX0_leaksOf_51 : decode cX0_leaksOf 51 = .ok (.ireturn, 1) := by decide +kernel
theorem dX0_leaksOf_52 : decode cX0_leaksOf 52 = .ok (.iconst 5, 1) := by decide +kernel
theorem dX0_leaksOf_53 : decode cX0_leaksOf 53 = .ok (.ireturn, 1) := by decide +kernel
theorem dX0_leaksOf_54 : decode cX0_leaksOf 54 = .ok (.iconst 1, 1) := by decide +kernel
theorem dX0_leaksOf_55 : decode cX0_leaksOf 55 = .ok (.ireturn, 1) := by decide +kernel
theorem dX0_bearsOf_0 : decode cX0_bearsOf 0 = .ok (.iconst 0, 1) := by decide +kernel
theorem dX0_bearsOf_1 : decode cX0_bearsOf 1 = .ok (.aload_n 0, 1) := by decide +kernel
theorem dX0_bearsOf_2 : decode cX0_bearsOf 2 = .ok (.getfield 30, 3) := by decide +kernel
theorem dX0_bearsOf_5 : decode cX0_bearsOf 5 = .ok (.iload_n 1, 1) := by decide +kernel
theorem dX0_bearsOf_6 : decode cX0_bearsOf 6 = .ok (.iaload, 1) := by decide +kernel
theorem dX0_bearsOf_7 : decode cX0_bearsOf 7 = .ok (.iconst 5, 1) := by decide +kernel
theorem dX0_bearsOf_8 : decode cX0_bearsOf 8 = .ok (.aload_n 0, 1) := by decide +kernel
theorem dX0_bearsOf_9 : decode cX0_bearsOf 9 = .ok (.getfield 9, 3) := by decide +kernel
theorem dX0_bearsOf_12 : decode cX0_bearsOf 12 = .ok (.aload_n 0, 1) := by decide +kernel
theorem dX0_bearsOf_13 : decode cX0_bearsOf 13 = .ok (.getfield 21, 3) := by decide +kernel
theorem dX0_bearsOf_16 : decode cX0_bearsOf 16 = .ok (.iload_n 1, 1) := by decide +kernel
theorem dX0_bearsOf_17 : decode cX0_bearsOf 17 = .ok (.iaload, 1) := by decide +kernel
theorem dX0_bearsOf_18 : decode cX0_bearsOf 18 = .ok (.iaload, 1) := by decide +kernel
theorem dX0_bearsOf_19 : decode cX0_bearsOf 19 = .ok (.imul, 1) := by decide +kernel
theorem dX0_bearsOf_20 : decode cX0_bearsOf 20 = .ok (.isub, 1) := by decide +kernel
theorem dX0_bearsOf_21 : decode cX0_bearsOf 21 = .ok (.invokestatic 80, 3) := by decide +kernel
theorem dX0_bearsOf_24 : decode cX0_bearsOf 24 = .ok (.istore_n 2, 1) := by decide +kernel
theorem dX0_bearsOf_25 : decode cX0_bearsOf 25 = .ok (.aload_n 0, 1) := by decide +kernel
theorem dX0_bearsOf_26 : decode cX0_bearsOf 26 = .ok (.getfield 18, 3) := by decide +kernel
theorem dX0_bearsOf_29 : decode cX0_bearsOf 29 = .ok (.iload_n 1, 1) := by decide +kernel
theorem dX0_bearsOf_30 : decode cX0_bearsOf 30 = .ok (.iaload, 1) := by decide +kernel
theorem dX0_bearsOf_31 : decode cX0_bearsOf 31 = .ok (.tableswitch 60 1 6 #[37, 41, 46, 51, 60, 56], 37) := by decide +kernel
theorem dX0_bearsOf_68 : decode cX0_bearsOf 68 = .ok (.iload_n 2, 1) := by decide +kernel
theorem dX0_bearsOf_69 : decode cX0_bearsOf 69 = .ok (.iconst 2, 1) := by decide +kernel
theorem dX0_bearsOf_70 : decode cX0_bearsOf 70 = .ok (.idiv, 1) := by decide +kernel
theorem dX0_bearsOf_71 : decode cX0_bearsOf 71 = .ok (.ireturn, 1) := by decide +kernel
theorem dX0_bearsOf_72 : decode cX0_bearsOf 72 = .ok (.iload_n 2, 1) := by decide +kernel
theorem dX0_bearsOf_73 : decode cX0_bearsOf 73 = .ok (.bipush 10, 2) := by decide +kernel
theorem dX0_bearsOf_75 : decode cX0_bearsOf 75 = .ok (.iadd, 1) := by decide +kernel
theorem dX0_bearsOf_76 : decode cX0_bearsOf 76 = .ok (.ireturn, 1) := by decide +kernel
theorem dX0_bearsOf_77 : decode cX0_bearsOf 77 = .ok (.iload_n 2, 1) := by decide +kernel
theorem dX0_bearsOf_78 : decode cX0_bearsOf 78 = .ok (.bipush 10, 2) := by decide +kernel
theorem dX0_bearsOf_80 : decode cX0_bearsOf 80 = .ok (.iadd, 1) := by decide +kernel
theorem dX0_bearsOf_81 : decode cX0_bearsOf 81 = .ok (.ireturn, 1) := by decide +kernel
theorem dX0_bearsOf_82 : decode cX0_bearsOf 82 = .ok (.iload_n 2, 1) := by decide +kernel
theorem dX0_bearsOf_83 : decode cX0_bearsOf 83 = .ok (.bipush 10, 2) := by decide +kernel
theorem dX0_bearsOf_85 : decode cX0_bearsOf 85 = .ok (.iadd, 1) := by decide +kernel
theorem dX0_bearsOf_86 : decode cX0_bearsOf 86 = .ok (.ireturn, 1) := by decide +kernel
theorem dX0_bearsOf_87 : decode cX0_bearsOf 87 = .ok (.iload_n 2, 1) := by decide +kernel
theorem dX0_bearsOf_88 : decode cX0_bearsOf 88 = .ok (.iconst 2, 1) := by decide +kernel
theorem dX0_bearsOf_89 : decode cX0_bearsOf 89 = .ok (.idiv, 1) := by decide +kernel
theorem dX0_bearsOf_90 : decode cX0_bearsOf 90 = .ok (.ireturn, 1) := by decide +kernel
theorem dX0_bearsOf_91 : decode cX0_bearsOf 91 = .ok (.iload_n 2, 1) := by decide +kernel
theorem dX0_bearsOf_92 : decode cX0_bearsOf 92 = .ok (.ireturn, 1) := by decide +kernel
theorem dX0_allCasks_0 : decode cX0_allCasks 0 = .ok (.iconst 1, 1) := by decide +kernel
theorem dX0_allCasks_1 : decode cX0_allCasks 1 = .ok (.aload_n 0, 1) := by decide +kernel
theorem dX0_allCasks_2 : decode cX0_allCasks 2 = .ok (.getfield 42, 3) := by decide +kernel
theorem dX0_allCasks_5 : decode cX0_allCasks 5 = .ok (.ishl, 1) := by decide +kernel
theorem dX0_allCasks_6 : decode cX0_allCasks 6 = .ok (.iconst 1, 1) := by decide +kernel
theorem dX0_allCasks_7 : decode cX0_allCasks 7 = .ok (.isub, 1) := by decide +kernel
theorem dX0_allCasks_8 : decode cX0_allCasks 8 = .ok (.ireturn, 1) := by decide +kernel
theorem dX0_setIn_0 : decode cX0_setIn 0 = .ok (.iconst 0, 1) := by decide +kernel
theorem dX0_setIn_1 : decode cX0_setIn 1 = .ok (.istore_n 2, 1) := by decide +kernel
theorem dX0_setIn_2 : decode cX0_setIn 2 = .ok (.iconst 0, 1) := by decide +kernel
theorem dX0_setIn_3 : decode cX0_setIn 3 = .ok (.istore_n 3, 1) := by decide +kernel
theorem dX0_setIn_4 : decode cX0_setIn 4 = .ok (.iload_n 3, 1) := by decide +kernel
theorem dX0_setIn_5 : decode cX0_setIn 5 = .ok (.aload_n 0, 1) := by decide +kernel
theorem dX0_setIn_6 : decode cX0_setIn 6 = .ok (.getfield 42, 3) := by decide +kernel
theorem dX0_setIn_9 : decode cX0_setIn 9 = .ok (.if_icmp .ge 25, 3) := by decide +kernel
theorem dX0_setIn_12 : decode cX0_setIn 12 = .ok (.aload_n 0, 1) := by decide +kernel
theorem dX0_setIn_13 : decode cX0_setIn 13 = .ok (.getfield 21, 3) := by decide +kernel
theorem dX0_setIn_16 : decode cX0_setIn 16 = .ok (.iload_n 3, 1) := by decide +kernel
theorem dX0_setIn_17 : decode cX0_setIn 17 = .ok (.iaload, 1) := by decide +kernel
theorem dX0_setIn_18 : decode cX0_setIn 18 = .ok (.iload_n 1, 1) := by decide +kernel
theorem dX0_setIn_19 : decode cX0_setIn 19 = .ok (.if_icmp .ne 9, 3) := by decide +kernel
theorem dX0_setIn_22 : decode cX0_setIn 22 = .ok (.iload_n 2, 1) := by decide +kernel
theorem dX0_setIn_23 : decode cX0_setIn 23 = .ok (.iconst 1, 1) := by decide +kernel
theorem dX0_setIn_24 : decode cX0_setIn 24 = .ok (.iload_n 3, 1) := by decide +kernel
theorem dX0_setIn_25 : decode cX0_setIn 25 = .ok (.ishl, 1) := by decide +kernel
theorem dX0_setIn_26 : decode cX0_setIn 26 = .ok (.ior, 1) := by decide +kernel
theorem dX0_setIn_27 : decode cX0_setIn 27 = .ok (.istore_n 2, 1) := by decide +kernel
theorem dX0_setIn_28 : decode cX0_setIn 28 = .ok (.iinc 3 1, 3) := by decide +kernel
theorem dX0_setIn_31 : decode cX0_setIn 31 = .ok (.goto (-27), 3) := by decide +kernel
theorem dX0_setIn_34 : decode cX0_setIn 34 = .ok (.iload_n 2, 1) := by decide +kernel
theorem dX0_setIn_35 : decode cX0_setIn 35 = .ok (.ireturn, 1) := by decide +kernel
theorem dX0_catcherIn_0 : decode cX0_catcherIn 0 = .ok (.iconst (-1), 1) := by decide +kernel
theorem dX0_catcherIn_1 : decode cX0_catcherIn 1 = .ok (.istore_n 2, 1) := by decide +kernel
theorem dX0_catcherIn_2 : decode cX0_catcherIn 2 = .ok (.iconst 0, 1) := by decide +kernel
theorem dX0_catcherIn_3 : decode cX0_catcherIn 3 = .ok (.istore_n 3, 1) := by decide +kernel
theorem dX0_catcherIn_4 : decode cX0_catcherIn 4 = .ok (.iload_n 3, 1) := by decide +kernel
theorem dX0_catcherIn_5 : decode cX0_catcherIn 5 = .ok (.aload_n 0, 1) := by decide +kernel
theorem dX0_catcherIn_6 : decode cX0_catcherIn 6 = .ok (.getfield 42, 3) := by decide +kernel
theorem dX0_catcherIn_9 : decode cX0_catcherIn 9 = .ok (.if_icmp .ge 40, 3) := by decide +kernel
theorem dX0_catcherIn_12 : decode cX0_catcherIn 12 = .ok (.aload_n 0, 1) := by decide +kernel
theorem dX0_catcherIn_13 : decode cX0_catcherIn 13 = .ok (.getfield 21, 3) := by decide +kernel
theorem dX0_catcherIn_16 : decode cX0_catcherIn 16 = .ok (.iload_n 3, 1) := by decide +kernel
theorem dX0_catcherIn_17 : decode cX0_catcherIn 17 = .ok (.iaload, 1) := by decide +kernel
theorem dX0_catcherIn_18 : decode cX0_catcherIn 18 = .ok (.iload_n 1, 1) := by decide +kernel
theorem dX0_catcherIn_19 : decode cX0_catcherIn 19 = .ok (.if_icmp .ne 24, 3) := by decide +kernel
theorem dX0_catcherIn_22 : decode cX0_catcherIn 22 = .ok (.iload_n 2, 1) := by decide +kernel
theorem dX0_catcherIn_23 : decode cX0_catcherIn 23 = .ok (.ifCond .lt 18, 3) := by decide +kernel
theorem dX0_catcherIn_26 : decode cX0_catcherIn 26 = .ok (.aload_n 0, 1) := by decide +kernel
theorem dX0_catcherIn_27 : decode cX0_catcherIn 27 = .ok (.getfield 24, 3) := by decide +kernel
theorem dX0_catcherIn_30 : decode cX0_catcherIn 30 = .ok (.iload_n 3, 1) := by decide +kernel
theorem dX0_catcherIn_31 : decode cX0_catcherIn 31 = .ok (.iaload, 1) := by decide +kernel
theorem dX0_catcherIn_32 : decode cX0_catcherIn 32 = .ok (.aload_n 0, 1) := by decide +kernel
theorem dX0_catcherIn_33 : decode cX0_catcherIn 33 = .ok (.getfield 24, 3) := by decide +kernel
theorem dX0_catcherIn_36 : decode cX0_catcherIn 36 = .ok (.iload_n 2, 1) := by decide +kernel
theorem dX0_catcherIn_37 : decode cX0_catcherIn 37 = .ok (.iaload, 1) := by decide +kernel
theorem dX0_catcherIn_38 : decode cX0_catcherIn 38 = .ok (.if_icmp .ge 5, 3) := by decide +kernel
theorem dX0_catcherIn_41 : decode cX0_catcherIn 41 = .ok (.iload_n 3, 1) := by decide +kernel
theorem dX0_catcherIn_42 : decode cX0_catcherIn 42 = .ok (.istore_n 2, 1) := by decide +kernel
theorem dX0_catcherIn_43 : decode cX0_catcherIn 43 = .ok (.iinc 3 1, 3) := by decide +kernel
theorem dX0_catcherIn_46 : decode cX0_catcherIn 46 = .ok (.goto (-42), 3) := by decide +kernel
theorem dX0_catcherIn_49 : decode cX0_catcherIn 49 = .ok (.iload_n 2, 1) := by decide +kernel
theorem dX0_catcherIn_50 : decode cX0_catcherIn 50 = .ok (.ireturn, 1) := by decide +kernel
theorem dX0_sumOf_0 : decode cX0_sumOf 0 = .ok (.aload_n 0, 1) := by decide +kernel
theorem dX0_sumOf_1 : decode cX0_sumOf 1 = .ok (.iload_n 1, 1) := by decide +kernel
theorem dX0_sumOf_2 : decode cX0_sumOf 2 = .ok (.invokevirtual 61, 3) := by decide +kernel
theorem dX0_sumOf_5 : decode cX0_sumOf 5 = .ok (.astore_n 2, 1) := by decide +kernel
theorem dX0_sumOf_6 : decode cX0_sumOf 6 = .ok (.iconst 0, 1) := by decide +kernel
theorem dX0_sumOf_7 : decode cX0_sumOf 7 = .ok (.istore_n 3, 1) := by decide +kernel
theorem dX0_sumOf_8 : decode cX0_sumOf 8 = .ok (.iconst 0, 1) := by decide +kernel
theorem dX0_sumOf_9 : decode cX0_sumOf 9 = .ok (.istore 4, 2) := by decide +kernel
theorem dX0_sumOf_11 : decode cX0_sumOf 11 = .ok (.iload 4, 2) := by decide +kernel
theorem dX0_sumOf_13 : decode cX0_sumOf 13 = .ok (.aload_n 0, 1) := by decide +kernel
theorem dX0_sumOf_14 : decode cX0_sumOf 14 = .ok (.getfield 42, 3) := by decide +kernel
theorem dX0_sumOf_17 : decode cX0_sumOf 17 = .ok (.if_icmp .ge 16, 3) := by decide +kernel
theorem dX0_sumOf_20 : decode cX0_sumOf 20 = .ok (.iload_n 3, 1) := by decide +kernel
theorem dX0_sumOf_21 : decode cX0_sumOf 21 = .ok (.aload_n 2, 1) := by decide +kernel
theorem dX0_sumOf_22 : decode cX0_sumOf 22 = .ok (.iload 4, 2) := by decide +kernel
theorem dX0_sumOf_24 : decode cX0_sumOf 24 = .ok (.iaload, 1) := by decide +kernel
theorem dX0_sumOf_25 : decode cX0_sumOf 25 = .ok (.iadd, 1) := by decide +kernel
theorem dX0_sumOf_26 : decode cX0_sumOf 26 = .ok (.istore_n 3, 1) := by decide +kernel
theorem dX0_sumOf_27 : decode cX0_sumOf 27 = .ok (.iinc 4 1, 3) := by decide +kernel
theorem dX0_sumOf_30 : decode cX0_sumOf 30 = .ok (.goto (-19), 3) := by decide +kernel
theorem dX0_sumOf_33 : decode cX0_sumOf 33 = .ok (.iload_n 3, 1) := by decide +kernel
theorem dX0_sumOf_34 : decode cX0_sumOf 34 = .ok (.ireturn, 1) := by decide +kernel
theorem dX0_blendOf_0 : decode cX0_blendOf 0 = .ok (.iconst 0, 1) := by decide +kernel
theorem dX0_blendOf_1 : decode cX0_blendOf 1 = .ok (.istore_n 2, 1) := by decide +kernel
theorem dX0_blendOf_2 : decode cX0_blendOf 2 = .ok (.iconst 0, 1) := by decide +kernel
theorem dX0_blendOf_3 : decode cX0_blendOf 3 = .ok (.istore_n 3, 1) := by decide +kernel
theorem dX0_blendOf_4 : decode cX0_blendOf 4 = .ok (.iload_n 3, 1) := by decide +kernel
theorem dX0_blendOf_5 : decode cX0_blendOf 5 = .ok (.aload_n 0, 1) := by decide +kernel
theorem dX0_blendOf_6 : decode cX0_blendOf 6 = .ok (.getfield 42, 3) := by decide +kernel
theorem dX0_blendOf_9 : decode cX0_blendOf 9 = .ok (.if_icmp .ge 25, 3) := by decide +kernel
theorem dX0_blendOf_12 : decode cX0_blendOf 12 = .ok (.iload_n 1, 1) := by decide +kernel
theorem dX0_blendOf_13 : decode cX0_blendOf 13 = .ok (.iload_n 3, 1) := by decide +kernel
theorem dX0_blendOf_14 : decode cX0_blendOf 14 = .ok (.ishr, 1) := by decide +kernel
theorem dX0_blendOf_15 : decode cX0_blendOf 15 = .ok (.iconst 1, 1) := by decide +kernel
theorem dX0_blendOf_16 : decode cX0_blendOf 16 = .ok (.iand, 1) := by decide +kernel
theorem dX0_blendOf_17 : decode cX0_blendOf 17 = .ok (.ifCond .eq 11, 3) := by decide +kernel
theorem dX0_blendOf_20 : decode cX0_blendOf 20 = .ok (.iload_n 2, 1) := by decide +kernel
theorem dX0_blendOf_21 : decode cX0_blendOf 21 = .ok (.aload_n 0, 1) := by decide +kernel
theorem dX0_blendOf_22 : decode cX0_blendOf 22 = .ok (.iload_n 3, 1) := by decide +kernel
theorem dX0_blendOf_23 : decode cX0_blendOf 23 = .ok (.invokevirtual 86, 3) := by decide +kernel
theorem dX0_blendOf_26 : decode cX0_blendOf 26 = .ok (.iadd, 1) := by decide +kernel
theorem dX0_blendOf_27 : decode cX0_blendOf 27 = .ok (.istore_n 2, 1) := by decide +kernel
theorem dX0_blendOf_28 : decode cX0_blendOf 28 = .ok (.iinc 3 1, 3) := by decide +kernel
theorem dX0_blendOf_31 : decode cX0_blendOf 31 = .ok (.goto (-27), 3) := by decide +kernel
theorem dX0_blendOf_34 : decode cX0_blendOf 34 = .ok (.iload_n 2, 1) := by decide +kernel
theorem dX0_blendOf_35 : decode cX0_blendOf 35 = .ok (.ireturn, 1) := by decide +kernel
theorem dX0_setTooLoud_0 : decode cX0_setTooLoud 0 = .ok (.iconst 0, 1) := by decide +kernel
theorem dX0_setTooLoud_1 : decode cX0_setTooLoud 1 = .ok (.istore_n 1, 1) := by decide +kernel
theorem dX0_setTooLoud_2 : decode cX0_setTooLoud 2 = .ok (.iconst 0, 1) := by decide +kernel
theorem dX0_setTooLoud_3 : decode cX0_setTooLoud 3 = .ok (.istore_n 2, 1) := by decide +kernel
theorem dX0_setTooLoud_4 : decode cX0_setTooLoud 4 = .ok (.iload_n 2, 1) := by decide +kernel
theorem dX0_setTooLoud_5 : decode cX0_setTooLoud 5 = .ok (.aload_n 0, 1) := by decide +kernel
theorem dX0_setTooLoud_6 : decode cX0_setTooLoud 6 = .ok (.getfield 42, 3) := by decide +kernel
theorem dX0_setTooLoud_9 : decode cX0_setTooLoud 9 = .ok (.if_icmp .ge 28, 3) := by decide +kernel
theorem dX0_setTooLoud_12 : decode cX0_setTooLoud 12 = .ok (.aload_n 0, 1) := by decide +kernel
theorem dX0_setTooLoud_13 : decode cX0_setTooLoud 13 = .ok (.iload_n 2, 1) := by decide +kernel
theorem dX0_setTooLoud_14 : decode cX0_setTooLoud 14 = .ok (.invokevirtual 86, 3) := by decide +kernel
theorem dX0_setTooLoud_17 : decode cX0_setTooLoud 17 = .ok (.aload_n 0, 1) := by decide +kernel
theorem dX0_setTooLoud_18 : decode cX0_setTooLoud 18 = .ok (.iload_n 2, 1) := by decide +kernel
theorem dX0_setTooLoud_19 : decode cX0_setTooLoud 19 = .ok (.invokevirtual 89, 3) := by decide +kernel
theorem dX0_setTooLoud_22 : decode cX0_setTooLoud 22 = .ok (.if_icmp .le 9, 3) := by decide +kernel
theorem dX0_setTooLoud_25 : decode cX0_setTooLoud 25 = .ok (.iload_n 1, 1) := by decide +kernel
theorem dX0_setTooLoud_26 : decode cX0_setTooLoud 26 = .ok (.iconst 1, 1) := by decide +kernel
theorem dX0_setTooLoud_27 : decode cX0_setTooLoud 27 = .ok (.iload_n 2, 1) := by decide +kernel
theorem dX0_setTooLoud_28 : decode cX0_setTooLoud 28 = .ok (.ishl, 1) := by decide +kernel
theorem dX0_setTooLoud_29 : decode cX0_setTooLoud 29 = .ok (.ior, 1) := by decide +kernel
theorem dX0_setTooLoud_30 : decode cX0_setTooLoud 30 = .ok (.istore_n 1, 1) := by decide +kernel
theorem dX0_setTooLoud_31 : decode cX0_setTooLoud 31 = .ok (.iinc 2 1, 3) := by decide +kernel
theorem dX0_setTooLoud_34 : decode cX0_setTooLoud 34 = .ok (.goto (-30), 3) := by decide +kernel
theorem dX0_setTooLoud_37 : decode cX0_setTooLoud 37 = .ok (.iload_n 1, 1) := by decide +kernel
theorem dX0_setTooLoud_38 : decode cX0_setTooLoud 38 = .ok (.ireturn, 1) := by decide +kernel
theorem dX0_loudestCask_0 : decode cX0_loudestCask 0 = .ok (.iconst (-1), 1) := by decide +kernel
theorem dX0_loudestCask_1 : decode cX0_loudestCask 1 = .ok (.istore_n 1, 1) := by decide +kernel
theorem dX0_loudestCask_2 : decode cX0_loudestCask 2 = .ok (.iconst (-1), 1) := by decide +kernel
theorem dX0_loudestCask_3 : decode cX0_loudestCask 3 = .ok (.istore_n 2, 1) := by decide +kernel
theorem dX0_loudestCask_4 : decode cX0_loudestCask 4 = .ok (.iconst 0, 1) := by decide +kernel
theorem dX0_loudestCask_5 : decode cX0_loudestCask 5 = .ok (.istore_n 3, 1) := by decide +kernel
theorem dX0_loudestCask_6 : decode cX0_loudestCask 6 = .ok (.iload_n 3, 1) := by decide +kernel
theorem dX0_loudestCask_7 : decode cX0_loudestCask 7 = .ok (.aload_n 0, 1) := by decide +kernel
theorem dX0_loudestCask_8 : decode cX0_loudestCask 8 = .ok (.getfield 42, 3) := by decide +kernel
theorem dX0_loudestCask_11 : decode cX0_loudestCask 11 = .ok (.if_icmp .ge 27, 3) := by decide +kernel
theorem dX0_loudestCask_14 : decode cX0_loudestCask 14 = .ok (.aload_n 0, 1) := by decide +kernel
theorem dX0_loudestCask_15 : decode cX0_loudestCask 15 = .ok (.iload_n 3, 1) := by decide +kernel
theorem dX0_loudestCask_16 : decode cX0_loudestCask 16 = .ok (.invokevirtual 86, 3) := by decide +kernel
theorem dX0_loudestCask_19 : decode cX0_loudestCask 19 = .ok (.istore 4, 2) := by decide +kernel
theorem dX0_loudestCask_21 : decode cX0_loudestCask 21 = .ok (.iload 4, 2) := by decide +kernel
theorem dX0_loudestCask_23 : decode cX0_loudestCask 23 = .ok (.iload_n 2, 1) := by decide +kernel
theorem dX0_loudestCask_24 : decode cX0_loudestCask 24 = .ok (.if_icmp .le 8, 3) := by decide +kernel
theorem dX0_loudestCask_27 : decode cX0_loudestCask 27 = .ok (.iload_n 3, 1) := by decide +kernel
theorem dX0_loudestCask_28 : decode cX0_loudestCask 28 = .ok (.istore_n 1, 1) := by decide +kernel
theorem dX0_loudestCask_29 : decode cX0_loudestCask 29 = .ok (.iload 4, 2) := by decide +kernel
theorem dX0_loudestCask_31 : decode cX0_loudestCask 31 = .ok (.istore_n 2, 1) := by decide +kernel
theorem dX0_loudestCask_32 : decode cX0_loudestCask 32 = .ok (.iinc 3 1, 3) := by decide +kernel
theorem dX0_loudestCask_35 : decode cX0_loudestCask 35 = .ok (.goto (-29), 3) := by decide +kernel
theorem dX0_loudestCask_38 : decode cX0_loudestCask 38 = .ok (.iload_n 1, 1) := by decide +kernel
theorem dX0_loudestCask_39 : decode cX0_loudestCask 39 = .ok (.ireturn, 1) := by decide +kernel
theorem dX0_setOfCellars_0 : decode cX0_setOfCellars 0 = .ok (.iconst 0, 1) := by decide +kernel
theorem dX0_setOfCellars_1 : decode cX0_setOfCellars 1 = .ok (.istore_n 1, 1) := by decide +kernel
theorem dX0_setOfCellars_2 : decode cX0_setOfCellars 2 = .ok (.iconst 0, 1) := by decide +kernel
theorem dX0_setOfCellars_3 : decode cX0_setOfCellars 3 = .ok (.istore_n 2, 1) := by decide +kernel
theorem dX0_setOfCellars_4 : decode cX0_setOfCellars 4 = .ok (.iload_n 2, 1) := by decide +kernel
theorem dX0_setOfCellars_5 : decode cX0_setOfCellars 5 = .ok (.aload_n 0, 1) := by decide +kernel
theorem dX0_setOfCellars_6 : decode cX0_setOfCellars 6 = .ok (.getfield 42, 3) := by decide +kernel
theorem dX0_setOfCellars_9 : decode cX0_setOfCellars 9 = .ok (.if_icmp .ge 20, 3) := by decide +kernel
theorem dX0_setOfCellars_12 : decode cX0_setOfCellars 12 = .ok (.iload_n 1, 1) := by decide +kernel
theorem dX0_setOfCellars_13 : decode cX0_setOfCellars 13 = .ok (.iconst 1, 1) := by decide +kernel
theorem dX0_setOfCellars_14 : decode cX0_setOfCellars 14 = .ok (.aload_n 0, 1) := by decide +kernel
theorem dX0_setOfCellars_15 : decode cX0_setOfCellars 15 = .ok (.getfield 21, 3) := by decide +kernel
theorem dX0_setOfCellars_18 : decode cX0_setOfCellars 18 = .ok (.iload_n 2, 1) := by decide +kernel
theorem dX0_setOfCellars_19 : decode cX0_setOfCellars 19 = .ok (.iaload, 1) := by decide +kernel
theorem dX0_setOfCellars_20 : decode cX0_setOfCellars 20 = .ok (.ishl, 1) := by decide +kernel
theorem dX0_setOfCellars_21 : decode cX0_setOfCellars 21 = .ok (.ior, 1) := by decide +kernel
theorem dX0_setOfCellars_22 : decode cX0_setOfCellars 22 = .ok (.istore_n 1, 1) := by decide +kernel
theorem dX0_setOfCellars_23 : decode cX0_setOfCellars 23 = .ok (.iinc 2 1, 3) := by decide +kernel
theorem dX0_setOfCellars_26 : decode cX0_setOfCellars 26 = .ok (.goto (-22), 3) := by decide +kernel
theorem dX0_setOfCellars_29 : decode cX0_setOfCellars 29 = .ok (.iload_n 1, 1) := by decide +kernel
theorem dX0_setOfCellars_30 : decode cX0_setOfCellars 30 = .ok (.ireturn, 1) := by decide +kernel
theorem dX0_spotsHeld_0 : decode cX0_spotsHeld 0 = .ok (.iconst 0, 1) := by decide +kernel
theorem dX0_spotsHeld_1 : decode cX0_spotsHeld 1 = .ok (.istore_n 1, 1) := by decide +kernel
theorem dX0_spotsHeld_2 : decode cX0_spotsHeld 2 = .ok (.iconst 0, 1) := by decide +kernel
theorem dX0_spotsHeld_3 : decode cX0_spotsHeld 3 = .ok (.istore_n 2, 1) := by decide +kernel
theorem dX0_spotsHeld_4 : decode cX0_spotsHeld 4 = .ok (.iload_n 2, 1) := by decide +kernel
theorem dX0_spotsHeld_5 : decode cX0_spotsHeld 5 = .ok (.bipush 10, 2) := by decide +kernel
theorem dX0_spotsHeld_7 : decode cX0_spotsHeld 7 = .ok (.if_icmp .ge 21, 3) := by decide +kernel
theorem dX0_spotsHeld_10 : decode cX0_spotsHeld 10 = .ok (.aload_n 0, 1) := by decide +kernel
theorem dX0_spotsHeld_11 : decode cX0_spotsHeld 11 = .ok (.getfield 39, 3) := by decide +kernel
theorem dX0_spotsHeld_14 : decode cX0_spotsHeld 14 = .ok (.iload_n 2, 1) := by decide +kernel
theorem dX0_spotsHeld_15 : decode cX0_spotsHeld 15 = .ok (.iaload, 1) := by decide +kernel
theorem dX0_spotsHeld_16 : decode cX0_spotsHeld 16 = .ok (.ifCond .lt 6, 3) := by decide +kernel
theorem dX0_spotsHeld_19 : decode cX0_spotsHeld 19 = .ok (.iinc 1 1, 3) := by decide +kernel
theorem dX0_spotsHeld_22 : decode cX0_spotsHeld 22 = .ok (.iinc 2 1, 3) := by decide +kernel
theorem dX0_spotsHeld_25 : decode cX0_spotsHeld 25 = .ok (.goto (-21), 3) := by decide +kernel
theorem dX0_spotsHeld_28 : decode cX0_spotsHeld 28 = .ok (.iload_n 1, 1) := by decide +kernel
theorem dX0_spotsHeld_29 : decode cX0_spotsHeld 29 = .ok (.ireturn, 1) := by decide +kernel
theorem dX0_passDays_0 : decode cX0_passDays 0 = .ok (.iconst 0, 1) := by decide +kernel
theorem dX0_passDays_1 : decode cX0_passDays 1 = .ok (.istore_n 2, 1) := by decide +kernel
theorem dX0_passDays_2 : decode cX0_passDays 2 = .ok (.iload_n 2, 1) := by decide +kernel
theorem dX0_passDays_3 : decode cX0_passDays 3 = .ok (.iload_n 1, 1) := by decide +kernel
theorem dX0_passDays_4 : decode cX0_passDays 4 = .ok (.if_icmp .ge 40, 3) := by decide +kernel
theorem dX0_passDays_7 : decode cX0_passDays 7 = .ok (.aload_n 0, 1) := by decide +kernel
theorem dX0_passDays_8 : decode cX0_passDays 8 = .ok (.invokevirtual 92, 3) := by decide +kernel
theorem dX0_passDays_11 : decode cX0_passDays 11 = .ok (.aload_n 0, 1) := by decide +kernel
theorem dX0_passDays_12 : decode cX0_passDays 12 = .ok (.invokevirtual 95, 3) := by decide +kernel
theorem dX0_passDays_15 : decode cX0_passDays 15 = .ok (.aload_n 0, 1) := by decide +kernel
theorem dX0_passDays_16 : decode cX0_passDays 16 = .ok (.invokevirtual 98, 3) := by decide +kernel
theorem dX0_passDays_19 : decode cX0_passDays 19 = .ok (.aload_n 0, 1) := by decide +kernel
theorem dX0_passDays_20 : decode cX0_passDays 20 = .ok (.invokevirtual 101, 3) := by decide +kernel
theorem dX0_passDays_23 : decode cX0_passDays 23 = .ok (.aload_n 0, 1) := by decide +kernel
theorem dX0_passDays_24 : decode cX0_passDays 24 = .ok (.aload_n 0, 1) := by decide +kernel
theorem dX0_passDays_25 : decode cX0_passDays 25 = .ok (.getfield 46, 3) := by decide +kernel
theorem dX0_passDays_28 : decode cX0_passDays 28 = .ok (.iconst 1, 1) := by decide +kernel
theorem dX0_passDays_29 : decode cX0_passDays 29 = .ok (.iadd, 1) := by decide +kernel
theorem dX0_passDays_30 : decode cX0_passDays 30 = .ok (.ldc 104, 2) := by decide +kernel
theorem dX0_passDays_32 : decode cX0_passDays 32 = .ok (.invokestatic 105, 3) := by decide +kernel
theorem dX0_passDays_35 : decode cX0_passDays 35 = .ok (.putfield 46, 3) := by decide +kernel
theorem dX0_passDays_38 : decode cX0_passDays 38 = .ok (.iinc 2 1, 3) := by decide +kernel
theorem dX0_passDays_41 : decode cX0_passDays 41 = .ok (.goto (-39), 3) := by decide +kernel
theorem dX0_passDays_44 : decode cX0_passDays 44 = .ok (.return_, 1) := by decide +kernel
theorem dX0_catchStorm_0 : decode cX0_catchStorm 0 = .ok (.aload_n 0, 1) := by decide +kernel
theorem dX0_catchStorm_1 : decode cX0_catchStorm 1 = .ok (.getfield 46, 3) := by decide +kernel
theorem dX0_catchStorm_4 : decode cX0_catchStorm 4 = .ok (.bipush 6, 2) := by decide +kernel
theorem dX0_catchStorm_6 : decode cX0_catchStorm 6 = .ok (.irem, 1) := by decide +kernel
theorem dX0_catchStorm_7 : decode cX0_catchStorm 7 = .ok (.istore_n 1, 1) := by decide +kernel
theorem dX0_catchStorm_8 : decode cX0_catchStorm 8 = .ok (.aload_n 0, 1) := by decide +kernel
theorem dX0_catchStorm_9 : decode cX0_catchStorm 9 = .ok (.iload_n 1, 1) := by decide +kernel
theorem dX0_catchStorm_10 : decode cX0_catchStorm 10 = .ok (.invokevirtual 108, 3) := by decide +kernel
theorem dX0_catchStorm_13 : decode cX0_catchStorm 13 = .ok (.istore_n 2, 1) := by decide +kernel
theorem dX0_catchStorm_14 : decode cX0_catchStorm 14 = .ok (.iload_n 2, 1) := by decide +kernel
theorem dX0_catchStorm_15 : decode cX0_catchStorm 15 = .ok (.ifCond .lt 28, 3) := by decide +kernel
theorem dX0_catchStorm_18 : decode cX0_catchStorm 18 = .ok (.aload_n 0, 1) := by decide +kernel
theorem dX0_catchStorm_19 : decode cX0_catchStorm 19 = .ok (.getfield 24, 3) := by decide +kernel
theorem dX0_catchStorm_22 : decode cX0_catchStorm 22 = .ok (.iload_n 2, 1) := by decide +kernel
theorem dX0_catchStorm_23 : decode cX0_catchStorm 23 = .ok (.aload_n 0, 1) := by decide +kernel
theorem dX0_catchStorm_24 : decode cX0_catchStorm 24 = .ok (.getfield 24, 3) := by decide +kernel
theorem dX0_catchStorm_27 : decode cX0_catchStorm 27 = .ok (.iload_n 2, 1) := by decide +kernel
theorem dX0_catchStorm_28 : decode cX0_catchStorm 28 = .ok (.iaload, 1) := by decide +kernel
theorem dX0_catchStorm_29 : decode cX0_catchStorm 29 = .ok (.aload_n 0, 1) := by decide +kernel
theorem dX0_catchStorm_30 : decode cX0_catchStorm 30 = .ok (.getfield 15, 3) := by decide +kernel
theorem dX0_catchStorm_33 : decode cX0_catchStorm 33 = .ok (.iload_n 1, 1) := by decide +kernel
theorem dX0_catchStorm_34 : decode cX0_catchStorm 34 = .ok (.iaload, 1) := by decide +kernel
theorem dX0_catchStorm_35 : decode cX0_catchStorm 35 = .ok (.iadd, 1) := by decide +kernel
theorem dX0_catchStorm_36 : decode cX0_catchStorm 36 = .ok (.sipush 999, 3) := by decide +kernel
theorem dX0_catchStorm_39 : decode cX0_catchStorm 39 = .ok (.invokestatic 105, 3) := by decide +kernel
theorem dX0_catchStorm_42 : decode cX0_catchStorm 42 = .ok (.iastore, 1) := by decide +kernel
theorem dX0_catchStorm_43 : decode cX0_catchStorm 43 = .ok (.return_, 1) := by decide +kernel
theorem dX0_leakAndAge_0 : decode cX0_leakAndAge 0 = .ok (.iconst 0, 1) := by decide +kernel
theorem dX0_leakAndAge_1 : decode cX0_leakAndAge 1 = .ok (.istore_n 1, 1) := by decide +kernel
theorem dX0_leakAndAge_2 : decode cX0_leakAndAge 2 = .ok (.iload_n 1, 1) := by decide +kernel
theorem dX0_leakAndAge_3 : decode cX0_leakAndAge 3 = .ok (.aload_n 0, 1) := by decide +kernel
theorem dX0_leakAndAge_4 : decode cX0_leakAndAge 4 = .ok (.getfield 42, 3) := by decide +kernel
theorem dX0_leakAndAge_7 : decode cX0_leakAndAge 7 = .ok (.if_icmp .ge 51, 3) := by decide +kernel
theorem dX0_leakAndAge_10 : decode cX0_leakAndAge 10 = .ok (.aload_n 0, 1) := by decide +kernel
theorem dX0_leakAndAge_11 : decode cX0_leakAndAge 11 = .ok (.getfield 24, 3) := by decide +kernel
theorem dX0_leakAndAge_14 : decode cX0_leakAndAge 14 = .ok (.iload_n 1, 1) := by decide +kernel
theorem dX0_leakAndAge_15 : decode cX0_leakAndAge 15 = .ok (.iconst 0, 1) := by decide +kernel
theorem dX0_leakAndAge_16 : decode cX0_leakAndAge 16 = .ok (.aload_n 0, 1) := by decide +kernel
theorem dX0_leakAndAge_17 : decode cX0_leakAndAge 17 = .ok (.getfield 24, 3) := by decide +kernel
theorem dX0_leakAndAge_20 : decode cX0_leakAndAge 20 = .ok (.iload_n 1, 1) := by decide +kernel
theorem dX0_leakAndAge_21 : decode cX0_leakAndAge 21 = .ok (.iaload, 1) := by decide +kernel
theorem dX0_leakAndAge_22 : decode cX0_leakAndAge 22 = .ok (.aload_n 0, 1) := by decide +kernel
theorem dX0_leakAndAge_23 : decode cX0_leakAndAge 23 = .ok (.iload_n 1, 1) := by decide +kernel
theorem dX0_leakAndAge_24 : decode cX0_leakAndAge 24 = .ok (.invokevirtual 111, 3) := by decide +kernel
theorem dX0_leakAndAge_27 : decode cX0_leakAndAge 27 = .ok (.isub, 1) := by decide +kernel
theorem dX0_leakAndAge_28 : decode cX0_leakAndAge 28 = .ok (.invokestatic 80, 3) := by decide +kernel
theorem dX0_leakAndAge_31 : decode cX0_leakAndAge 31 = .ok (.iastore, 1) := by decide +kernel
theorem dX0_leakAndAge_32 : decode cX0_leakAndAge 32 = .ok (.aload_n 0, 1) := by decide +kernel
theorem dX0_leakAndAge_33 : decode cX0_leakAndAge 33 = .ok (.getfield 33, 3) := by decide +kernel
theorem dX0_leakAndAge_36 : decode cX0_leakAndAge 36 = .ok (.iload_n 1, 1) := by decide +kernel
theorem dX0_leakAndAge_37 : decode cX0_leakAndAge 37 = .ok (.aload_n 0, 1) := by decide +kernel
theorem dX0_leakAndAge_38 : decode cX0_leakAndAge 38 = .ok (.getfield 33, 3) := by decide +kernel
theorem dX0_leakAndAge_41 : decode cX0_leakAndAge 41 = .ok (.iload_n 1, 1) := by decide +kernel
theorem dX0_leakAndAge_42 : decode cX0_leakAndAge 42 = .ok (.iaload, 1) := by decide +kernel
theorem dX0_leakAndAge_43 : decode cX0_leakAndAge 43 = .ok (.iconst 1, 1) := by decide +kernel
theorem dX0_leakAndAge_44 : decode cX0_leakAndAge 44 = .ok (.iadd, 1) := by decide +kernel
theorem dX0_leakAndAge_45 : decode cX0_leakAndAge 45 = .ok (.sipush 999, 3) := by decide +kernel
theorem dX0_leakAndAge_48 : decode cX0_leakAndAge 48 = .ok (.invokestatic 105, 3) := by decide +kernel
theorem dX0_leakAndAge_51 : decode cX0_leakAndAge 51 = .ok (.iastore, 1) := by decide +kernel
theorem dX0_leakAndAge_52 : decode cX0_leakAndAge 52 = .ok (.iinc 1 1, 3) := by decide +kernel
theorem dX0_leakAndAge_55 : decode cX0_leakAndAge 55 = .ok (.goto (-53), 3) := by decide +kernel
theorem dX0_leakAndAge_58 : decode cX0_leakAndAge 58 = .ok (.return_, 1) := by decide +kernel
theorem dX0_cancelPeals_0 : decode cX0_cancelPeals 0 = .ok (.iconst 0, 1) := by decide +kernel
theorem dX0_cancelPeals_1 : decode cX0_cancelPeals 1 = .ok (.istore_n 1, 1) := by decide +kernel
theorem dX0_cancelPeals_2 : decode cX0_cancelPeals 2 = .ok (.iload_n 1, 1) := by decide +kernel
theorem dX0_cancelPeals_3 : decode cX0_cancelPeals 3 = .ok (.aload_n 0, 1) := by decide +kernel
theorem dX0_cancelPeals_4 : decode cX0_cancelPeals 4 = .ok (.getfield 42, 3) := by decide +kernel
theorem dX0_cancelPeals_7 : decode cX0_cancelPeals 7 = .ok (.if_icmp .ge 102, 3) := by decide +kernel
theorem dX0_cancelPeals_10 : decode cX0_cancelPeals 10 = .ok (.iload_n 1, 1) := by decide +kernel
theorem dX0_cancelPeals_11 : decode cX0_cancelPeals 11 = .ok (.iconst 1, 1) := by decide +kernel
theorem dX0_cancelPeals_12 : decode cX0_cancelPeals 12 = .ok (.iadd, 1) := by decide +kernel
theorem dX0_cancelPeals_13 : decode cX0_cancelPeals 13 = .ok (.istore_n 2, 1) := by decide +kernel
theorem dX0_cancelPeals_14 : decode cX0_cancelPeals 14 = .ok (.iload_n 2, 1) := by decide +kernel
theorem dX0_cancelPeals_15 : decode cX0_cancelPeals 15 = .ok (.aload_n 0, 1) := by decide +kernel
theorem dX0_cancelPeals_16 : decode cX0_cancelPeals 16 = .ok (.getfield 42, 3) := by decide +kernel
theorem dX0_cancelPeals_19 : decode cX0_cancelPeals 19 = .ok (.if_icmp .ge 84, 3) := by decide +kernel
theorem dX0_cancelPeals_22 : decode cX0_cancelPeals 22 = .ok (.aload_n 0, 1) := by decide +kernel
theorem dX0_cancelPeals_23 : decode cX0_cancelPeals 23 = .ok (.getfield 24, 3) := by decide +kernel
theorem dX0_cancelPeals_26 : decode cX0_cancelPeals 26 = .ok (.iload_n 1, 1) := by decide +kernel
theorem dX0_cancelPeals_27 : decode cX0_cancelPeals 27 = .ok (.iaload, 1) := by decide +kernel
theorem dX0_cancelPeals_28 : decode cX0_cancelPeals 28 = .ok (.ifCond .le 75, 3) := by decide +kernel
theorem dX0_cancelPeals_31 : decode cX0_cancelPeals 31 = .ok (.aload_n 0, 1) := by decide +kernel
theorem dX0_cancelPeals_32 : decode cX0_cancelPeals 32 = .ok (.getfield 21, 3) := by decide +kernel
theorem dX0_cancelPeals_35 : decode cX0_cancelPeals 35 = .ok (.iload_n 1, 1) := by decide +kernel
theorem dX0_cancelPeals_36 : decode cX0_cancelPeals 36 = .ok (.iaload, 1) := by decide +kernel
theorem dX0_cancelPeals_37 : decode cX0_cancelPeals 37 = .ok (.aload_n 0, 1) := by decide +kernel
theorem dX0_cancelPeals_38 : decode cX0_cancelPeals 38 = .ok (.getfield 21, 3) := by decide +kernel
theorem dX0_cancelPeals_41 : decode cX0_cancelPeals 41 = .ok (.iload_n 2, 1) := by decide +kernel
theorem dX0_cancelPeals_42 : decode cX0_cancelPeals 42 = .ok (.iaload, 1) := by decide +kernel
theorem dX0_cancelPeals_43 : decode cX0_cancelPeals 43 = .ok (.if_icmp .ne 54, 3) := by decide +kernel
theorem dX0_cancelPeals_46 : decode cX0_cancelPeals 46 = .ok (.aload_n 0, 1) := by decide +kernel
theorem dX0_cancelPeals_47 : decode cX0_cancelPeals 47 = .ok (.getfield 27, 3) := by decide +kernel
theorem dX0_cancelPeals_50 : decode cX0_cancelPeals 50 = .ok (.iload_n 1, 1) := by decide +kernel
theorem dX0_cancelPeals_51 : decode cX0_cancelPeals 51 = .ok (.iaload, 1) := by decide +kernel
theorem dX0_cancelPeals_52 : decode cX0_cancelPeals 52 = .ok (.aload_n 0, 1) := by decide +kernel
theorem dX0_cancelPeals_53 : decode cX0_cancelPeals 53 = .ok (.getfield 27, 3) := by decide +kernel
theorem dX0_cancelPeals_56 : decode cX0_cancelPeals 56 = .ok (.iload_n 2, 1) := by decide +kernel
theorem dX0_cancelPeals_57 : decode cX0_cancelPeals 57 = .ok (.iaload, 1) := by decide +kernel
theorem dX0_cancelPeals_58 : decode cX0_cancelPeals 58 = .ok (.if_icmp .ne 39, 3) := by decide +kernel
theorem dX0_cancelPeals_61 : decode cX0_cancelPeals 61 = .ok (.aload_n 0, 1) := by decide +kernel
theorem dX0_cancelPeals_62 : decode cX0_cancelPeals 62 = .ok (.getfield 24, 3) := by decide +kernel
theorem dX0_cancelPeals_65 : decode cX0_cancelPeals 65 = .ok (.iload_n 1, 1) := by decide +kernel
theorem dX0_cancelPeals_66 : decode cX0_cancelPeals 66 = .ok (.iaload, 1) := by decide +kernel
theorem dX0_cancelPeals_67 : decode cX0_cancelPeals 67 = .ok (.aload_n 0, 1) := by decide +kernel
theorem dX0_cancelPeals_68 : decode cX0_cancelPeals 68 = .ok (.getfield 24, 3) := by decide +kernel
theorem dX0_cancelPeals_71 : decode cX0_cancelPeals 71 = .ok (.iload_n 2, 1) := by decide +kernel
theorem dX0_cancelPeals_72 : decode cX0_cancelPeals 72 = .ok (.iaload, 1) := by decide +kernel
theorem dX0_cancelPeals_73 : decode cX0_cancelPeals 73 = .ok (.invokestatic 105, 3) := by decide +kernel
theorem dX0_cancelPeals_76 : decode cX0_cancelPeals 76 = .ok (.istore_n 3, 1) := by decide +kernel
theorem dX0_cancelPeals_77 : decode cX0_cancelPeals 77 = .ok (.aload_n 0, 1) := by decide +kernel
theorem dX0_cancelPeals_78 : decode cX0_cancelPeals 78 = .ok (.getfield 24, 3) := by decide +kernel
theorem dX0_cancelPeals_81 : decode cX0_cancelPeals 81 = .ok (.iload_n 1, 1) := by decide +kernel
theorem dX0_cancelPeals_82 : decode cX0_cancelPeals 82 = .ok (.dup2, 1) := by decide +kernel
theorem dX0_cancelPeals_83 : decode cX0_cancelPeals 83 = .ok (.iaload, 1) := by decide +kernel
theorem dX0_cancelPeals_84 : decode cX0_cancelPeals 84 = .ok (.iload_n 3, 1) := by decide +kernel
theorem dX0_cancelPeals_85 : decode cX0_cancelPeals 85 = .ok (.isub, 1) := by decide +kernel
theorem dX0_cancelPeals_86 : decode cX0_cancelPeals 86 = .ok (.iastore, 1) := by decide +kernel
theorem dX0_cancelPeals_87 : decode cX0_cancelPeals 87 = .ok (.aload_n 0, 1) := by decide +kernel
theorem dX0_cancelPeals_88 : decode cX0_cancelPeals 88 = .ok (.getfield 24, 3) := by decide +kernel
theorem dX0_cancelPeals_91 : decode cX0_cancelPeals 91 = .ok (.iload_n 2, 1) := by decide +kernel
theorem dX0_cancelPeals_92 : decode cX0_cancelPeals 92 = .ok (.dup2, 1) := by decide +kernel
theorem dX0_cancelPeals_93 : decode cX0_cancelPeals 93 = .ok (.iaload, 1) := by decide +kernel
theorem dX0_cancelPeals_94 : decode cX0_cancelPeals 94 = .ok (.iload_n 3, 1) := by decide +kernel
theorem dX0_cancelPeals_95 : decode cX0_cancelPeals 95 = .ok (.isub, 1) := by decide +kernel
theorem dX0_cancelPeals_96 : decode cX0_cancelPeals 96 = .ok (.iastore, 1) := by decide +kernel
theorem dX0_cancelPeals_97 : decode cX0_cancelPeals 97 = .ok (.iinc 2 1, 3) := by decide +kernel
theorem dX0_cancelPeals_100 : decode cX0_cancelPeals 100 = .ok (.goto (-86), 3) := by decide +kernel
theorem dX0_cancelPeals_103 : decode cX0_cancelPeals 103 = .ok (.iinc 1 1, 3) := by decide +kernel
theorem dX0_cancelPeals_106 : decode cX0_cancelPeals 106 = .ok (.goto (-104), 3) := by decide +kernel
theorem dX0_cancelPeals_109 : decode cX0_cancelPeals 109 = .ok (.return_, 1) := by decide +kernel
theorem dX0_burstAll_0 : decode cX0_burstAll 0 = .ok (.iconst 0, 1) := by decide +kernel
theorem dX0_burstAll_1 : decode cX0_burstAll 1 = .ok (.istore_n 1, 1) := by decide +kernel
theorem dX0_burstAll_2 : decode cX0_burstAll 2 = .ok (.iload_n 1, 1) := by decide +kernel
theorem dX0_burstAll_3 : decode cX0_burstAll 3 = .ok (.bipush 8, 2) := by decide +kernel
theorem dX0_burstAll_5 : decode cX0_burstAll 5 = .ok (.if_icmp .ge 24, 3) := by decide +kernel
theorem dX0_burstAll_8 : decode cX0_burstAll 8 = .ok (.aload_n 0, 1) := by decide +kernel
theorem dX0_burstAll_9 : decode cX0_burstAll 9 = .ok (.invokevirtual 114, 3) := by decide +kernel
theorem dX0_burstAll_12 : decode cX0_burstAll 12 = .ok (.istore_n 2, 1) := by decide +kernel
theorem dX0_burstAll_13 : decode cX0_burstAll 13 = .ok (.iload_n 2, 1) := by decide +kernel
theorem dX0_burstAll_14 : decode cX0_burstAll 14 = .ok (.ifCond .ge 4, 3) := by decide +kernel
theorem dX0_burstAll_17 : decode cX0_burstAll 17 = .ok (.return_, 1) := by decide +kernel
theorem dX0_burstAll_18 : decode cX0_burstAll 18 = .ok (.aload_n 0, 1) := by decide +kernel
theorem dX0_burstAll_19 : decode cX0_burstAll 19 = .ok (.iload_n 2, 1) := by decide +kernel
theorem dX0_burstAll_20 : decode cX0_burstAll 20 = .ok (.invokevirtual 118, 3) := by decide +kernel
theorem dX0_burstAll_23 : decode cX0_burstAll 23 = .ok (.iinc 1 1, 3) := by decide +kernel
theorem dX0_burstAll_26 : decode cX0_burstAll 26 = .ok (.goto (-24), 3) := by decide +kernel
theorem dX0_burstAll_29 : decode cX0_burstAll 29 = .ok (.return_, 1) := by decide +kernel
theorem dX0_firstTooLoud_0 : decode cX0_firstTooLoud 0 = .ok (.iconst 0, 1) := by decide +kernel
theorem dX0_firstTooLoud_1 : decode cX0_firstTooLoud 1 = .ok (.istore_n 1, 1) := by decide +kernel
theorem dX0_firstTooLoud_2 : decode cX0_firstTooLoud 2 = .ok (.iload_n 1, 1) := by decide +kernel
theorem dX0_firstTooLoud_3 : decode cX0_firstTooLoud 3 = .ok (.aload_n 0, 1) := by decide +kernel
theorem dX0_firstTooLoud_4 : decode cX0_firstTooLoud 4 = .ok (.getfield 42, 3) := by decide +kernel
theorem dX0_firstTooLoud_7 : decode cX0_firstTooLoud 7 = .ok (.if_icmp .ge 24, 3) := by decide +kernel
theorem dX0_firstTooLoud_10 : decode cX0_firstTooLoud 10 = .ok (.aload_n 0, 1) := by decide +kernel
theorem dX0_firstTooLoud_11 : decode cX0_firstTooLoud 11 = .ok (.iload_n 1, 1) := by decide +kernel
theorem dX0_firstTooLoud_12 : decode cX0_firstTooLoud 12 = .ok (.invokevirtual 86, 3) := by decide +kernel
theorem dX0_firstTooLoud_15 : decode cX0_firstTooLoud 15 = .ok (.aload_n 0, 1) := by decide +kernel
theorem dX0_firstTooLoud_16 : decode cX0_firstTooLoud 16 = .ok (.iload_n 1, 1) := by decide +kernel
theorem dX0_firstTooLoud_17 : decode cX0_firstTooLoud 17 = .ok (.invokevirtual 89, 3) := by decide +kernel
theorem dX0_firstTooLoud_20 : decode cX0_firstTooLoud 20 = .ok (.if_icmp .le 5, 3) := by decide +kernel
theorem dX0_firstTooLoud_23 : decode cX0_firstTooLoud 23 = .ok (.iload_n 1, 1) := by decide +kernel
theorem dX0_firstTooLoud_24 : decode cX0_firstTooLoud 24 = .ok (.ireturn, 1) := by decide +kernel
theorem dX0_firstTooLoud_25 : decode cX0_firstTooLoud 25 = .ok (.iinc 1 1, 3) := by decide +kernel
theorem dX0_firstTooLoud_28 : decode cX0_firstTooLoud 28 = .ok (.goto (-26), 3) := by decide +kernel
theorem dX0_firstTooLoud_31 : decode cX0_firstTooLoud 31 = .ok (.iconst (-1), 1) := by decide +kernel
theorem dX0_firstTooLoud_32 : decode cX0_firstTooLoud 32 = .ok (.ireturn, 1) := by decide +kernel
theorem dX0_burstOne_0 : decode cX0_burstOne 0 = .ok (.aload_n 0, 1) := by decide +kernel
theorem dX0_burstOne_1 : decode cX0_burstOne 1 = .ok (.getfield 24, 3) := by decide +kernel
theorem dX0_burstOne_4 : decode cX0_burstOne 4 = .ok (.iload_n 1, 1) := by decide +kernel
theorem dX0_burstOne_5 : decode cX0_burstOne 5 = .ok (.iaload, 1) := by decide +kernel
theorem dX0_burstOne_6 : decode cX0_burstOne 6 = .ok (.iconst 2, 1) := by decide +kernel
theorem dX0_burstOne_7 : decode cX0_burstOne 7 = .ok (.idiv, 1) := by decide +kernel
theorem dX0_burstOne_8 : decode cX0_burstOne 8 = .ok (.istore_n 2, 1) := by decide +kernel
theorem dX0_burstOne_9 : decode cX0_burstOne 9 = .ok (.iconst 0, 1) := by decide +kernel
theorem dX0_burstOne_10 : decode cX0_burstOne 10 = .ok (.istore_n 3, 1) := by decide +kernel
theorem dX0_burstOne_11 : decode cX0_burstOne 11 = .ok (.iload_n 3, 1) := by decide +kernel
theorem dX0_burstOne_12 : decode cX0_burstOne 12 = .ok (.aload_n 0, 1) := by decide +kernel
theorem dX0_burstOne_13 : decode cX0_burstOne 13 = .ok (.getfield 42, 3) := by decide +kernel
theorem dX0_burstOne_16 : decode cX0_burstOne 16 = .ok (.if_icmp .ge 49, 3) := by decide +kernel
theorem dX0_burstOne_19 : decode cX0_burstOne 19 = .ok (.iload_n 3, 1) := by decide +kernel
theorem dX0_burstOne_20 : decode cX0_burstOne 20 = .ok (.iload_n 1, 1) := by decide +kernel
theorem dX0_burstOne_21 : decode cX0_burstOne 21 = .ok (.if_icmp .eq 38, 3) := by decide +kernel
theorem dX0_burstOne_24 : decode cX0_burstOne 24 = .ok (.aload_n 0, 1) := by decide +kernel
theorem dX0_burstOne_25 : decode cX0_burstOne 25 = .ok (.getfield 21, 3) := by decide +kernel
theorem dX0_burstOne_28 : decode cX0_burstOne 28 = .ok (.iload_n 3, 1) := by decide +kernel
theorem dX0_burstOne_29 : decode cX0_burstOne 29 = .ok (.iaload, 1) := by decide +kernel
theorem dX0_burstOne_30 : decode cX0_burstOne 30 = .ok (.aload_n 0, 1) := by decide +kernel
theorem dX0_burstOne_31 : decode cX0_burstOne 31 = .ok (.getfield 21, 3) := by decide +kernel
theorem dX0_burstOne_34 : decode cX0_burstOne 34 = .ok (.iload_n 1, 1) := by decide +kernel
theorem dX0_burstOne_35 : decode cX0_burstOne 35 = .ok (.iaload, 1) := by decide +kernel
theorem dX0_burstOne_36 : decode cX0_burstOne 36 = .ok (.if_icmp .ne 23, 3) := by decide +kernel
theorem dX0_burstOne_39 : decode cX0_burstOne 39 = .ok (.aload_n 0, 1) := by decide +kernel
theorem dX0_burstOne_40 : decode cX0_burstOne 40 = .ok (.getfield 24, 3) := by decide +kernel
theorem dX0_burstOne_43 : decode cX0_burstOne 43 = .ok (.iload_n 3, 1) := by decide +kernel
theorem dX0_burstOne_44 : decode cX0_burstOne 44 = .ok (.aload_n 0, 1) := by decide +kernel
theorem dX0_burstOne_45 : decode cX0_burstOne 45 = .ok (.getfield 24, 3) := by decide +kernel
theorem dX0_burstOne_48 : decode cX0_burstOne 48 = .ok (.iload_n 3, 1) := by decide +kernel
theorem dX0_burstOne_49 : decode cX0_burstOne 49 = .ok (.iaload, 1) := by decide +kernel
theorem dX0_burstOne_50 : decode cX0_burstOne 50 = .ok (.iload_n 2, 1) := by decide +kernel
theorem dX0_burstOne_51 : decode cX0_burstOne 51 = .ok (.iadd, 1) := by decide +kernel
theorem dX0_burstOne_52 : decode cX0_burstOne 52 = .ok (.sipush 999, 3) := by decide +kernel
theorem dX0_burstOne_55 : decode cX0_burstOne 55 = .ok (.invokestatic 105, 3) := by decide +kernel
theorem dX0_burstOne_58 : decode cX0_burstOne 58 = .ok (.iastore, 1) := by decide +kernel
theorem dX0_burstOne_59 : decode cX0_burstOne 59 = .ok (.iinc 3 1, 3) := by decide +kernel
theorem dX0_burstOne_62 : decode cX0_burstOne 62 = .ok (.goto (-51), 3) := by decide +kernel
theorem dX0_burstOne_65 : decode cX0_burstOne 65 = .ok (.aload_n 0, 1) := by decide +kernel
theorem dX0_burstOne_66 : decode cX0_burstOne 66 = .ok (.iload_n 1, 1) := by decide +kernel
theorem dX0_burstOne_67 : decode cX0_burstOne 67 = .ok (.invokevirtual 65, 3) := by decide +kernel
theorem dX0_burstOne_70 : decode cX0_burstOne 70 = .ok (.aload_n 0, 1) := by decide +kernel
theorem dX0_burstOne_71 : decode cX0_burstOne 71 = .ok (.getfield 36, 3) := by decide +kernel
theorem dX0_burstOne_74 : decode cX0_burstOne 74 = .ok (.iload_n 1, 1) := by decide +kernel
theorem dX0_burstOne_75 : decode cX0_burstOne 75 = .ok (.aload_n 0, 1) := by decide +kernel
theorem dX0_burstOne_76 : decode cX0_burstOne 76 = .ok (.getfield 36, 3) := by decide +kernel
theorem dX0_burstOne_79 : decode cX0_burstOne 79 = .ok (.iload_n 1, 1) := by decide +kernel
theorem dX0_burstOne_80 : decode cX0_burstOne 80 = .ok (.iaload, 1) := by decide +kernel
theorem dX0_burstOne_81 : decode cX0_burstOne 81 = .ok (.iconst 1, 1) := by decide +kernel
theorem dX0_burstOne_82 : decode cX0_burstOne 82 = .ok (.iadd, 1) := by decide +kernel
theorem dX0_burstOne_83 : decode cX0_burstOne 83 = .ok (.sipush 999, 3) := by decide +kernel
theorem dX0_burstOne_86 : decode cX0_burstOne 86 = .ok (.invokestatic 105, 3) := by decide +kernel
theorem dX0_burstOne_89 : decode cX0_burstOne 89 = .ok (.iastore, 1) := by decide +kernel
theorem dX0_burstOne_90 : decode cX0_burstOne 90 = .ok (.aload_n 0, 1) := by decide +kernel
theorem dX0_burstOne_91 : decode cX0_burstOne 91 = .ok (.aload_n 0, 1) := by decide +kernel
theorem dX0_burstOne_92 : decode cX0_burstOne 92 = .ok (.getfield 49, 3) := by decide +kernel
theorem dX0_burstOne_95 : decode cX0_burstOne 95 = .ok (.iconst 1, 1) := by decide +kernel
theorem dX0_burstOne_96 : decode cX0_burstOne 96 = .ok (.iadd, 1) := by decide +kernel
theorem dX0_burstOne_97 : decode cX0_burstOne 97 = .ok (.ldc 104, 2) := by decide +kernel
theorem dX0_burstOne_99 : decode cX0_burstOne 99 = .ok (.invokestatic 105, 3) := by decide +kernel
theorem dX0_burstOne_102 : decode cX0_burstOne 102 = .ok (.putfield 49, 3) := by decide +kernel
theorem dX0_burstOne_105 : decode cX0_burstOne 105 = .ok (.return_, 1) := by decide +kernel
theorem dX1_init_0 : decode cX1_init 0 = .ok (.aload_n 0, 1) := by decide +kernel
theorem dX1_init_1 : decode cX1_init 1 = .ok (.invokespecial 3, 3) := by decide +kernel
theorem dX1_init_4 : decode cX1_init 4 = .ok (.aload_n 0, 1) := by decide +kernel
theorem dX1_init_5 : decode cX1_init 5 = .ok (.iconst 4, 1) := by decide +kernel
theorem dX1_init_6 : decode cX1_init 6 = .ok (.newarray .int, 2) := by decide +kernel
theorem dX1_init_8 : decode cX1_init 8 = .ok (.putfield 9, 3) := by decide +kernel
theorem dX1_init_11 : decode cX1_init 11 = .ok (.aload_n 0, 1) := by decide +kernel
theorem dX1_init_12 : decode cX1_init 12 = .ok (.iconst 4, 1) := by decide +kernel
theorem dX1_init_13 : decode cX1_init 13 = .ok (.newarray .int, 2) := by decide +kernel
theorem dX1_init_15 : decode cX1_init 15 = .ok (.putfield 15, 3) := by decide +kernel
theorem dX1_init_18 : decode cX1_init 18 = .ok (.aload_n 0, 1) := by decide +kernel
theorem dX1_init_19 : decode cX1_init 19 = .ok (.iconst 4, 1) := by decide +kernel
theorem dX1_init_20 : decode cX1_init 20 = .ok (.bipush 40, 2) := by decide +kernel
theorem dX1_init_22 : decode cX1_init 22 = .ok (.multianewarray 18 2, 4) := by decide +kernel
theorem dX1_init_26 : decode cX1_init 26 = .ok (.putfield 20, 3) := by decide +kernel
theorem dX1_init_29 : decode cX1_init 29 = .ok (.return_, 1) := by decide +kernel
theorem dX1_makeNew_0 : decode cX1_makeNew 0 = .ok (.aload_n 0, 1) := by decide +kernel
theorem dX1_makeNew_1 : decode cX1_makeNew 1 = .ok (.getfield 9, 3) := by decide +kernel
theorem dX1_makeNew_4 : decode cX1_makeNew 4 = .ok (.iload_n 1, 1) := by decide +kernel
theorem dX1_makeNew_5 : decode cX1_makeNew 5 = .ok (.iload_n 2, 1) := by decide +kernel
theorem dX1_makeNew_6 : decode cX1_makeNew 6 = .ok (.iastore, 1) := by decide +kernel
theorem dX1_makeNew_7 : decode cX1_makeNew 7 = .ok (.aload_n 0, 1) := by decide +kernel
theorem dX1_makeNew_8 : decode cX1_makeNew 8 = .ok (.getfield 15, 3) := by decide +kernel
theorem dX1_makeNew_11 : decode cX1_makeNew 11 = .ok (.iload_n 1, 1) := by decide +kernel
theorem dX1_makeNew_12 : decode cX1_makeNew 12 = .ok (.iload_n 2, 1) := by decide +kernel
theorem dX1_makeNew_13 : decode cX1_makeNew 13 = .ok (.ifCond .ne 7, 3) := by decide +kernel
theorem dX1_makeNew_16 : decode cX1_makeNew 16 = .ok (.iconst 0, 1) := by decide +kernel
theorem dX1_makeNew_17 : decode cX1_makeNew 17 = .ok (.goto 4, 3) := by decide +kernel
theorem dX1_makeNew_20 : decode cX1_makeNew 20 = .ok (.iload_n 3, 1) := by decide +kernel
theorem dX1_makeNew_21 : decode cX1_makeNew 21 = .ok (.iastore, 1) := by decide +kernel
theorem dX1_makeNew_22 : decode cX1_makeNew 22 = .ok (.iconst 0, 1) := by decide +kernel
theorem dX1_makeNew_23 : decode cX1_makeNew 23 = .ok (.istore 4, 2) := by decide +kernel
theorem dX1_makeNew_25 : decode cX1_makeNew 25 = .ok (.iload 4, 2) := by decide +kernel
theorem dX1_makeNew_27 : decode cX1_makeNew 27 = .ok (.bipush 40, 2) := by decide +kernel
theorem dX1_makeNew_29 : decode cX1_makeNew 29 = .ok (.if_icmp .ge 19, 3) := by decide +kernel
theorem dX1_makeNew_32 : decode cX1_makeNew 32 = .ok (.aload_n 0, 1) := by decide +kernel
theorem dX1_makeNew_33 : decode cX1_makeNew 33 = .ok (.getfield 20, 3) := by decide +kernel
theorem dX1_makeNew_36 : decode cX1_makeNew 36 = .ok (.iload_n 1, 1) := by decide +kernel
theorem dX1_makeNew_37 : decode cX1_makeNew 37 = .ok (.aaload, 1) := by decide +kernel
theorem dX1_makeNew_38 : decode cX1_makeNew 38 = .ok (.iload 4, 2) := by decide +kernel
theorem dX1_makeNew_40 : decode cX1_makeNew 40 = .ok (.iconst 0, 1) := by decide +kernel
theorem dX1_makeNew_41 : decode cX1_makeNew 41 = .ok (.iastore, 1) := by decide +kernel
theorem dX1_makeNew_42 : decode cX1_makeNew 42 = .ok (.iinc 4 1, 3) := by decide +kernel
theorem dX1_makeNew_45 : decode cX1_makeNew 45 = .ok (.goto (-20), 3) := by decide +kernel
theorem dX1_makeNew_48 : decode cX1_makeNew 48 = .ok (.return_, 1) := by decide +kernel
theorem dX1_isMissing_0 : decode cX1_isMissing 0 = .ok (.aload_n 0, 1) := by decide +kernel
theorem dX1_isMissing_1 : decode cX1_isMissing 1 = .ok (.getfield 9, 3) := by decide +kernel
theorem dX1_isMissing_4 : decode cX1_isMissing 4 = .ok (.iload_n 1, 1) := by decide +kernel
theorem dX1_isMissing_5 : decode cX1_isMissing 5 = .ok (.iaload, 1) := by decide +kernel
theorem dX1_isMissing_6 : decode cX1_isMissing 6 = .ok (.ifCond .ne 7, 3) := by decide +kernel
theorem dX1_isMissing_9 : decode cX1_isMissing 9 = .ok (.iconst 1, 1) := by decide +kernel
theorem dX1_isMissing_10 : decode cX1_isMissing 10 = .ok (.goto 4, 3) := by decide +kernel
theorem dX1_isMissing_13 : decode cX1_isMissing 13 = .ok (.iconst 0, 1) := by decide +kernel
theorem dX1_isMissing_14 : decode cX1_isMissing 14 = .ok (.ireturn, 1) := by decide +kernel
theorem dX1_put_0 : decode cX1_put 0 = .ok (.aload_n 0, 1) := by decide +kernel
theorem dX1_put_1 : decode cX1_put 1 = .ok (.getfield 9, 3) := by decide +kernel
theorem dX1_put_4 : decode cX1_put 4 = .ok (.iload_n 1, 1) := by decide +kernel
theorem dX1_put_5 : decode cX1_put 5 = .ok (.iaload, 1) := by decide +kernel
theorem dX1_put_6 : decode cX1_put 6 = .ok (.bipush 8, 2) := by decide +kernel
theorem dX1_put_8 : decode cX1_put 8 = .ok (.if_icmp .ne 16, 3) := by decide +kernel
theorem dX1_put_11 : decode cX1_put 11 = .ok (.aload_n 0, 1) := by decide +kernel
theorem dX1_put_12 : decode cX1_put 12 = .ok (.getfield 20, 3) := by decide +kernel
theorem dX1_put_15 : decode cX1_put 15 = .ok (.iload_n 1, 1) := by decide +kernel
theorem dX1_put_16 : decode cX1_put 16 = .ok (.aaload, 1) := by decide +kernel
theorem dX1_put_17 : decode cX1_put 17 = .ok (.iload_n 2, 1) := by decide +kernel
theorem dX1_put_18 : decode cX1_put 18 = .ok (.iload_n 3, 1) := by decide +kernel
theorem dX1_put_19 : decode cX1_put 19 = .ok (.i2b, 1) := by decide +kernel
theorem dX1_put_20 : decode cX1_put 20 = .ok (.iastore, 1) := by decide +kernel
theorem dX1_put_21 : decode cX1_put 21 = .ok (.goto 36, 3) := by decide +kernel
theorem dX1_put_24 : decode cX1_put 24 = .ok (.aload_n 0, 1) := by decide +kernel
theorem dX1_put_25 : decode cX1_put 25 = .ok (.getfield 9, 3) := by decide +kernel
theorem dX1_put_28 : decode cX1_put 28 = .ok (.iload_n 1, 1) := by decide +kernel
theorem dX1_put_29 : decode cX1_put 29 = .ok (.iaload, 1) := by decide +kernel
theorem dX1_put_30 : decode cX1_put 30 = .ok (.bipush 16, 2) := by decide +kernel
theorem dX1_put_32 : decode cX1_put 32 = .ok (.if_icmp .ne 16, 3) := by decide +kernel
theorem dX1_put_35 : decode cX1_put 35 = .ok (.aload_n 0, 1) := by decide +kernel
theorem dX1_put_36 : decode cX1_put 36 = .ok (.getfield 20, 3) := by decide +kernel
theorem dX1_put_39 : decode cX1_put 39 = .ok (.iload_n 1, 1) := by decide +kernel
theorem dX1_put_40 : decode cX1_put 40 = .ok (.aaload, 1) := by decide +kernel
theorem dX1_put_41 : decode cX1_put 41 = .ok (.iload_n 2, 1) := by decide +kernel
theorem dX1_put_42 : decode cX1_put 42 = .ok (.iload_n 3, 1) := by decide +kernel
theorem dX1_put_43 : decode cX1_put 43 = .ok (.i2s, 1) := by decide +kernel
theorem dX1_put_44 : decode cX1_put 44 = .ok (.iastore, 1) := by decide +kernel
theorem dX1_put_45 : decode cX1_put 45 = .ok (.goto 12, 3) := by decide +kernel
theorem dX1_put_48 : decode cX1_put 48 = .ok (.aload_n 0, 1) := by decide +kernel
theorem dX1_put_49 : decode cX1_put 49 = .ok (.getfield 20, 3) := by decide +kernel
theorem dX1_put_52 : decode cX1_put 52 = .ok (.iload_n 1, 1) := by decide +kernel
theorem dX1_put_53 : decode cX1_put 53 = .ok (.aaload, 1) := by decide +kernel
theorem dX1_put_54 : decode cX1_put 54 = .ok (.iload_n 2, 1) := by decide +kernel
theorem dX1_put_55 : decode cX1_put 55 = .ok (.iload_n 3, 1) := by decide +kernel
theorem dX1_put_56 : decode cX1_put 56 = .ok (.iastore, 1) := by decide +kernel
theorem dX1_put_57 : decode cX1_put 57 = .ok (.return_, 1) := by decide +kernel
theorem dX1_hasRun_0 : decode cX1_hasRun 0 = .ok (.iload_n 2, 1) := by decide +kernel
theorem dX1_hasRun_1 : decode cX1_hasRun 1 = .ok (.ifCond .lt 33, 3) := by decide +kernel
theorem dX1_hasRun_4 : decode cX1_hasRun 4 = .ok (.iload_n 3, 1) := by decide +kernel
theorem dX1_hasRun_5 : decode cX1_hasRun 5 = .ok (.ifCond .lt 29, 3) := by decide +kernel
theorem dX1_hasRun_8 : decode cX1_hasRun 8 = .ok (.iload_n 2, 1) := by decide +kernel
theorem dX1_hasRun_9 : decode cX1_hasRun 9 = .ok (.aload_n 0, 1) := by decide +kernel
theorem dX1_hasRun_10 : decode cX1_hasRun 10 = .ok (.getfield 15, 3) := by decide +kernel
theorem dX1_hasRun_13 : decode cX1_hasRun 13 = .ok (.iload_n 1, 1) := by decide +kernel
theorem dX1_hasRun_14 : decode cX1_hasRun 14 = .ok (.iaload, 1) := by decide +kernel
theorem dX1_hasRun_15 : decode cX1_hasRun 15 = .ok (.if_icmp .gt 19, 3) := by decide +kernel
theorem dX1_hasRun_18 : decode cX1_hasRun 18 = .ok (.iload_n 3, 1) := by decide +kernel
theorem dX1_hasRun_19 : decode cX1_hasRun 19 = .ok (.aload_n 0, 1) := by decide +kernel
theorem dX1_hasRun_20 : decode cX1_hasRun 20 = .ok (.getfield 15, 3) := by decide +kernel
theorem dX1_hasRun_23 : decode cX1_hasRun 23 = .ok (.iload_n 1, 1) := by decide +kernel
theorem dX1_hasRun_24 : decode cX1_hasRun 24 = .ok (.iaload, 1) := by decide +kernel
theorem dX1_hasRun_25 : decode cX1_hasRun 25 = .ok (.iload_n 2, 1) := by decide +kernel
theorem dX1_hasRun_26 : decode cX1_hasRun 26 = .ok (.isub, 1) := by decide +kernel
theorem dX1_hasRun_27 : decode cX1_hasRun 27 = .ok (.if_icmp .gt 7, 3) := by decide +kernel
theorem dX1_hasRun_30 : decode cX1_hasRun 30 = .ok (.iconst 1, 1) := by decide +kernel
theorem dX1_hasRun_31 : decode cX1_hasRun 31 = .ok (.goto 4, 3) := by decide +kernel
theorem dX1_hasRun_34 : decode cX1_hasRun 34 = .ok (.iconst 0, 1) := by decide +kernel
theorem dX1_hasRun_35 : decode cX1_hasRun 35 = .ok (.ireturn, 1) := by decide +kernel
theorem dX1_tells_0 : decode cX1_tells 0 = .ok (.aload_n 0, 1) := by decide +kernel
theorem dX1_tells_1 : decode cX1_tells 1 = .ok (.getfield 20, 3) := by decide +kernel
theorem dX1_tells_4 : decode cX1_tells 4 = .ok (.iload_n 1, 1) := by decide +kernel
theorem dX1_tells_5 : decode cX1_tells 5 = .ok (.aaload, 1) := by decide +kernel
theorem dX1_tells_6 : decode cX1_tells 6 = .ok (.iload_n 2, 1) := by decide +kernel
theorem dX1_tells_7 : decode cX1_tells 7 = .ok (.iaload, 1) := by decide +kernel
theorem dX1_tells_8 : decode cX1_tells 8 = .ok (.iconst (-1), 1) := by decide +kernel
theorem dX1_tells_9 : decode cX1_tells 9 = .ok (.if_icmp .eq 15, 3) := by decide +kernel
theorem dX1_tells_12 : decode cX1_tells 12 = .ok (.aload_n 0, 1) := by decide +kernel
theorem dX1_tells_13 : decode cX1_tells 13 = .ok (.getfield 20, 3) := by decide +kernel
theorem dX1_tells_16 : decode cX1_tells 16 = .ok (.iload_n 1, 1) := by decide +kernel
theorem dX1_tells_17 : decode cX1_tells 17 = .ok (.aaload, 1) := by decide +kernel
theorem dX1_tells_18 : decode cX1_tells 18 = .ok (.iload_n 2, 1) := by decide +kernel
theorem dX1_tells_19 : decode cX1_tells 19 = .ok (.iaload, 1) := by decide +kernel
theorem dX1_tells_20 : decode cX1_tells 20 = .ok (.iload_n 3, 1) := by decide +kernel
theorem dX1_tells_21 : decode cX1_tells 21 = .ok (.if_icmp .ne 7, 3) := by decide +kernel
theorem dX1_tells_24 : decode cX1_tells 24 = .ok (.iconst 1, 1) := by decide +kernel
theorem dX1_tells_25 : decode cX1_tells 25 = .ok (.goto 4, 3) := by decide +kernel
theorem dX1_tells_28 : decode cX1_tells 28 = .ok (.iconst 0, 1) := by decide +kernel
theorem dX1_tells_29 : decode cX1_tells 29 = .ok (.ireturn, 1) := by decide +kernel
theorem dX2_init_0 : decode cX2_init 0 = .ok (.aload_n 0, 1) := by decide +kernel
theorem dX2_init_1 : decode cX2_init 1 = .ok (.invokespecial 3, 3) := by decide +kernel
theorem dX2_init_4 : decode cX2_init 4 = .ok (.aload_n 0, 1) := by decide +kernel
theorem dX2_init_5 : decode cX2_init 5 = .ok (.bipush 120, 2) := by decide +kernel
theorem dX2_init_7 : decode cX2_init 7 = .ok (.newarray .int, 2) := by decide +kernel
theorem dX2_init_9 : decode cX2_init 9 = .ok (.putfield 9, 3) := by decide +kernel
theorem dX2_init_12 : decode cX2_init 12 = .ok (.aload_n 0, 1) := by decide +kernel
theorem dX2_init_13 : decode cX2_init 13 = .ok (.iconst 0, 1) := by decide +kernel
theorem dX2_init_14 : decode cX2_init 14 = .ok (.putfield 15, 3) := by decide +kernel
theorem dX2_init_17 : decode cX2_init 17 = .ok (.aload_n 0, 1) := by decide +kernel
theorem dX2_init_18 : decode cX2_init 18 = .ok (.iconst 0, 1) := by decide +kernel
theorem dX2_init_19 : decode cX2_init 19 = .ok (.putfield 19, 3) := by decide +kernel
theorem dX2_init_22 : decode cX2_init 22 = .ok (.aload_n 0, 1) := by decide +kernel
theorem dX2_init_23 : decode cX2_init 23 = .ok (.iconst 0, 1) := by decide +kernel
theorem dX2_init_24 : decode cX2_init 24 = .ok (.putfield 22, 3) := by decide +kernel
theorem dX2_init_27 : decode cX2_init 27 = .ok (.aload_n 0, 1) := by decide +kernel
theorem dX2_init_28 : decode cX2_init 28 = .ok (.iconst 0, 1) := by decide +kernel
theorem dX2_init_29 : decode cX2_init 29 = .ok (.putfield 25, 3) := by decide +kernel
theorem dX2_init_32 : decode cX2_init 32 = .ok (.aload_n 0, 1) := by decide +kernel
theorem dX2_init_33 : decode cX2_init 33 = .ok (.iconst 0, 1) := by decide +kernel
theorem dX2_init_34 : decode cX2_init 34 = .ok (.putfield 28, 3) := by decide +kernel
theorem dX2_init_37 : decode cX2_init 37 = .ok (.return_, 1) := by decide +kernel
theorem dX2_addByte_0 : decode cX2_addByte 0 = .ok (.aload_n 0, 1) := by decide +kernel
theorem dX2_addByte_1 : decode cX2_addByte 1 = .ok (.getfield 9, 3) := by decide +kernel
theorem dX2_addByte_4 : decode cX2_addByte 4 = .ok (.aload_n 0, 1) := by decide +kernel
theorem dX2_addByte_5 : decode cX2_addByte 5 = .ok (.getfield 15, 3) := by decide +kernel
theorem dX2_addByte_8 : decode cX2_addByte 8 = .ok (.iload_n 1, 1) := by decide +kernel
theorem dX2_addByte_9 : decode cX2_addByte 9 = .ok (.iastore, 1) := by decide +kernel
theorem dX2_addByte_10 : decode cX2_addByte 10 = .ok (.aload_n 0, 1) := by decide +kernel
theorem dX2_addByte_11 : decode cX2_addByte 11 = .ok (.dup, 1) := by decide +kernel
theorem dX2_addByte_12 : decode cX2_addByte 12 = .ok (.getfield 15, 3) := by decide +kernel
theorem dX2_addByte_15 : decode cX2_addByte 15 = .ok (.iconst 1, 1) := by decide +kernel
theorem dX2_addByte_16 : decode cX2_addByte 16 = .ok (.iadd, 1) := by decide +kernel
theorem dX2_addByte_17 : decode cX2_addByte 17 = .ok (.putfield 15, 3) := by decide +kernel
theorem dX2_addByte_20 : decode cX2_addByte 20 = .ok (.return_, 1) := by decide +kernel
theorem dX2_readInto_0 : decode cX2_readInto 0 = .ok (.aload_n 0, 1) := by decide +kernel
theorem dX2_readInto_1 : decode cX2_readInto 1 = .ok (.iconst 0, 1) := by decide +kernel
theorem dX2_readInto_2 : decode cX2_readInto 2 = .ok (.putfield 25, 3) := by decide +kernel
theorem dX2_readInto_5 : decode cX2_readInto 5 = .ok (.aload_n 0, 1) := by decide +kernel
theorem dX2_readInto_6 : decode cX2_readInto 6 = .ok (.invokevirtual 31, 3) := by decide +kernel
theorem dX2_readInto_9 : decode cX2_readInto 9 = .ok (.iconst 0, 1) := by decide +kernel
theorem dX2_readInto_10 : decode cX2_readInto 10 = .ok (.istore_n 2, 1) := by decide +kernel
theorem dX2_readInto_11 : decode cX2_readInto 11 = .ok (.iload_n 2, 1) := by decide +kernel
theorem dX2_readInto_12 : decode cX2_readInto 12 = .ok (.bipush 120, 2) := by decide +kernel
theorem dX2_readInto_14 : decode cX2_readInto 14 = .ok (.if_icmp .gt 52, 3) := by decide +kernel
theorem dX2_readInto_17 : decode cX2_readInto 17 = .ok (.aload_n 0, 1) := by decide +kernel
theorem dX2_readInto_18 : decode cX2_readInto 18 = .ok (.aload_n 1, 1) := by decide +kernel
theorem dX2_readInto_19 : decode cX2_readInto 19 = .ok (.invokevirtual 34, 3) := by decide +kernel
theorem dX2_readInto_22 : decode cX2_readInto 22 = .ok (.ifCond .ne 10, 3) := by decide +kernel
theorem dX2_readInto_25 : decode cX2_readInto 25 = .ok (.iconst (-1), 1) := by decide +kernel
theorem dX2_readInto_26 : decode cX2_readInto 26 = .ok (.aload_n 0, 1) := by decide +kernel
theorem dX2_readInto_27 : decode cX2_readInto 27 = .ok (.getfield 22, 3) := by decide +kernel
theorem dX2_readInto_30 : decode cX2_readInto 30 = .ok (.isub, 1) := by decide +kernel
theorem dX2_readInto_31 : decode cX2_readInto 31 = .ok (.ireturn, 1) := by decide +kernel
theorem dX2_readInto_32 : decode cX2_readInto 32 = .ok (.iinc 2 1, 3) := by decide +kernel
theorem dX2_readInto_35 : decode cX2_readInto 35 = .ok (.aload_n 0, 1) := by decide +kernel
theorem dX2_readInto_36 : decode cX2_readInto 36 = .ok (.getfield 19, 3) := by decide +kernel
theorem dX2_readInto_39 : decode cX2_readInto 39 = .ok (.ifCond .ne 5, 3) := by decide +kernel
theorem dX2_readInto_42 : decode cX2_readInto 42 = .ok (.iload_n 2, 1) := by decide +kernel
theorem dX2_readInto_43 : decode cX2_readInto 43 = .ok (.ireturn, 1) := by decide +kernel
theorem dX2_readInto_44 : decode cX2_readInto 44 = .ok (.aload_n 0, 1) := by decide +kernel
theorem dX2_readInto_45 : decode cX2_readInto 45 = .ok (.getfield 19, 3) := by decide +kernel
theorem dX2_readInto_48 : decode cX2_readInto 48 = .ok (.iconst 3, 1) := by decide +kernel
theorem dX2_readInto_49 : decode cX2_readInto 49 = .ok (.if_icmp .eq 10, 3) := by decide +kernel
theorem dX2_readInto_52 : decode cX2_readInto 52 = .ok (.iconst (-1), 1) := by decide +kernel
theorem dX2_readInto_53 : decode cX2_readInto 53 = .ok (.aload_n 0, 1) := by decide +kernel
theorem dX2_readInto_54 : decode cX2_readInto 54 = .ok (.getfield 22, 3) := by decide +kernel
theorem dX2_readInto_57 : decode cX2_readInto 57 = .ok (.isub, 1) := by decide +kernel
theorem dX2_readInto_58 : decode cX2_readInto 58 = .ok (.ireturn, 1) := by decide +kernel
theorem dX2_readInto_59 : decode cX2_readInto 59 = .ok (.aload_n 0, 1) := by decide +kernel
theorem dX2_readInto_60 : decode cX2_readInto 60 = .ok (.invokevirtual 31, 3) := by decide +kernel
theorem dX2_readInto_63 : decode cX2_readInto 63 = .ok (.goto (-52), 3) := by decide +kernel
theorem dX2_readInto_66 : decode cX2_readInto 66 = .ok (.iconst (-1), 1) := by decide +kernel
theorem dX2_readInto_67 : decode cX2_readInto 67 = .ok (.aload_n 0, 1) := by decide +kernel
theorem dX2_readInto_68 : decode cX2_readInto 68 = .ok (.getfield 22, 3) := by decide +kernel
theorem dX2_readInto_71 : decode cX2_readInto 71 = .ok (.isub, 1) := by decide +kernel
theorem dX2_readInto_72 : decode cX2_readInto 72 = .ok (.ireturn, 1) := by decide +kernel
theorem dX2_readItem_0 : decode cX2_readItem 0 = .ok (.aload_n 0, 1) := by decide +kernel
theorem dX2_readItem_1 : decode cX2_readItem 1 = .ok (.ldc 38, 2) := by decide +kernel
theorem dX2_readItem_3 : decode cX2_readItem 3 = .ok (.invokevirtual 40, 3) := by decide +kernel
theorem dX2_readItem_6 : decode cX2_readItem 6 = .ok (.ifCond .eq 14, 3) := by decide +kernel
theorem dX2_readItem_9 : decode cX2_readItem 9 = .ok (.aload_n 0, 1) := by decide +kernel
theorem dX2_readItem_10 : decode cX2_readItem 10 = .ok (.aload_n 1, 1) := by decide +kernel
theorem dX2_readItem_11 : decode cX2_readItem 11 = .ok (.getfield 44, 3) := by decide +kernel
theorem dX2_readItem_14 : decode cX2_readItem 14 = .ok (.bipush 99, 2) := by decide +kernel
theorem dX2_readItem_16 : decode cX2_readItem 16 = .ok (.invokevirtual 49, 3) := by decide +kernel
theorem dX2_readItem_19 : decode cX2_readItem 19 = .ok (.ireturn, 1) := by decide +kernel
theorem dX2_readItem_20 : decode cX2_readItem 20 = .ok (.aload_n 0, 1) := by decide +kernel
theorem dX2_readItem_21 : decode cX2_readItem 21 = .ok (.ldc 53, 2) := by decide +kernel
theorem dX2_readItem_23 : decode cX2_readItem 23 = .ok (.invokevirtual 40, 3) := by decide +kernel
theorem dX2_readItem_26 : decode cX2_readItem 26 = .ok (.ifCond .eq 14, 3) := by decide +kernel
theorem dX2_readItem_29 : decode cX2_readItem 29 = .ok (.aload_n 0, 1) := by decide +kernel
theorem dX2_readItem_30 : decode cX2_readItem 30 = .ok (.aload_n 1, 1) := by decide +kernel
theorem dX2_readItem_31 : decode cX2_readItem 31 = .ok (.getfield 55, 3) := by decide +kernel
theorem dX2_readItem_34 : decode cX2_readItem 34 = .ok (.bipush 9, 2) := by decide +kernel
theorem dX2_readItem_36 : decode cX2_readItem 36 = .ok (.invokevirtual 49, 3) := by decide +kernel
theorem dX2_readItem_39 : decode cX2_readItem 39 = .ok (.ireturn, 1) := by decide +kernel
theorem dX2_readItem_40 : decode cX2_readItem 40 = .ok (.aload_n 0, 1) := by decide +kernel
theorem dX2_readItem_41 : decode cX2_readItem 41 = .ok (.invokevirtual 58, 3) := by decide +kernel
theorem dX2_readItem_44 : decode cX2_readItem 44 = .ok (.istore_n 2, 1) := by decide +kernel
theorem dX2_readItem_45 : decode cX2_readItem 45 = .ok (.iload_n 2, 1) := by decide +kernel
theorem dX2_readItem_46 : decode cX2_readItem 46 = .ok (.ifCond .lt 12, 3) := by decide +kernel
theorem dX2_readItem_49 : decode cX2_readItem 49 = .ok (.aload_n 1, 1) := by decide +kernel
theorem dX2_readItem_50 : decode cX2_readItem 50 = .ok (.getfield 62, 3) := by decide +kernel
theorem dX2_readItem_53 : decode cX2_readItem 53 = .ok (.bipush 8, 2) := by decide +kernel
theorem dX2_readItem_55 : decode cX2_readItem 55 = .ok (.if_icmp .lt 5, 3) := by decide +kernel
theorem dX2_readItem_58 : decode cX2_readItem 58 = .ok (.iconst 0, 1) := by decide +kernel
theorem dX2_readItem_59 : decode cX2_readItem 59 = .ok (.ireturn, 1) := by decide +kernel
theorem dX2_readItem_60 : decode cX2_readItem 60 = .ok (.aload_n 1, 1) := by decide +kernel
theorem dX2_readItem_61 : decode cX2_readItem 61 = .ok (.iload_n 2, 1) := by decide +kernel
theorem dX2_readItem_62 : decode cX2_readItem 62 = .ok (.iconst 0, 1) := by decide +kernel
theorem dX2_readItem_63 : decode cX2_readItem 63 = .ok (.invokevirtual 65, 3) := by decide +kernel
theorem dX2_readItem_66 : decode cX2_readItem 66 = .ok (.istore_n 3, 1) := by decide +kernel
theorem dX2_readItem_67 : decode cX2_readItem 67 = .ok (.aload_n 0, 1) := by decide +kernel
theorem dX2_readItem_68 : decode cX2_readItem 68 = .ok (.invokevirtual 31, 3) := by decide +kernel
theorem dX2_readItem_71 : decode cX2_readItem 71 = .ok (.aload_n 0, 1) := by decide +kernel
theorem dX2_readItem_72 : decode cX2_readItem 72 = .ok (.aload_n 1, 1) := by decide +kernel
theorem dX2_readItem_73 : decode cX2_readItem 73 = .ok (.iload_n 3, 1) := by decide +kernel
theorem dX2_readItem_74 : decode cX2_readItem 74 = .ok (.ldc 69, 2) := by decide +kernel
theorem dX2_readItem_76 : decode cX2_readItem 76 = .ok (.iconst 1, 1) := by decide +kernel
theorem dX2_readItem_77 : decode cX2_readItem 77 = .ok (.invokevirtual 71, 3) := by decide +kernel
theorem dX2_readItem_80 : decode cX2_readItem 80 = .ok (.ifCond .eq 43, 3) := by decide +kernel
theorem dX2_readItem_83 : decode cX2_readItem 83 = .ok (.aload_n 0, 1) := by decide +kernel
theorem dX2_readItem_84 : decode cX2_readItem 84 = .ok (.aload_n 1, 1) := by decide +kernel
theorem dX2_readItem_85 : decode cX2_readItem 85 = .ok (.iload_n 3, 1) := by decide +kernel
theorem dX2_readItem_86 : decode cX2_readItem 86 = .ok (.ldc 75, 2) := by decide +kernel
theorem dX2_readItem_88 : decode cX2_readItem 88 = .ok (.iconst 2, 1) := by decide +kernel
theorem dX2_readItem_89 : decode cX2_readItem 89 = .ok (.invokevirtual 71, 3) := by decide +kernel
theorem dX2_readItem_92 : decode cX2_readItem 92 = .ok (.ifCond .eq 31, 3) := by decide +kernel
theorem dX2_readItem_95 : decode cX2_readItem 95 = .ok (.aload_n 0, 1) := by decide +kernel
theorem dX2_readItem_96 : decode cX2_readItem 96 = .ok (.aload_n 1, 1) := by decide +kernel
theorem dX2_readItem_97 : decode cX2_readItem 97 = .ok (.iload_n 3, 1) := by decide +kernel
theorem dX2_readItem_98 : decode cX2_readItem 98 = .ok (.ldc 77, 2) := by decide +kernel
theorem dX2_readItem_100 : decode cX2_readItem 100 = .ok (.iconst 3, 1) := by decide +kernel
theorem dX2_readItem_101 : decode cX2_readItem 101 = .ok (.invokevirtual 71, 3) := by decide +kernel
theorem dX2_readItem_104 : decode cX2_readItem 104 = .ok (.ifCond .eq 19, 3) := by decide +kernel
theorem dX2_readItem_107 : decode cX2_readItem 107 = .ok (.aload_n 0, 1) := by decide +kernel
theorem dX2_readItem_108 : decode cX2_readItem 108 = .ok (.aload_n 1, 1) := by decide +kernel
theorem dX2_readItem_109 : decode cX2_readItem 109 = .ok (.iload_n 3, 1) := by decide +kernel
theorem dX2_readItem_110 : decode cX2_readItem 110 = .ok (.ldc 79, 2) := by decide +kernel
theorem dX2_readItem_112 : decode cX2_readItem 112 = .ok (.iconst 4, 1) := by decide +kernel
theorem dX2_readItem_113 : decode cX2_readItem 113 = .ok (.invokevirtual 71, 3) := by decide +kernel
theorem dX2_readItem_116 : decode cX2_readItem 116 = .ok (.ifCond .eq 7, 3) := by decide +kernel
theorem dX2_readItem_119 : decode cX2_readItem 119 = .ok (.iconst 1, 1) := by decide +kernel
theorem dX2_readItem_120 : decode cX2_readItem 120 = .ok (.goto 4, 3) := by decide +kernel
theorem dX2_readItem_123 : decode cX2_readItem 123 = .ok (.iconst 0, 1) := by decide +kernel
theorem dX2_readItem_124 : decode cX2_readItem 124 = .ok (.ireturn, 1) := by decide +kernel
theorem dX2_readPair_0 : decode cX2_readPair 0 = .ok (.aload_n 0, 1) := by decide +kernel
theorem dX2_readPair_1 : decode cX2_readPair 1 = .ok (.invokevirtual 31, 3) := by decide +kernel
theorem dX2_readPair_4 : decode cX2_readPair 4 = .ok (.aload_n 0, 1) := by decide +kernel
theorem dX2_readPair_5 : decode cX2_readPair 5 = .ok (.iconst 5, 1) := by decide +kernel
theorem dX2_readPair_6 : decode cX2_readPair 6 = .ok (.invokevirtual 81, 3) := by decide +kernel
theorem dX2_readPair_9 : decode cX2_readPair 9 = .ok (.ifCond .ne 5, 3) := by decide +kernel
theorem dX2_readPair_12 : decode cX2_readPair 12 = .ok (.iconst 0, 1) := by decide +kernel
theorem dX2_readPair_13 : decode cX2_readPair 13 = .ok (.ireturn, 1) := by decide +kernel
theorem dX2_readPair_14 : decode cX2_readPair 14 = .ok (.aload_n 0, 1) := by decide +kernel
theorem dX2_readPair_15 : decode cX2_readPair 15 = .ok (.getfield 28, 3) := by decide +kernel
theorem dX2_readPair_18 : decode cX2_readPair 18 = .ok (.istore_n 3, 1) := by decide +kernel
theorem dX2_readPair_19 : decode cX2_readPair 19 = .ok (.aload_n 0, 1) := by decide +kernel
theorem dX2_readPair_20 : decode cX2_readPair 20 = .ok (.invokevirtual 31, 3) := by decide +kernel
theorem dX2_readPair_23 : decode cX2_readPair 23 = .ok (.aload_n 0, 1) := by decide +kernel
theorem dX2_readPair_24 : decode cX2_readPair 24 = .ok (.iload_n 2, 1) := by decide +kernel
theorem dX2_readPair_25 : decode cX2_readPair 25 = .ok (.invokevirtual 81, 3) := by decide +kernel
theorem dX2_readPair_28 : decode cX2_readPair 28 = .ok (.ifCond .ne 5, 3) := by decide +kernel
theorem dX2_readPair_31 : decode cX2_readPair 31 = .ok (.iconst 0, 1) := by decide +kernel
theorem dX2_readPair_32 : decode cX2_readPair 32 = .ok (.ireturn, 1) := by decide +kernel
theorem dX2_readPair_33 : decode cX2_readPair 33 = .ok (.aload_n 1, 1) := by decide +kernel
theorem dX2_readPair_34 : decode cX2_readPair 34 = .ok (.iload_n 3, 1) := by decide +kernel
theorem dX2_readPair_35 : decode cX2_readPair 35 = .ok (.aload_n 0, 1) := by decide +kernel
theorem dX2_readPair_36 : decode cX2_readPair 36 = .ok (.getfield 28, 3) := by decide +kernel
theorem dX2_readPair_39 : decode cX2_readPair 39 = .ok (.iastore, 1) := by decide +kernel
theorem dX2_readPair_40 : decode cX2_readPair 40 = .ok (.aload_n 0, 1) := by decide +kernel
theorem dX2_readPair_41 : decode cX2_readPair 41 = .ok (.invokevirtual 31, 3) := by decide +kernel
theorem dX2_readPair_44 : decode cX2_readPair 44 = .ok (.iconst 1, 1) := by decide +kernel
theorem dX2_readPair_45 : decode cX2_readPair 45 = .ok (.ireturn, 1) := by decide +kernel
theorem dX2_readMark_0 : decode cX2_readMark 0 = .ok (.aload_n 0, 1) := by decide +kernel
theorem dX2_readMark_1 : decode cX2_readMark 1 = .ok (.aload_n 3, 1) := by decide +kernel
theorem dX2_readMark_2 : decode cX2_readMark 2 = .ok (.invokevirtual 40, 3) := by decide +kernel
theorem dX2_readMark_5 : decode cX2_readMark 5 = .ok (.ifCond .ne 5, 3) := by decide +kernel
theorem dX2_readMark_8 : decode cX2_readMark 8 = .ok (.iconst 1, 1) := by decide +kernel
theorem dX2_readMark_9 : decode cX2_readMark 9 = .ok (.ireturn, 1) := by decide +kernel
theorem dX2_readMark_10 : decode cX2_readMark 10 = .ok (.aload_n 0, 1) := by decide +kernel
theorem dX2_readMark_11 : decode cX2_readMark 11 = .ok (.invokevirtual 31, 3) := by decide +kernel
theorem dX2_readMark_14 : decode cX2_readMark 14 = .ok (.aload_n 0, 1) := by decide +kernel
theorem dX2_readMark_15 : decode cX2_readMark 15 = .ok (.getstatic 85, 3) := by decide +kernel
theorem dX2_readMark_18 : decode cX2_readMark 18 = .ok (.iload 4, 2) := by decide +kernel
theorem dX2_readMark_20 : decode cX2_readMark 20 = .ok (.iaload, 1) := by decide +kernel
theorem dX2_readMark_21 : decode cX2_readMark 21 = .ok (.invokevirtual 81, 3) := by decide +kernel
theorem dX2_readMark_24 : decode cX2_readMark 24 = .ok (.ifCond .ne 5, 3) := by decide +kernel
theorem dX2_readMark_27 : decode cX2_readMark 27 = .ok (.iconst 0, 1) := by decide +kernel
theorem dX2_readMark_28 : decode cX2_readMark 28 = .ok (.ireturn, 1) := by decide +kernel
theorem dX2_readMark_29 : decode cX2_readMark 29 = .ok (.aload_n 1, 1) := by decide +kernel
theorem dX2_readMark_30 : decode cX2_readMark 30 = .ok (.iload 4, 2) := by decide +kernel
theorem dX2_readMark_32 : decode cX2_readMark 32 = .ok (.invokevirtual 88, 3) := by decide +kernel
theorem dX2_readMark_35 : decode cX2_readMark 35 = .ok (.iload_n 2, 1) := by decide +kernel
theorem dX2_readMark_36 : decode cX2_readMark 36 = .ok (.aload_n 0, 1) := by decide +kernel
theorem dX2_readMark_37 : decode cX2_readMark 37 = .ok (.getfield 28, 3) := by decide +kernel
theorem dX2_readMark_40 : decode cX2_readMark 40 = .ok (.iastore, 1) := by decide +kernel
theorem dX2_readMark_41 : decode cX2_readMark 41 = .ok (.aload_n 0, 1) := by decide +kernel
theorem dX2_readMark_42 : decode cX2_readMark 42 = .ok (.invokevirtual 31, 3) := by decide +kernel
theorem dX2_readMark_45 : decode cX2_readMark 45 = .ok (.iconst 1, 1) := by decide +kernel
theorem dX2_readMark_46 : decode cX2_readMark 46 = .ok (.ireturn, 1) := by decide +kernel
theorem dX2_kindOfWord_0 : decode cX2_kindOfWord 0 = .ok (.iconst 0, 1) := by decide +kernel
theorem dX2_kindOfWord_1 : decode cX2_kindOfWord 1 = .ok (.istore_n 1, 1) := by decide +kernel
theorem dX2_kindOfWord_2 : decode cX2_kindOfWord 2 = .ok (.iload_n 1, 1) := by decide +kernel
theorem dX2_kindOfWord_3 : decode cX2_kindOfWord 3 = .ok (.bipush 7, 2) := by decide +kernel
theorem dX2_kindOfWord_5 : decode cX2_kindOfWord 5 = .ok (.if_icmp .ge 22, 3) := by decide +kernel
theorem dX2_kindOfWord_8 : decode cX2_kindOfWord 8 = .ok (.aload_n 0, 1) := by decide +kernel
theorem dX2_kindOfWord_9 : decode cX2_kindOfWord 9 = .ok (.iload_n 1, 1) := by decide +kernel
theorem dX2_kindOfWord_10 : decode cX2_kindOfWord 10 = .ok (.invokestatic 92, 3) := by decide +kernel
theorem dX2_kindOfWord_13 : decode cX2_kindOfWord 13 = .ok (.invokevirtual 40, 3) := by decide +kernel
theorem dX2_kindOfWord_16 : decode cX2_kindOfWord 16 = .ok (.ifCond .eq 5, 3) := by decide +kernel
theorem dX2_kindOfWord_19 : decode cX2_kindOfWord 19 = .ok (.iload_n 1, 1) := by decide +kernel
theorem dX2_kindOfWord_20 : decode cX2_kindOfWord 20 = .ok (.ireturn, 1) := by decide +kernel
theorem dX2_kindOfWord_21 : decode cX2_kindOfWord 21 = .ok (.iinc 1 1, 3) := by decide +kernel
theorem dX2_kindOfWord_24 : decode cX2_kindOfWord 24 = .ok (.goto (-22), 3) := by decide +kernel
theorem dX2_kindOfWord_27 : decode cX2_kindOfWord 27 = .ok (.iconst (-1), 1) := by decide +kernel
theorem dX2_kindOfWord_28 : decode cX2_kindOfWord 28 = .ok (.ireturn, 1) := by decide +kernel
theorem dX2_nameOfKind_0 : decode cX2_nameOfKind 0 = .ok (.iload_n 0, 1) := by decide +kernel
theorem dX2_nameOfKind_1 : decode cX2_nameOfKind 1 = .ok (.tableswitch 57 1 6 #[39, 42, 45, 48, 51, 54], 39) := by decide +kernel
theorem dX2_nameOfKind_40 : decode cX2_nameOfKind 40 = .ok (.ldc 96, 2) := by decide +kernel
theorem dX2_nameOfKind_42 : decode cX2_nameOfKind 42 = .ok (.areturn, 1) := by decide +kernel
theorem dX2_nameOfKind_43 : decode cX2_nameOfKind 43 = .ok (.ldc 98, 2) := by decide +kernel
theorem dX2_nameOfKind_45 : decode cX2_nameOfKind 45 = .ok (.areturn, 1) := by decide +kernel
theorem dX2_nameOfKind_46 : decode cX2_nameOfKind 46 = .ok (.ldc 100, 2) := by decide +kernel
theorem dX2_nameOfKind_48 : decode cX2_nameOfKind 48 = .ok (.areturn, 1) := by decide +kernel
theorem dX2_nameOfKind_49 : decode cX2_nameOfKind 49 = .ok (.ldc 102, 2) := by decide +kernel
theorem dX2_nameOfKind_51 : decode cX2_nameOfKind 51 = .ok (.areturn, 1) := by decide +kernel
theorem dX2_nameOfKind_52 : decode cX2_nameOfKind 52 = .ok (.ldc 104, 2) := by decide +kernel
theorem dX2_nameOfKind_54 : decode cX2_nameOfKind 54 = .ok (.areturn, 1) := by decide +kernel
theorem dX2_nameOfKind_55 : decode cX2_nameOfKind 55 = .ok (.ldc 106, 2) := by decide +kernel
theorem dX2_nameOfKind_57 : decode cX2_nameOfKind 57 = .ok (.areturn, 1) := by decide +kernel
theorem dX2_nameOfKind_58 : decode cX2_nameOfKind 58 = .ok (.ldc 108, 2) := by decide +kernel
theorem dX2_nameOfKind_60 : decode cX2_nameOfKind 60 = .ok (.areturn, 1) := by decide +kernel
theorem dX2_isNumber_0 : decode cX2_isNumber 0 = .ok (.aload_n 0, 1) := by decide +kernel
theorem dX2_isNumber_1 : decode cX2_isNumber 1 = .ok (.getfield 19, 3) := by decide +kernel
theorem dX2_isNumber_4 : decode cX2_isNumber 4 = .ok (.iconst 2, 1) := by decide +kernel
theorem dX2_isNumber_5 : decode cX2_isNumber 5 = .ok (.if_icmp .ne 15, 3) := by decide +kernel
theorem dX2_isNumber_8 : decode cX2_isNumber 8 = .ok (.aload_n 0, 1) := by decide +kernel
theorem dX2_isNumber_9 : decode cX2_isNumber 9 = .ok (.getfield 28, 3) := by decide +kernel
theorem dX2_isNumber_12 : decode cX2_isNumber 12 = .ok (.iload_n 1, 1) := by decide +kernel
theorem dX2_isNumber_13 : decode cX2_isNumber 13 = .ok (.if_icmp .gt 7, 3) := by decide +kernel
theorem dX2_isNumber_16 : decode cX2_isNumber 16 = .ok (.iconst 1, 1) := by decide +kernel
theorem dX2_isNumber_17 : decode cX2_isNumber 17 = .ok (.goto 4, 3) := by decide +kernel
theorem dX2_isNumber_20 : decode cX2_isNumber 20 = .ok (.iconst 0, 1) := by decide +kernel
theorem dX2_isNumber_21 : decode cX2_isNumber 21 = .ok (.ireturn, 1) := by decide +kernel
theorem dX2_isWord_0 : decode cX2_isWord 0 = .ok (.aload_n 0, 1) := by decide +kernel
theorem dX2_isWord_1 : decode cX2_isWord 1 = .ok (.getfield 19, 3) := by decide +kernel
theorem dX2_isWord_4 : decode cX2_isWord 4 = .ok (.iconst 1, 1) := by decide +kernel
theorem dX2_isWord_5 : decode cX2_isWord 5 = .ok (.if_icmp .ne 19, 3) := by decide +kernel
theorem dX2_isWord_8 : decode cX2_isWord 8 = .ok (.aload_n 0, 1) := by decide +kernel
theorem dX2_isWord_9 : decode cX2_isWord 9 = .ok (.getfield 25, 3) := by decide +kernel
theorem dX2_isWord_12 : decode cX2_isWord 12 = .ok (.aload_n 0, 1) := by decide +kernel
theorem dX2_isWord_13 : decode cX2_isWord 13 = .ok (.getfield 22, 3) := by decide +kernel
theorem dX2_isWord_16 : decode cX2_isWord 16 = .ok (.isub, 1) := by decide +kernel
theorem dX2_isWord_17 : decode cX2_isWord 17 = .ok (.aload_n 1, 1) := by decide +kernel
theorem dX2_isWord_18 : decode cX2_isWord 18 = .ok (.invokevirtual 110, 3) := by decide +kernel
theorem dX2_isWord_21 : decode cX2_isWord 21 = .ok (.if_icmp .eq 5, 3) := by decide +kernel
theorem dX2_isWord_24 : decode cX2_isWord 24 = .ok (.iconst 0, 1) := by decide +kernel
theorem dX2_isWord_25 : decode cX2_isWord 25 = .ok (.ireturn, 1) := by decide +kernel
theorem dX2_isWord_26 : decode cX2_isWord 26 = .ok (.iconst 0, 1) := by decide +kernel
theorem dX2_isWord_27 : decode cX2_isWord 27 = .ok (.istore_n 2, 1) := by decide +kernel
theorem dX2_isWord_28 : decode cX2_isWord 28 = .ok (.iload_n 2, 1) := by decide +kernel
theorem dX2_isWord_29 : decode cX2_isWord 29 = .ok (.aload_n 1, 1) := by decide +kernel
theorem dX2_isWord_30 : decode cX2_isWord 30 = .ok (.invokevirtual 110, 3) := by decide +kernel
theorem dX2_isWord_33 : decode cX2_isWord 33 = .ok (.if_icmp .ge 30, 3) := by decide +kernel
theorem dX2_isWord_36 : decode cX2_isWord 36 = .ok (.aload_n 0, 1) := by decide +kernel
theorem dX2_isWord_37 : decode cX2_isWord 37 = .ok (.getfield 9, 3) := by decide +kernel
theorem dX2_isWord_40 : decode cX2_isWord 40 = .ok (.aload_n 0, 1) := by decide +kernel
theorem dX2_isWord_41 : decode cX2_isWord 41 = .ok (.getfield 22, 3) := by decide +kernel
theorem dX2_isWord_44 : decode cX2_isWord 44 = .ok (.iload_n 2, 1) := by decide +kernel
theorem dX2_isWord_45 : decode cX2_isWord 45 = .ok (.iadd, 1) := by decide +kernel
theorem dX2_isWord_46 : decode cX2_isWord 46 = .ok (.iaload, 1) := by decide +kernel
theorem dX2_isWord_47 : decode cX2_isWord 47 = .ok (.aload_n 1, 1) := by decide +kernel
theorem dX2_isWord_48 : decode cX2_isWord 48 = .ok (.iload_n 2, 1) := by decide +kernel
theorem dX2_isWord_49 : decode cX2_isWord 49 = .ok (.invokevirtual 114, 3) := by decide +kernel
theorem dX2_isWord_52 : decode cX2_isWord 52 = .ok (.if_icmp .eq 5, 3) := by decide +kernel
theorem dX2_isWord_55 : decode cX2_isWord 55 = .ok (.iconst 0, 1) := by decide +kernel
theorem dX2_isWord_56 : decode cX2_isWord 56 = .ok (.ireturn, 1) := by decide +kernel
theorem dX2_isWord_57 : decode cX2_isWord 57 = .ok (.iinc 2 1, 3) := by decide +kernel
theorem dX2_isWord_60 : decode cX2_isWord 60 = .ok (.goto (-32), 3) := by decide +kernel
theorem dX2_isWord_63 : decode cX2_isWord 63 = .ok (.iconst 1, 1) := by decide +kernel
theorem dX2_isWord_64 : decode cX2_isWord 64 = .ok (.ireturn, 1) := by decide +kernel
theorem dX2_step_0 : decode cX2_step 0 = .ok (.aload_n 0, 1) := by decide +kernel
theorem dX2_step_1 : decode cX2_step 1 = .ok (.aload_n 0, 1) := by decide +kernel
theorem dX2_step_2 : decode cX2_step 2 = .ok (.getfield 25, 3) := by decide +kernel
theorem dX2_step_5 : decode cX2_step 5 = .ok (.putfield 22, 3) := by decide +kernel
theorem dX2_step_8 : decode cX2_step 8 = .ok (.aload_n 0, 1) := by decide +kernel
theorem dX2_step_9 : decode cX2_step 9 = .ok (.getfield 22, 3) := by decide +kernel
theorem dX2_step_12 : decode cX2_step 12 = .ok (.aload_n 0, 1) := by decide +kernel
theorem dX2_step_13 : decode cX2_step 13 = .ok (.getfield 15, 3) := by decide +kernel
theorem dX2_step_16 : decode cX2_step 16 = .ok (.if_icmp .ge 30, 3) := by decide +kernel
theorem dX2_step_19 : decode cX2_step 19 = .ok (.aload_n 0, 1) := by decide +kernel
theorem dX2_step_20 : decode cX2_step 20 = .ok (.getfield 9, 3) := by decide +kernel
theorem dX2_step_23 : decode cX2_step 23 = .ok (.aload_n 0, 1) := by decide +kernel
theorem dX2_step_24 : decode cX2_step 24 = .ok (.getfield 22, 3) := by decide +kernel
theorem dX2_step_27 : decode cX2_step 27 = .ok (.iaload, 1) := by decide +kernel
theorem dX2_step_28 : decode cX2_step 28 = .ok (.bipush 32, 2) := by decide +kernel
theorem dX2_step_30 : decode cX2_step 30 = .ok (.if_icmp .ne 16, 3) := by decide +kernel
theorem dX2_step_33 : decode cX2_step 33 = .ok (.aload_n 0, 1) := by decide +kernel
theorem dX2_step_34 : decode cX2_step 34 = .ok (.dup, 1) := by decide +kernel
theorem dX2_step_35 : decode cX2_step 35 = .ok (.getfield 22, 3) := by decide +kernel
theorem dX2_step_38 : decode cX2_step 38 = .ok (.iconst 1, 1) := by decide +kernel
theorem dX2_step_39 : decode cX2_step 39 = .ok (.iadd, 1) := by decide +kernel
theorem dX2_step_40 : decode cX2_step 40 = .ok (.putfield 22, 3) := by decide +kernel
theorem dX2_step_43 : decode cX2_step 43 = .ok (.goto (-35), 3) := by decide +kernel
theorem dX2_step_46 : decode cX2_step 46 = .ok (.aload_n 0, 1) := by decide +kernel
theorem dX2_step_47 : decode cX2_step 47 = .ok (.aload_n 0, 1) := by decide +kernel
theorem dX2_step_48 : decode cX2_step 48 = .ok (.getfield 22, 3) := by decide +kernel
theorem dX2_step_51 : decode cX2_step 51 = .ok (.putfield 25, 3) := by decide +kernel
theorem dX2_step_54 : decode cX2_step 54 = .ok (.aload_n 0, 1) := by decide +kernel
theorem dX2_step_55 : decode cX2_step 55 = .ok (.getfield 22, 3) := by decide +kernel
theorem dX2_step_58 : decode cX2_step 58 = .ok (.aload_n 0, 1) := by decide +kernel
theorem dX2_step_59 : decode cX2_step 59 = .ok (.getfield 15, 3) := by decide +kernel
theorem dX2_step_62 : decode cX2_step 62 = .ok (.if_icmp .lt 11, 3) := by decide +kernel
theorem dX2_step_65 : decode cX2_step 65 = .ok (.aload_n 0, 1) := by decide +kernel
theorem dX2_step_66 : decode cX2_step 66 = .ok (.iconst 0, 1) := by decide +kernel
theorem dX2_step_67 : decode cX2_step 67 = .ok (.putfield 19, 3) := by decide +kernel
theorem dX2_step_70 : decode cX2_step 70 = .ok (.goto 122, 3) := by decide +kernel
theorem dX2_step_73 : decode cX2_step 73 = .ok (.aload_n 0, 1) := by decide +kernel
theorem dX2_step_74 : decode cX2_step 74 = .ok (.getfield 9, 3) := by decide +kernel
theorem dX2_step_77 : decode cX2_step 77 = .ok (.aload_n 0, 1) := by decide +kernel
theorem dX2_step_78 : decode cX2_step 78 = .ok (.getfield 22, 3) := by decide +kernel
theorem dX2_step_81 : decode cX2_step 81 = .ok (.iaload, 1) := by decide +kernel
theorem dX2_step_82 : decode cX2_step 82 = .ok (.invokestatic 118, 3) := by decide +kernel
theorem dX2_step_85 : decode cX2_step 85 = .ok (.ifCond .eq 47, 3) := by decide +kernel
theorem dX2_step_88 : decode cX2_step 88 = .ok (.aload_n 0, 1) := by decide +kernel
theorem dX2_step_89 : decode cX2_step 89 = .ok (.iconst 1, 1) := by decide +kernel
theorem dX2_step_90 : decode cX2_step 90 = .ok (.putfield 19, 3) := by decide +kernel
theorem dX2_step_93 : decode cX2_step 93 = .ok (.aload_n 0, 1) := by decide +kernel
theorem dX2_step_94 : decode cX2_step 94 = .ok (.getfield 25, 3) := by decide +kernel
theorem dX2_step_97 : decode cX2_step 97 = .ok (.aload_n 0, 1) := by decide +kernel
theorem dX2_step_98 : decode cX2_step 98 = .ok (.getfield 15, 3) := by decide +kernel
theorem dX2_step_101 : decode cX2_step 101 = .ok (.if_icmp .ge 91, 3) := by decide +kernel
theorem dX2_step_104 : decode cX2_step 104 = .ok (.aload_n 0, 1) := by decide +kernel
theorem dX2_step_105 : decode cX2_step 105 = .ok (.getfield 9, 3) := by decide +kernel
theorem dX2_step_108 : decode cX2_step 108 = .ok (.aload_n 0, 1) := by decide +kernel
theorem dX2_step_109 : decode cX2_step 109 = .ok (.getfield 25, 3) := by decide +kernel
theorem dX2_step_112 : decode cX2_step 112 = .ok (.iaload, 1) := by decide +kernel
theorem dX2_step_113 : decode cX2_step 113 = .ok (.invokestatic 118, 3) := by decide +kernel
theorem dX2_step_116 : decode cX2_step 116 = .ok (.ifCond .eq 76, 3) := by decide +kernel
theorem dX2_step_119 : decode cX2_step 119 = .ok (.aload_n 0, 1) := by decide +kernel
theorem dX2_step_120 : decode cX2_step 120 = .ok (.dup, 1) := by decide +kernel
theorem dX2_step_121 : decode cX2_step 121 = .ok (.getfield 25, 3) := by decide +kernel
theorem dX2_step_124 : decode cX2_step 124 = .ok (.iconst 1, 1) := by decide +kernel
theorem dX2_step_125 : decode cX2_step 125 = .ok (.iadd, 1) := by decide +kernel
theorem dX2_step_126 : decode cX2_step 126 = .ok (.putfield 25, 3) := by decide +kernel
theorem dX2_step_129 : decode cX2_step 129 = .ok (.goto (-36), 3) := by decide +kernel
theorem dX2_step_132 : decode cX2_step 132 = .ok (.aload_n 0, 1) := by decide +kernel
theorem dX2_step_133 : decode cX2_step 133 = .ok (.getfield 9, 3) := by decide +kernel
theorem dX2_step_136 : decode cX2_step 136 = .ok (.aload_n 0, 1) := by decide +kernel
theorem dX2_step_137 : decode cX2_step 137 = .ok (.getfield 22, 3) := by decide +kernel
theorem dX2_step_140 : decode cX2_step 140 = .ok (.iaload, 1) := by decide +kernel
theorem dX2_step_141 : decode cX2_step 141 = .ok (.invokestatic 121, 3) := by decide +kernel
theorem dX2_step_144 : decode cX2_step 144 = .ok (.ifCond .eq 15, 3) := by decide +kernel
theorem dX2_step_147 : decode cX2_step 147 = .ok (.aload_n 0, 1) := by decide +kernel
theorem dX2_step_148 : decode cX2_step 148 = .ok (.iconst 2, 1) := by decide +kernel
theorem dX2_step_149 : decode cX2_step 149 = .ok (.putfield 19, 3) := by decide +kernel
theorem dX2_step_152 : decode cX2_step 152 = .ok (.aload_n 0, 1) := by decide +kernel
theorem dX2_step_153 : decode cX2_step 153 = .ok (.invokevirtual 124, 3) := by decide +kernel
theorem dX2_step_156 : decode cX2_step 156 = .ok (.goto 36, 3) := by decide +kernel
theorem dX2_step_159 : decode cX2_step 159 = .ok (.aload_n 0, 1) := by decide +kernel
theorem dX2_step_160 : decode cX2_step 160 = .ok (.aload_n 0, 1) := by decide +kernel
theorem dX2_step_161 : decode cX2_step 161 = .ok (.getfield 9, 3) := by decide +kernel
theorem dX2_step_164 : decode cX2_step 164 = .ok (.aload_n 0, 1) := by decide +kernel
theorem dX2_step_165 : decode cX2_step 165 = .ok (.getfield 22, 3) := by decide +kernel
theorem dX2_step_168 : decode cX2_step 168 = .ok (.iaload, 1) := by decide +kernel
theorem dX2_step_169 : decode cX2_step 169 = .ok (.bipush 59, 2) := by decide +kernel
theorem dX2_step_171 : decode cX2_step 171 = .ok (.if_icmp .ne 7, 3) := by decide +kernel
theorem dX2_step_174 : decode cX2_step 174 = .ok (.iconst 3, 1) := by decide +kernel
theorem dX2_step_175 : decode cX2_step 175 = .ok (.goto 4, 3) := by decide +kernel
theorem dX2_step_178 : decode cX2_step 178 = .ok (.iconst 4, 1) := by decide +kernel
theorem dX2_step_179 : decode cX2_step 179 = .ok (.putfield 19, 3) := by decide +kernel
theorem dX2_step_182 : decode cX2_step 182 = .ok (.aload_n 0, 1) := by decide +kernel
theorem dX2_step_183 : decode cX2_step 183 = .ok (.dup, 1) := by decide +kernel
theorem dX2_step_184 : decode cX2_step 184 = .ok (.getfield 25, 3) := by decide +kernel
theorem dX2_step_187 : decode cX2_step 187 = .ok (.iconst 1, 1) := by decide +kernel
theorem dX2_step_188 : decode cX2_step 188 = .ok (.iadd, 1) := by decide +kernel
theorem dX2_step_189 : decode cX2_step 189 = .ok (.putfield 25, 3) := by decide +kernel
theorem dX2_step_192 : decode cX2_step 192 = .ok (.return_, 1) := by decide +kernel
theorem dX2_stepNumber_0 : decode cX2_stepNumber 0 = .ok (.aload_n 0, 1) := by decide +kernel
theorem dX2_stepNumber_1 : decode cX2_stepNumber 1 = .ok (.iconst 0, 1) := by decide +kernel
theorem dX2_stepNumber_2 : decode cX2_stepNumber 2 = .ok (.putfield 28, 3) := by decide +kernel
theorem dX2_stepNumber_5 : decode cX2_stepNumber 5 = .ok (.aload_n 0, 1) := by decide +kernel
theorem dX2_stepNumber_6 : decode cX2_stepNumber 6 = .ok (.getfield 25, 3) := by decide +kernel
theorem dX2_stepNumber_9 : decode cX2_stepNumber 9 = .ok (.aload_n 0, 1) := by decide +kernel
theorem dX2_stepNumber_10 : decode cX2_stepNumber 10 = .ok (.getfield 15, 3) := by decide +kernel
theorem dX2_stepNumber_13 : decode cX2_stepNumber 13 = .ok (.if_icmp .ge 61, 3) := by decide +kernel
theorem dX2_stepNumber_16 : decode cX2_stepNumber 16 = .ok (.aload_n 0, 1) := by decide +kernel
theorem dX2_stepNumber_17 : decode cX2_stepNumber 17 = .ok (.getfield 9, 3) := by decide +kernel
theorem dX2_stepNumber_20 : decode cX2_stepNumber 20 = .ok (.aload_n 0, 1) := by decide +kernel
theorem dX2_stepNumber_21 : decode cX2_stepNumber 21 = .ok (.getfield 25, 3) := by decide +kernel
theorem dX2_stepNumber_24 : decode cX2_stepNumber 24 = .ok (.iaload, 1) := by decide +kernel
theorem dX2_stepNumber_25 : decode cX2_stepNumber 25 = .ok (.invokestatic 121, 3) := by decide +kernel
theorem dX2_stepNumber_28 : decode cX2_stepNumber 28 = .ok (.ifCond .eq 46, 3) := by decide +kernel
theorem dX2_stepNumber_31 : decode cX2_stepNumber 31 = .ok (.aload_n 0, 1) := by decide +kernel
theorem dX2_stepNumber_32 : decode cX2_stepNumber 32 = .ok (.aload_n 0, 1) := by decide +kernel
theorem dX2_stepNumber_33 : decode cX2_stepNumber 33 = .ok (.getfield 28, 3) := by decide +kernel
theorem dX2_stepNumber_36 : decode cX2_stepNumber 36 = .ok (.bipush 10, 2) := by decide +kernel
theorem dX2_stepNumber_38 : decode cX2_stepNumber 38 = .ok (.imul, 1) := by decide +kernel
theorem dX2_stepNumber_39 : decode cX2_stepNumber 39 = .ok (.aload_n 0, 1) := by decide +kernel
theorem dX2_stepNumber_40 : decode cX2_stepNumber 40 = .ok (.getfield 9, 3) := by decide +kernel
theorem dX2_stepNumber_43 : decode cX2_stepNumber 43 = .ok (.aload_n 0, 1) := by decide +kernel
theorem dX2_stepNumber_44 : decode cX2_stepNumber 44 = .ok (.getfield 25, 3) := by decide +kernel
theorem dX2_stepNumber_47 : decode cX2_stepNumber 47 = .ok (.iaload, 1) := by decide +kernel
theorem dX2_stepNumber_48 : decode cX2_stepNumber 48 = .ok (.iadd, 1) := by decide +kernel
theorem dX2_stepNumber_49 : decode cX2_stepNumber 49 = .ok (.bipush 48, 2) := by decide +kernel
theorem dX2_stepNumber_51 : decode cX2_stepNumber 51 = .ok (.isub, 1) := by decide +kernel
theorem dX2_stepNumber_52 : decode cX2_stepNumber 52 = .ok (.sipush 1000, 3) := by decide +kernel
theorem dX2_stepNumber_55 : decode cX2_stepNumber 55 = .ok (.invokestatic 127, 3) := by decide +kernel
theorem dX2_stepNumber_58 : decode cX2_stepNumber 58 = .ok (.putfield 28, 3) := by decide +kernel
theorem dX2_stepNumber_61 : decode cX2_stepNumber 61 = .ok (.aload_n 0, 1) := by decide +kernel
theorem dX2_stepNumber_62 : decode cX2_stepNumber 62 = .ok (.dup, 1) := by decide +kernel
theorem dX2_stepNumber_63 : decode cX2_stepNumber 63 = .ok (.getfield 25, 3) := by decide +kernel
theorem dX2_stepNumber_66 : decode cX2_stepNumber 66 = .ok (.iconst 1, 1) := by decide +kernel
theorem dX2_stepNumber_67 : decode cX2_stepNumber 67 = .ok (.iadd, 1) := by decide +kernel
theorem dX2_stepNumber_68 : decode cX2_stepNumber 68 = .ok (.putfield 25, 3) := by decide +kernel
theorem dX2_stepNumber_71 : decode cX2_stepNumber 71 = .ok (.goto (-66), 3) := by decide +kernel
theorem dX2_stepNumber_74 : decode cX2_stepNumber 74 = .ok (.return_, 1) := by decide +kernel
theorem dX2_isLetter_0 : decode cX2_isLetter 0 = .ok (.iload_n 0, 1) := by decide +kernel
theorem dX2_isLetter_1 : decode cX2_isLetter 1 = .ok (.bipush 97, 2) := by decide +kernel
theorem dX2_isLetter_3 : decode cX2_isLetter 3 = .ok (.if_icmp .lt 13, 3) := by decide +kernel
theorem dX2_isLetter_6 : decode cX2_isLetter 6 = .ok (.iload_n 0, 1) := by decide +kernel
theorem dX2_isLetter_7 : decode cX2_isLetter 7 = .ok (.bipush 122, 2) := by decide +kernel
theorem dX2_isLetter_9 : decode cX2_isLetter 9 = .ok (.if_icmp .gt 7, 3) := by decide +kernel
theorem dX2_isLetter_12 : decode cX2_isLetter 12 = .ok (.iconst 1, 1) := by decide +kernel
theorem dX2_isLetter_13 : decode cX2_isLetter 13 = .ok (.goto 4, 3) := by decide +kernel
theorem dX2_isLetter_16 : decode cX2_isLetter 16 = .ok (.iconst 0, 1) := by decide +kernel
theorem dX2_isLetter_17 : decode cX2_isLetter 17 = .ok (.ireturn, 1) := by decide +kernel
theorem dX2_isDigit_0 : decode cX2_isDigit 0 = .ok (.iload_n 0, 1) := by decide +kernel
theorem dX2_isDigit_1 : decode cX2_isDigit 1 = .ok (.bipush 48, 2) := by decide +kernel
theorem dX2_isDigit_3 : decode cX2_isDigit 3 = .ok (.if_icmp .lt 13, 3) := by decide +kernel
theorem dX2_isDigit_6 : decode cX2_isDigit 6 = .ok (.iload_n 0, 1) := by decide +kernel
theorem dX2_isDigit_7 : decode cX2_isDigit 7 = .ok (.bipush 57, 2) := by decide +kernel
theorem dX2_isDigit_9 : decode cX2_isDigit 9 = .ok (.if_icmp .gt 7, 3) := by decide +kernel
theorem dX2_isDigit_12 : decode cX2_isDigit 12 = .ok (.iconst 1, 1) := by decide +kernel
theorem dX2_isDigit_13 : decode cX2_isDigit 13 = .ok (.goto 4, 3) := by decide +kernel
theorem dX2_isDigit_16 : decode cX2_isDigit 16 = .ok (.iconst 0, 1) := by decide +kernel
theorem dX2_isDigit_17 : decode cX2_isDigit 17 = .ok (.ireturn, 1) := by decide +kernel
theorem dJ6_bitCount_0f7a4_0 : decode cJ6_bitCount_0f7a4 0 = .ok (.iload_n 0, 1) := by decide +kernel
theorem dJ6_bitCount_0f7a4_1 : decode cJ6_bitCount_0f7a4 1 = .ok (.iload_n 0, 1) := by decide +kernel
theorem dJ6_bitCount_0f7a4_2 : decode cJ6_bitCount_0f7a4 2 = .ok (.iconst 1, 1) := by decide +kernel
theorem dJ6_bitCount_0f7a4_3 : decode cJ6_bitCount_0f7a4 3 = .ok (.iushr, 1) := by decide +kernel
theorem dJ6_bitCount_0f7a4_4 : decode cJ6_bitCount_0f7a4 4 = .ok (.ldc_w 265, 3) := by decide +kernel
theorem dJ6_bitCount_0f7a4_7 : decode cJ6_bitCount_0f7a4 7 = .ok (.iand, 1) := by decide +kernel
theorem dJ6_bitCount_0f7a4_8 : decode cJ6_bitCount_0f7a4 8 = .ok (.isub, 1) := by decide +kernel
theorem dJ6_bitCount_0f7a4_9 : decode cJ6_bitCount_0f7a4 9 = .ok (.istore_n 0, 1) := by decide +kernel
theorem dJ6_bitCount_0f7a4_10 : decode cJ6_bitCount_0f7a4 10 = .ok (.iload_n 0, 1) := by decide +kernel
theorem dJ6_bitCount_0f7a4_11 : decode cJ6_bitCount_0f7a4 11 = .ok (.ldc_w 266, 3) := by decide +kernel
theorem dJ6_bitCount_0f7a4_14 : decode cJ6_bitCount_0f7a4 14 = .ok (.iand, 1) := by decide +kernel
theorem dJ6_bitCount_0f7a4_15 : decode cJ6_bitCount_0f7a4 15 = .ok (.iload_n 0, 1) := by decide +kernel
theorem dJ6_bitCount_0f7a4_16 : decode cJ6_bitCount_0f7a4 16 = .ok (.iconst 2, 1) := by decide +kernel
theorem dJ6_bitCount_0f7a4_17 : decode cJ6_bitCount_0f7a4 17 = .ok (.iushr, 1) := by decide +kernel
theorem dJ6_bitCount_0f7a4_18 : decode cJ6_bitCount_0f7a4 18 = .ok (.ldc_w 266, 3) := by decide +kernel
theorem dJ6_bitCount_0f7a4_21 : decode cJ6_bitCount_0f7a4 21 = .ok (.iand, 1) := by decide +kernel
theorem dJ6_bitCount_0f7a4_22 : decode cJ6_bitCount_0f7a4 22 = .ok (.iadd, 1) := by decide +kernel
theorem dJ6_bitCount_0f7a4_23 : decode cJ6_bitCount_0f7a4 23 = .ok (.istore_n 0, 1) := by decide +kernel
theorem dJ6_bitCount_0f7a4_24 : decode cJ6_bitCount_0f7a4 24 = .ok (.iload_n 0, 1) := by decide +kernel
theorem dJ6_bitCount_0f7a4_25 : decode cJ6_bitCount_0f7a4 25 = .ok (.iload_n 0, 1) := by decide +kernel
theorem dJ6_bitCount_0f7a4_26 : decode cJ6_bitCount_0f7a4 26 = .ok (.iconst 4, 1) := by decide +kernel
theorem dJ6_bitCount_0f7a4_27 : decode cJ6_bitCount_0f7a4 27 = .ok (.iushr, 1) := by decide +kernel
theorem dJ6_bitCount_0f7a4_28 : decode cJ6_bitCount_0f7a4 28 = .ok (.iadd, 1) := by decide +kernel
theorem dJ6_bitCount_0f7a4_29 : decode cJ6_bitCount_0f7a4 29 = .ok (.ldc_w 267, 3) := by decide +kernel
theorem dJ6_bitCount_0f7a4_32 : decode cJ6_bitCount_0f7a4 32 = .ok (.iand, 1) := by decide +kernel
theorem dJ6_bitCount_0f7a4_33 : decode cJ6_bitCount_0f7a4 33 = .ok (.istore_n 0, 1) := by decide +kernel
theorem dJ6_bitCount_0f7a4_34 : decode cJ6_bitCount_0f7a4 34 = .ok (.iload_n 0, 1) := by decide +kernel
theorem dJ6_bitCount_0f7a4_35 : decode cJ6_bitCount_0f7a4 35 = .ok (.iload_n 0, 1) := by decide +kernel
theorem dJ6_bitCount_0f7a4_36 : decode cJ6_bitCount_0f7a4 36 = .ok (.bipush 8, 2) := by decide +kernel
theorem dJ6_bitCount_0f7a4_38 : decode cJ6_bitCount_0f7a4 38 = .ok (.iushr, 1) := by decide +kernel
theorem dJ6_bitCount_0f7a4_39 : decode cJ6_bitCount_0f7a4 39 = .ok (.iadd, 1) := by decide +kernel
theorem dJ6_bitCount_0f7a4_40 : decode cJ6_bitCount_0f7a4 40 = .ok (.istore_n 0, 1) := by decide +kernel
theorem dJ6_bitCount_0f7a4_41 : decode cJ6_bitCount_0f7a4 41 = .ok (.iload_n 0, 1) := by decide +kernel
theorem dJ6_bitCount_0f7a4_42 : decode cJ6_bitCount_0f7a4 42 = .ok (.iload_n 0, 1) := by decide +kernel
theorem dJ6_bitCount_0f7a4_43 : decode cJ6_bitCount_0f7a4 43 = .ok (.bipush 16, 2) := by decide +kernel
theorem dJ6_bitCount_0f7a4_45 : decode cJ6_bitCount_0f7a4 45 = .ok (.iushr, 1) := by decide +kernel
theorem dJ6_bitCount_0f7a4_46 : decode cJ6_bitCount_0f7a4 46 = .ok (.iadd, 1) := by decide +kernel
theorem dJ6_bitCount_0f7a4_47 : decode cJ6_bitCount_0f7a4 47 = .ok (.istore_n 0, 1) := by decide +kernel
theorem dJ6_bitCount_0f7a4_48 : decode cJ6_bitCount_0f7a4 48 = .ok (.iload_n 0, 1) := by decide +kernel
theorem dJ6_bitCount_0f7a4_49 : decode cJ6_bitCount_0f7a4 49 = .ok (.bipush 63, 2) := by decide +kernel
theorem dJ6_bitCount_0f7a4_51 : decode cJ6_bitCount_0f7a4 51 = .ok (.iand, 1) := by decide +kernel
theorem dJ6_bitCount_0f7a4_52 : decode cJ6_bitCount_0f7a4 52 = .ok (.ireturn, 1) := by decide +kernel
theorem dJ9_max_7cf53_0 : decode cJ9_max_7cf53 0 = .ok (.iload_n 0, 1) := by decide +kernel
theorem dJ9_max_7cf53_1 : decode cJ9_max_7cf53 1 = .ok (.iload_n 1, 1) := by decide +kernel
theorem dJ9_max_7cf53_2 : decode cJ9_max_7cf53 2 = .ok (.if_icmp .lt 7, 3) := by decide +kernel
theorem dJ9_max_7cf53_5 : decode cJ9_max_7cf53 5 = .ok (.iload_n 0, 1) := by decide +kernel
theorem dJ9_max_7cf53_6 : decode cJ9_max_7cf53 6 = .ok (.goto 4, 3) := by decide +kernel
theorem dJ9_max_7cf53_9 : decode cJ9_max_7cf53 9 = .ok (.iload_n 1, 1) := by decide +kernel
theorem dJ9_max_7cf53_10 : decode cJ9_max_7cf53 10 = .ok (.ireturn, 1) := by decide +kernel
theorem dJ9_min_7cf53_0 : decode cJ9_min_7cf53 0 = .ok (.iload_n 0, 1) := by decide +kernel
theorem dJ9_min_7cf53_1 : decode cJ9_min_7cf53 1 = .ok (.iload_n 1, 1) := by decide +kernel
theorem dJ9_min_7cf53_2 : decode cJ9_min_7cf53 2 = .ok (.if_icmp .gt 7, 3) := by decide +kernel
theorem dJ9_min_7cf53_5 : decode cJ9_min_7cf53 5 = .ok (.iload_n 0, 1) := by decide +kernel
theorem dJ9_min_7cf53_6 : decode cJ9_min_7cf53 6 = .ok (.goto 4, 3) := by decide +kernel
theorem dJ9_min_7cf53_9 : decode cJ9_min_7cf53 9 = .ok (.iload_n 1, 1) := by decide +kernel
theorem dJ9_min_7cf53_10 : decode cJ9_min_7cf53 10 = .ok (.ireturn, 1) := by decide +kernel
theorem dJ0_length_8abf5_0 : decode cJ0_length_8abf5 0 = .ok (.aload_n 0, 1) := by decide +kernel
theorem dJ0_length_8abf5_1 : decode cJ0_length_8abf5 1 = .ok (.getfield 9, 3) := by decide +kernel
theorem dJ0_length_8abf5_4 : decode cJ0_length_8abf5 4 = .ok (.arraylength, 1) := by decide +kernel
theorem dJ0_length_8abf5_5 : decode cJ0_length_8abf5 5 = .ok (.aload_n 0, 1) := by decide +kernel
theorem dJ0_length_8abf5_6 : decode cJ0_length_8abf5 6 = .ok (.invokevirtual 335, 3) := by decide +kernel
theorem dJ0_length_8abf5_9 : decode cJ0_length_8abf5 9 = .ok (.ishr, 1) := by decide +kernel
theorem dJ0_length_8abf5_10 : decode cJ0_length_8abf5 10 = .ok (.ireturn, 1) := by decide +kernel
theorem dJ0_charAt_5068e_0 : decode cJ0_charAt_5068e 0 = .ok (.aload_n 0, 1) := by decide +kernel
theorem dJ0_charAt_5068e_1 : decode cJ0_charAt_5068e 1 = .ok (.invokevirtual 492, 3) := by decide +kernel
theorem dJ0_charAt_5068e_4 : decode cJ0_charAt_5068e 4 = .ok (.ifCond .eq 12, 3) := by decide +kernel
theorem dJ0_charAt_5068e_7 : decode cJ0_charAt_5068e 7 = .ok (.aload_n 0, 1) := by decide +kernel
theorem dJ0_charAt_5068e_8 : decode cJ0_charAt_5068e 8 = .ok (.getfield 9, 3) := by decide +kernel
theorem dJ0_charAt_5068e_11 : decode cJ0_charAt_5068e 11 = .ok (.iload_n 1, 1) := by decide +kernel
theorem dJ0_charAt_5068e_12 : decode cJ0_charAt_5068e 12 = .ok (.invokestatic 495, 3) := by decide +kernel
theorem dJ0_charAt_5068e_15 : decode cJ0_charAt_5068e 15 = .ok (.ireturn, 1) := by decide +kernel
theorem dJ0_charAt_5068e_16 : decode cJ0_charAt_5068e 16 = .ok (.aload_n 0, 1) := by decide +kernel
theorem dJ0_charAt_5068e_17 : decode cJ0_charAt_5068e 17 = .ok (.getfield 9, 3) := by decide +kernel
theorem dJ0_charAt_5068e_20 : decode cJ0_charAt_5068e 20 = .ok (.iload_n 1, 1) := by decide +kernel
theorem dJ0_charAt_5068e_21 : decode cJ0_charAt_5068e 21 = .ok (.invokestatic 498, 3) := by decide +kernel
theorem dJ0_charAt_5068e_24 : decode cJ0_charAt_5068e 24 = .ok (.ireturn, 1) := by decide +kernel
theorem dJ0_coder_7d493_0 : decode cJ0_coder_7d493 0 = .ok (.getstatic 38, 3) := by decide +kernel
theorem dJ0_coder_7d493_3 : decode cJ0_coder_7d493 3 = .ok (.ifCond .eq 10, 3) := by decide +kernel
theorem dJ0_coder_7d493_6 : decode cJ0_coder_7d493 6 = .ok (.aload_n 0, 1) := by decide +kernel
theorem dJ0_coder_7d493_7 : decode cJ0_coder_7d493 7 = .ok (.getfield 15, 3) := by decide +kernel
theorem dJ0_coder_7d493_10 : decode cJ0_coder_7d493 10 = .ok (.goto 4, 3) := by decide +kernel
theorem dJ0_coder_7d493_13 : decode cJ0_coder_7d493 13 = .ok (.iconst 1, 1) := by decide +kernel
theorem dJ0_coder_7d493_14 : decode cJ0_coder_7d493 14 = .ok (.ireturn, 1) := by decide +kernel
theorem dJ0_isLatin1_aae02_0 : decode cJ0_isLatin1_aae02 0 = .ok (.getstatic 38, 3) := by decide +kernel
theorem dJ0_isLatin1_aae02_3 : decode cJ0_isLatin1_aae02 3 = .ok (.ifCond .eq 14, 3) := by decide +kernel
theorem dJ0_isLatin1_aae02_6 : decode cJ0_isLatin1_aae02 6 = .ok (.aload_n 0, 1) := by decide +kernel
theorem dJ0_isLatin1_aae02_7 : decode cJ0_isLatin1_aae02 7 = .ok (.getfield 15, 3) := by decide +kernel
theorem dJ0_isLatin1_aae02_10 : decode cJ0_isLatin1_aae02 10 = .ok (.ifCond .ne 7, 3) := by decide +kernel
theorem dJ0_isLatin1_aae02_13 : decode cJ0_isLatin1_aae02 13 = .ok (.iconst 1, 1) := by decide +kernel
theorem dJ0_isLatin1_aae02_14 : decode cJ0_isLatin1_aae02 14 = .ok (.goto 4, 3) := by decide +kernel
theorem dJ0_isLatin1_aae02_17 : decode cJ0_isLatin1_aae02 17 = .ok (.iconst 0, 1) := by decide +kernel
theorem dJ0_isLatin1_aae02_18 : decode cJ0_isLatin1_aae02 18 = .ok (.ireturn, 1) := by decide +kernel
theorem dJ0_checkIndex_df160_0 : decode cJ0_checkIndex_df160 0 = .ok (.iload_n 0, 1) := by decide +kernel
theorem dJ0_checkIndex_df160_1 : decode cJ0_checkIndex_df160 1 = .ok (.iload_n 1, 1) := by decide +kernel
theorem dJ0_checkIndex_df160_2 : decode cJ0_checkIndex_df160 2 = .ok (.getstatic 1053, 3) := by decide +kernel
theorem dJ0_checkIndex_df160_5 : decode cJ0_checkIndex_df160 5 = .ok (.invokestatic 1059, 3) := by decide +kernel
theorem dJ0_checkIndex_df160_8 : decode cJ0_checkIndex_df160 8 = .ok (.pop, 1) := by decide +kernel
theorem dJ0_checkIndex_df160_9 : decode cJ0_checkIndex_df160 9 = .ok (.return_, 1) := by decide +kernel
theorem dJ1_charAt_3b067_0 : decode cJ1_charAt_3b067 0 = .ok (.iload_n 1, 1) := by decide +kernel
theorem dJ1_charAt_3b067_1 : decode cJ1_charAt_3b067 1 = .ok (.aload_n 0, 1) := by decide +kernel
theorem dJ1_charAt_3b067_2 : decode cJ1_charAt_3b067 2 = .ok (.arraylength, 1) := by decide +kernel
theorem dJ1_charAt_3b067_3 : decode cJ1_charAt_3b067 3 = .ok (.invokestatic 9, 3) := by decide +kernel
theorem dJ1_charAt_3b067_6 : decode cJ1_charAt_3b067 6 = .ok (.aload_n 0, 1) := by decide +kernel
theorem dJ1_charAt_3b067_7 : decode cJ1_charAt_3b067 7 = .ok (.iload_n 1, 1) := by decide +kernel
theorem dJ1_charAt_3b067_8 : decode cJ1_charAt_3b067 8 = .ok (.baload, 1) := by decide +kernel
theorem dJ1_charAt_3b067_9 : decode cJ1_charAt_3b067 9 = .ok (.sipush 255, 3) := by decide +kernel
theorem dJ1_charAt_3b067_12 : decode cJ1_charAt_3b067 12 = .ok (.iand, 1) := by decide +kernel
theorem dJ1_charAt_3b067_13 : decode cJ1_charAt_3b067 13 = .ok (.i2c, 1) := by decide +kernel
theorem dJ1_charAt_3b067_14 : decode cJ1_charAt_3b067 14 = .ok (.ireturn, 1) := by decide +kernel
theorem dJ2_getChar_3b067_0 : decode cJ2_getChar_3b067 0 = .ok (.getstatic 44, 3) := by decide +kernel
theorem dJ2_getChar_3b067_3 : decode cJ2_getChar_3b067 3 = .ok (.ifCond .ne 25, 3) := by decide +kernel
theorem dJ2_getChar_3b067_6 : decode cJ2_getChar_3b067 6 = .ok (.iload_n 1, 1) := by decide +kernel
theorem dJ2_getChar_3b067_7 : decode cJ2_getChar_3b067 7 = .ok (.ifCond .lt 11, 3) := by decide +kernel
theorem dJ2_getChar_3b067_10 : decode cJ2_getChar_3b067 10 = .ok (.iload_n 1, 1) := by decide +kernel
theorem dJ2_getChar_3b067_11 : decode cJ2_getChar_3b067 11 = .ok (.aload_n 0, 1) := by decide +kernel
theorem dJ2_getChar_3b067_12 : decode cJ2_getChar_3b067 12 = .ok (.invokestatic 48, 3) := by decide +kernel
theorem dJ2_getChar_3b067_15 : decode cJ2_getChar_3b067 15 = .ok (.if_icmp .lt 13, 3) := by decide +kernel
theorem dJ2_getChar_3b067_18 : decode cJ2_getChar_3b067 18 = .ok (.new 52, 3) := by decide +kernel
theorem dJ2_getChar_3b067_21 : decode cJ2_getChar_3b067 21 = .ok (.dup, 1) := by decide +kernel
theorem dJ2_getChar_3b067_22 : decode cJ2_getChar_3b067 22 = .ok (.ldc 54, 2) := by decide +kernel
theorem dJ2_getChar_3b067_24 : decode cJ2_getChar_3b067 24 = .ok (.invokespecial 56, 3) := by decide +kernel
theorem dJ2_getChar_3b067_27 : decode cJ2_getChar_3b067 27 = .ok (.athrow, 1) := by decide +kernel
theorem dJ2_getChar_3b067_28 : decode cJ2_getChar_3b067 28 = .ok (.iload_n 1, 1) := by decide +kernel
theorem dJ2_getChar_3b067_29 : decode cJ2_getChar_3b067 29 = .ok (.iconst 1, 1) := by decide +kernel
theorem dJ2_getChar_3b067_30 : decode cJ2_getChar_3b067 30 = .ok (.ishl, 1) := by decide +kernel
theorem dJ2_getChar_3b067_31 : decode cJ2_getChar_3b067 31 = .ok (.istore_n 1, 1) := by decide +kernel
theorem dJ2_getChar_3b067_32 : decode cJ2_getChar_3b067 32 = .ok (.aload_n 0, 1) := by decide +kernel
theorem dJ2_getChar_3b067_33 : decode cJ2_getChar_3b067 33 = .ok (.iload_n 1, 1) := by decide +kernel
theorem dJ2_getChar_3b067_34 : decode cJ2_getChar_3b067 34 = .ok (.iinc 1 1, 3) := by decide +kernel
theorem dJ2_getChar_3b067_37 : decode cJ2_getChar_3b067 37 = .ok (.baload, 1) := by decide +kernel
theorem dJ2_getChar_3b067_38 : decode cJ2_getChar_3b067 38 = .ok (.sipush 255, 3) := by decide +kernel
theorem dJ2_getChar_3b067_41 : decode cJ2_getChar_3b067 41 = .ok (.iand, 1) := by decide +kernel
theorem dJ2_getChar_3b067_42 : decode cJ2_getChar_3b067 42 = .ok (.getstatic 59, 3) := by decide +kernel
theorem dJ2_getChar_3b067_45 : decode cJ2_getChar_3b067 45 = .ok (.ishl, 1) := by decide +kernel
theorem dJ2_getChar_3b067_46 : decode cJ2_getChar_3b067 46 = .ok (.aload_n 0, 1) := by decide +kernel
theorem dJ2_getChar_3b067_47 : decode cJ2_getChar_3b067 47 = .ok (.iload_n 1, 1) := by decide +kernel
theorem dJ2_getChar_3b067_48 : decode cJ2_getChar_3b067 48 = .ok (.baload, 1) := by decide +kernel
theorem dJ2_getChar_3b067_49 : decode cJ2_getChar_3b067 49 = .ok (.sipush 255, 3) := by decide +kernel
theorem dJ2_getChar_3b067_52 : decode cJ2_getChar_3b067 52 = .ok (.iand, 1) := by decide +kernel
theorem dJ2_getChar_3b067_53 : decode cJ2_getChar_3b067 53 = .ok (.getstatic 63, 3) := by decide +kernel
theorem dJ2_getChar_3b067_56 : decode cJ2_getChar_3b067 56 = .ok (.ishl, 1) := by decide +kernel
theorem dJ2_getChar_3b067_57 : decode cJ2_getChar_3b067 57 = .ok (.ior, 1) := by decide +kernel
theorem dJ2_getChar_3b067_58 : decode cJ2_getChar_3b067 58 = .ok (.i2c, 1) := by decide +kernel
theorem dJ2_getChar_3b067_59 : decode cJ2_getChar_3b067 59 = .ok (.ireturn, 1) := by decide +kernel
theorem dJ2_length_9d52b_0 : decode cJ2_length_9d52b 0 = .ok (.aload_n 0, 1) := by decide +kernel
theorem dJ2_length_9d52b_1 : decode cJ2_length_9d52b 1 = .ok (.arraylength, 1) := by decide +kernel
theorem dJ2_length_9d52b_2 : decode cJ2_length_9d52b 2 = .ok (.iconst 1, 1) := by decide +kernel
theorem dJ2_length_9d52b_3 : decode cJ2_length_9d52b 3 = .ok (.ishr, 1) := by decide +kernel
theorem dJ2_length_9d52b_4 : decode cJ2_length_9d52b 4 = .ok (.ireturn, 1) := by decide +kernel
theorem dJ2_charAt_3b067_0 : decode cJ2_charAt_3b067 0 = .ok (.iload_n 1, 1) := by decide +kernel
theorem dJ2_charAt_3b067_1 : decode cJ2_charAt_3b067 1 = .ok (.aload_n 0, 1) := by decide +kernel
theorem dJ2_charAt_3b067_2 : decode cJ2_charAt_3b067 2 = .ok (.invokestatic 67, 3) := by decide +kernel
theorem dJ2_charAt_3b067_5 : decode cJ2_charAt_3b067 5 = .ok (.aload_n 0, 1) := by decide +kernel
theorem dJ2_charAt_3b067_6 : decode cJ2_charAt_3b067 6 = .ok (.iload_n 1, 1) := by decide +kernel
theorem dJ2_charAt_3b067_7 : decode cJ2_charAt_3b067 7 = .ok (.invokestatic 71, 3) := by decide +kernel
theorem dJ2_charAt_3b067_10 : decode cJ2_charAt_3b067 10 = .ok (.ireturn, 1) := by decide +kernel
theorem dJ2_checkIndex_2214a_0 : decode cJ2_checkIndex_2214a 0 = .ok (.iload_n 0, 1) := by decide +kernel
theorem dJ2_checkIndex_2214a_1 : decode cJ2_checkIndex_2214a 1 = .ok (.aload_n 1, 1) := by decide +kernel
theorem dJ2_checkIndex_2214a_2 : decode cJ2_checkIndex_2214a 2 = .ok (.invokestatic 48, 3) := by decide +kernel
theorem dJ2_checkIndex_2214a_5 : decode cJ2_checkIndex_2214a 5 = .ok (.invokestatic 414, 3) := by decide +kernel
theorem dJ2_checkIndex_2214a_8 : decode cJ2_checkIndex_2214a 8 = .ok (.return_, 1) := by decide +kernel
theorem dJ3_checkIndex_8e157_0 : decode cJ3_checkIndex_8e157 0 = .ok (.iload_n 0, 1) := by decide +kernel
theorem dJ3_checkIndex_8e157_1 : decode cJ3_checkIndex_8e157 1 = .ok (.ifCond .lt 8, 3) := by decide +kernel
theorem dJ3_checkIndex_8e157_4 : decode cJ3_checkIndex_8e157 4 = .ok (.iload_n 0, 1) := by decide +kernel
theorem dJ3_checkIndex_8e157_5 : decode cJ3_checkIndex_8e157 5 = .ok (.iload_n 1, 1) := by decide +kernel
theorem dJ3_checkIndex_8e157_6 : decode cJ3_checkIndex_8e157 6 = .ok (.if_icmp .lt 10, 3) := by decide +kernel
theorem dJ3_checkIndex_8e157_9 : decode cJ3_checkIndex_8e157 9 = .ok (.aload_n 2, 1) := by decide +kernel
theorem dJ3_checkIndex_8e157_10 : decode cJ3_checkIndex_8e157 10 = .ok (.iload_n 0, 1) := by decide +kernel
theorem dJ3_checkIndex_8e157_11 : decode cJ3_checkIndex_8e157 11 = .ok (.iload_n 1, 1) := by decide +kernel
theorem dJ3_checkIndex_8e157_12 : decode cJ3_checkIndex_8e157 12 = .ok (.invokestatic 95, 3) := by decide +kernel
theorem dJ3_checkIndex_8e157_15 : decode cJ3_checkIndex_8e157 15 = .ok (.athrow, 1) := by decide +kernel
theorem dJ3_checkIndex_8e157_16 : decode cJ3_checkIndex_8e157 16 = .ok (.iload_n 0, 1) := by decide +kernel
theorem dJ3_checkIndex_8e157_17 : decode cJ3_checkIndex_8e157 17 = .ok (.ireturn, 1) := by decide +kernel
