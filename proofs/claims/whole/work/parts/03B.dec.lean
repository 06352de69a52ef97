theorem dX4_init_0 : decode cX4_init 0 = .ok (.aload_n 0, 1) := by decide +kernel
theorem dX4_init_1 : decode cX4_init 1 = .ok (.invokespecial 1, 3) := by decide +kernel
theorem dX4_init_4 : decode cX4_init 4 = .ok (.aload_n 0, 1) := by decide +kernel
theorem dX4_init_5 : decode cX4_init 5 = .ok (.bipush 82, 2) := by decide +kernel
theorem dX4_init_7 : decode cX4_init 7 = .ok (.newarray .int, 2) := by decide +kernel
theorem dX4_init_9 : decode cX4_init 9 = .ok (.putfield 7, 3) := by decide +kernel
theorem dX4_init_12 : decode cX4_init 12 = .ok (.aload_n 0, 1) := by decide +kernel
theorem dX4_init_13 : decode cX4_init 13 = .ok (.bipush 82, 2) := by decide +kernel
theorem dX4_init_15 : decode cX4_init 15 = .ok (.newarray .int, 2) := by decide +kernel
theorem dX4_init_17 : decode cX4_init 17 = .ok (.putfield 13, 3) := by decide +kernel
theorem dX4_init_20 : decode cX4_init 20 = .ok (.aload_n 0, 1) := by decide +kernel
theorem dX4_init_21 : decode cX4_init 21 = .ok (.bipush 82, 2) := by decide +kernel
theorem dX4_init_23 : decode cX4_init 23 = .ok (.newarray .int, 2) := by decide +kernel
theorem dX4_init_25 : decode cX4_init 25 = .ok (.putfield 16, 3) := by decide +kernel
theorem dX4_init_28 : decode cX4_init 28 = .ok (.aload_n 0, 1) := by decide +kernel
theorem dX4_init_29 : decode cX4_init 29 = .ok (.bipush 82, 2) := by decide +kernel
theorem dX4_init_31 : decode cX4_init 31 = .ok (.newarray .int, 2) := by decide +kernel
theorem dX4_init_33 : decode cX4_init 33 = .ok (.putfield 19, 3) := by decide +kernel
theorem dX4_init_36 : decode cX4_init 36 = .ok (.aload_n 0, 1) := by decide +kernel
theorem dX4_init_37 : decode cX4_init 37 = .ok (.bipush 8, 2) := by decide +kernel
theorem dX4_init_39 : decode cX4_init 39 = .ok (.newarray .int, 2) := by decide +kernel
theorem dX4_init_41 : decode cX4_init 41 = .ok (.putfield 22, 3) := by decide +kernel
theorem dX4_init_44 : decode cX4_init 44 = .ok (.aload_n 0, 1) := by decide +kernel
theorem dX4_init_45 : decode cX4_init 45 = .ok (.bipush 120, 2) := by decide +kernel
theorem dX4_init_47 : decode cX4_init 47 = .ok (.newarray .int, 2) := by decide +kernel
theorem dX4_init_49 : decode cX4_init 49 = .ok (.putfield 25, 3) := by decide +kernel
theorem dX4_init_52 : decode cX4_init 52 = .ok (.aload_n 0, 1) := by decide +kernel
theorem dX4_init_53 : decode cX4_init 53 = .ok (.iconst 4, 1) := by decide +kernel
theorem dX4_init_54 : decode cX4_init 54 = .ok (.newarray .int, 2) := by decide +kernel
theorem dX4_init_56 : decode cX4_init 56 = .ok (.dup, 1) := by decide +kernel
theorem dX4_init_57 : decode cX4_init 57 = .ok (.iconst 0, 1) := by decide +kernel
theorem dX4_init_58 : decode cX4_init 58 = .ok (.iconst (-1), 1) := by decide +kernel
theorem dX4_init_59 : decode cX4_init 59 = .ok (.iastore, 1) := by decide +kernel
theorem dX4_init_60 : decode cX4_init 60 = .ok (.dup, 1) := by decide +kernel
theorem dX4_init_61 : decode cX4_init 61 = .ok (.iconst 1, 1) := by decide +kernel
theorem dX4_init_62 : decode cX4_init 62 = .ok (.iconst (-1), 1) := by decide +kernel
theorem dX4_init_63 : decode cX4_init 63 = .ok (.iastore, 1) := by decide +kernel
theorem dX4_init_64 : decode cX4_init 64 = .ok (.dup, 1) := by decide +kernel
theorem dX4_init_65 : decode cX4_init 65 = .ok (.iconst 2, 1) := by decide +kernel
theorem dX4_init_66 : decode cX4_init 66 = .ok (.iconst (-1), 1) := by decide +kernel
theorem dX4_init_67 : decode cX4_init 67 = .ok (.iastore, 1) := by decide +kernel
theorem dX4_init_68 : decode cX4_init 68 = .ok (.dup, 1) := by decide +kernel
theorem dX4_init_69 : decode cX4_init 69 = .ok (.iconst 3, 1) := by decide +kernel
theorem dX4_init_70 : decode cX4_init 70 = .ok (.iconst (-1), 1) := by decide +kernel
theorem dX4_init_71 : decode cX4_init 71 = .ok (.iastore, 1) := by decide +kernel
theorem dX4_init_72 : decode cX4_init 72 = .ok (.putfield 28, 3) := by decide +kernel
theorem dX4_init_75 : decode cX4_init 75 = .ok (.aload_n 0, 1) := by decide +kernel
theorem dX4_init_76 : decode cX4_init 76 = .ok (.iconst 4, 1) := by decide +kernel
theorem dX4_init_77 : decode cX4_init 77 = .ok (.newarray .int, 2) := by decide +kernel
theorem dX4_init_79 : decode cX4_init 79 = .ok (.putfield 31, 3) := by decide +kernel
theorem dX4_init_82 : decode cX4_init 82 = .ok (.aload_n 0, 1) := by decide +kernel
theorem dX4_init_83 : decode cX4_init 83 = .ok (.sipush 160, 3) := by decide +kernel
theorem dX4_init_86 : decode cX4_init 86 = .ok (.newarray .int, 2) := by decide +kernel
theorem dX4_init_88 : decode cX4_init 88 = .ok (.putfield 34, 3) := by decide +kernel
theorem dX4_init_91 : decode cX4_init 91 = .ok (.aload_n 0, 1) := by decide +kernel
theorem dX4_init_92 : decode cX4_init 92 = .ok (.getfield 7, 3) := by decide +kernel
theorem dX4_init_95 : decode cX4_init 95 = .ok (.iconst 2, 1) := by decide +kernel
theorem dX4_init_96 : decode cX4_init 96 = .ok (.iconst 1, 1) := by decide +kernel
theorem dX4_init_97 : decode cX4_init 97 = .ok (.iastore, 1) := by decide +kernel
theorem dX4_init_98 : decode cX4_init 98 = .ok (.iconst 0, 1) := by decide +kernel
theorem dX4_init_99 : decode cX4_init 99 = .ok (.istore_n 1, 1) := by decide +kernel
theorem dX4_init_100 : decode cX4_init 100 = .ok (.iload_n 1, 1) := by decide +kernel
theorem dX4_init_101 : decode cX4_init 101 = .ok (.bipush 6, 2) := by decide +kernel
theorem dX4_init_103 : decode cX4_init 103 = .ok (.if_icmp .ge 20, 3) := by decide +kernel
theorem dX4_init_106 : decode cX4_init 106 = .ok (.aload_n 0, 1) := by decide +kernel
theorem dX4_init_107 : decode cX4_init 107 = .ok (.getfield 7, 3) := by decide +kernel
theorem dX4_init_110 : decode cX4_init 110 = .ok (.bipush 10, 2) := by decide +kernel
theorem dX4_init_112 : decode cX4_init 112 = .ok (.iload_n 1, 1) := by decide +kernel
theorem dX4_init_113 : decode cX4_init 113 = .ok (.iadd, 1) := by decide +kernel
theorem dX4_init_114 : decode cX4_init 114 = .ok (.bipush 10, 2) := by decide +kernel
theorem dX4_init_116 : decode cX4_init 116 = .ok (.iastore, 1) := by decide +kernel
theorem dX4_init_117 : decode cX4_init 117 = .ok (.iinc 1 1, 3) := by decide +kernel
theorem dX4_init_120 : decode cX4_init 120 = .ok (.goto (-20), 3) := by decide +kernel
theorem dX4_init_123 : decode cX4_init 123 = .ok (.iconst 0, 1) := by decide +kernel
theorem dX4_init_124 : decode cX4_init 124 = .ok (.istore_n 1, 1) := by decide +kernel
theorem dX4_init_125 : decode cX4_init 125 = .ok (.iload_n 1, 1) := by decide +kernel
theorem dX4_init_126 : decode cX4_init 126 = .ok (.bipush 10, 2) := by decide +kernel
theorem dX4_init_128 : decode cX4_init 128 = .ok (.if_icmp .ge 19, 3) := by decide +kernel
theorem dX4_init_131 : decode cX4_init 131 = .ok (.aload_n 0, 1) := by decide +kernel
theorem dX4_init_132 : decode cX4_init 132 = .ok (.getfield 7, 3) := by decide +kernel
theorem dX4_init_135 : decode cX4_init 135 = .ok (.bipush 72, 2) := by decide +kernel
theorem dX4_init_137 : decode cX4_init 137 = .ok (.iload_n 1, 1) := by decide +kernel
theorem dX4_init_138 : decode cX4_init 138 = .ok (.iadd, 1) := by decide +kernel
theorem dX4_init_139 : decode cX4_init 139 = .ok (.iconst (-1), 1) := by decide +kernel
theorem dX4_init_140 : decode cX4_init 140 = .ok (.iastore, 1) := by decide +kernel
theorem dX4_init_141 : decode cX4_init 141 = .ok (.iinc 1 1, 3) := by decide +kernel
theorem dX4_init_144 : decode cX4_init 144 = .ok (.goto (-19), 3) := by decide +kernel
theorem dX4_init_147 : decode cX4_init 147 = .ok (.return_, 1) := by decide +kernel
theorem dX4_isIn_0 : decode cX4_isIn 0 = .ok (.lload_n 0, 1) := by decide +kernel
theorem dX4_isIn_1 : decode cX4_isIn 1 = .ok (.lload_n 2, 1) := by decide +kernel
theorem dX4_isIn_2 : decode cX4_isIn 2 = .ok (.lcmp, 1) := by decide +kernel
theorem dX4_isIn_3 : decode cX4_isIn 3 = .ok (.ifCond .lt 14, 3) := by decide +kernel
theorem dX4_isIn_6 : decode cX4_isIn 6 = .ok (.lload_n 0, 1) := by decide +kernel
theorem dX4_isIn_7 : decode cX4_isIn 7 = .ok (.lload 4, 2) := by decide +kernel
theorem dX4_isIn_9 : decode cX4_isIn 9 = .ok (.lcmp, 1) := by decide +kernel
theorem dX4_isIn_10 : decode cX4_isIn 10 = .ok (.ifCond .gt 7, 3) := by decide +kernel
theorem dX4_isIn_13 : decode cX4_isIn 13 = .ok (.iconst 1, 1) := by decide +kernel
theorem dX4_isIn_14 : decode cX4_isIn 14 = .ok (.goto 4, 3) := by decide +kernel
theorem dX4_isIn_17 : decode cX4_isIn 17 = .ok (.iconst 0, 1) := by decide +kernel
theorem dX4_isIn_18 : decode cX4_isIn 18 = .ok (.ireturn, 1) := by decide +kernel
theorem dX4_finds_0 : decode cX4_finds 0 = .ok (.aload_n 0, 1) := by decide +kernel
theorem dX4_finds_1 : decode cX4_finds 1 = .ok (.getfield 22, 3) := by decide +kernel
theorem dX4_finds_4 : decode cX4_finds 4 = .ok (.iconst 0, 1) := by decide +kernel
theorem dX4_finds_5 : decode cX4_finds 5 = .ok (.dup2, 1) := by decide +kernel
theorem dX4_finds_6 : decode cX4_finds 6 = .ok (.iaload, 1) := by decide +kernel
theorem dX4_finds_7 : decode cX4_finds 7 = .ok (.iconst 1, 1) := by decide +kernel
theorem dX4_finds_8 : decode cX4_finds 8 = .ok (.iadd, 1) := by decide +kernel
theorem dX4_finds_9 : decode cX4_finds 9 = .ok (.iastore, 1) := by decide +kernel
theorem dX4_finds_10 : decode cX4_finds 10 = .ok (.aload_n 0, 1) := by decide +kernel
theorem dX4_finds_11 : decode cX4_finds 11 = .ok (.getfield 22, 3) := by decide +kernel
theorem dX4_finds_14 : decode cX4_finds 14 = .ok (.ldc 37, 2) := by decide +kernel
theorem dX4_finds_16 : decode cX4_finds 16 = .ok (.iload_n 1, 1) := by decide +kernel
theorem dX4_finds_17 : decode cX4_finds 17 = .ok (.isub, 1) := by decide +kernel
theorem dX4_finds_18 : decode cX4_finds 18 = .ok (.iconst 1, 1) := by decide +kernel
theorem dX4_finds_19 : decode cX4_finds 19 = .ok (.iadd, 1) := by decide +kernel
theorem dX4_finds_20 : decode cX4_finds 20 = .ok (.dup2, 1) := by decide +kernel
theorem dX4_finds_21 : decode cX4_finds 21 = .ok (.iaload, 1) := by decide +kernel
theorem dX4_finds_22 : decode cX4_finds 22 = .ok (.iconst 1, 1) := by decide +kernel
theorem dX4_finds_23 : decode cX4_finds 23 = .ok (.iadd, 1) := by decide +kernel
theorem dX4_finds_24 : decode cX4_finds 24 = .ok (.iastore, 1) := by decide +kernel
theorem dX4_finds_25 : decode cX4_finds 25 = .ok (.iload_n 1, 1) := by decide +kernel
theorem dX4_finds_26 : decode cX4_finds 26 = .ok (.ireturn, 1) := by decide +kernel
theorem dX4_becomes_0 : decode cX4_becomes 0 = .ok (.aload_n 0, 1) := by decide +kernel
theorem dX4_becomes_1 : decode cX4_becomes 1 = .ok (.getfield 7, 3) := by decide +kernel
theorem dX4_becomes_4 : decode cX4_becomes 4 = .ok (.iload_n 1, 1) := by decide +kernel
theorem dX4_becomes_5 : decode cX4_becomes 5 = .ok (.iaload, 1) := by decide +kernel
theorem dX4_becomes_6 : decode cX4_becomes 6 = .ok (.istore_n 3, 1) := by decide +kernel
theorem dX4_becomes_7 : decode cX4_becomes 7 = .ok (.aload_n 0, 1) := by decide +kernel
theorem dX4_becomes_8 : decode cX4_becomes 8 = .ok (.getfield 7, 3) := by decide +kernel
theorem dX4_becomes_11 : decode cX4_becomes 11 = .ok (.iload_n 1, 1) := by decide +kernel
theorem dX4_becomes_12 : decode cX4_becomes 12 = .ok (.iload_n 2, 1) := by decide +kernel
theorem dX4_becomes_13 : decode cX4_becomes 13 = .ok (.iastore, 1) := by decide +kernel
theorem dX4_becomes_14 : decode cX4_becomes 14 = .ok (.iload_n 3, 1) := by decide +kernel
theorem dX4_becomes_15 : decode cX4_becomes 15 = .ok (.ireturn, 1) := by decide +kernel
theorem dX4_copyRow_0 : decode cX4_copyRow 0 = .ok (.iconst 0, 1) := by decide +kernel
theorem dX4_copyRow_1 : decode cX4_copyRow 1 = .ok (.istore_n 2, 1) := by decide +kernel
theorem dX4_copyRow_2 : decode cX4_copyRow 2 = .ok (.iload_n 2, 1) := by decide +kernel
theorem dX4_copyRow_3 : decode cX4_copyRow 3 = .ok (.bipush 82, 2) := by decide +kernel
theorem dX4_copyRow_5 : decode cX4_copyRow 5 = .ok (.if_icmp .ge 15, 3) := by decide +kernel
theorem dX4_copyRow_8 : decode cX4_copyRow 8 = .ok (.aload_n 1, 1) := by decide +kernel
theorem dX4_copyRow_9 : decode cX4_copyRow 9 = .ok (.iload_n 2, 1) := by decide +kernel
theorem dX4_copyRow_10 : decode cX4_copyRow 10 = .ok (.aload_n 0, 1) := by decide +kernel
theorem dX4_copyRow_11 : decode cX4_copyRow 11 = .ok (.iload_n 2, 1) := by decide +kernel
theorem dX4_copyRow_12 : decode cX4_copyRow 12 = .ok (.iaload, 1) := by decide +kernel
theorem dX4_copyRow_13 : decode cX4_copyRow 13 = .ok (.iastore, 1) := by decide +kernel
theorem dX4_copyRow_14 : decode cX4_copyRow 14 = .ok (.iinc 2 1, 3) := by decide +kernel
theorem dX4_copyRow_17 : decode cX4_copyRow 17 = .ok (.goto (-15), 3) := by decide +kernel
theorem dX4_copyRow_20 : decode cX4_copyRow 20 = .ok (.return_, 1) := by decide +kernel
theorem dX4_isCellar_0 : decode cX4_isCellar 0 = .ok (.iload_n 0, 1) := by decide +kernel
theorem dX4_isCellar_1 : decode cX4_isCellar 1 = .ok (.ifCond .lt 13, 3) := by decide +kernel
theorem dX4_isCellar_4 : decode cX4_isCellar 4 = .ok (.iload_n 0, 1) := by decide +kernel
theorem dX4_isCellar_5 : decode cX4_isCellar 5 = .ok (.bipush 6, 2) := by decide +kernel
theorem dX4_isCellar_7 : decode cX4_isCellar 7 = .ok (.if_icmp .ge 7, 3) := by decide +kernel
theorem dX4_isCellar_10 : decode cX4_isCellar 10 = .ok (.iconst 1, 1) := by decide +kernel
theorem dX4_isCellar_11 : decode cX4_isCellar 11 = .ok (.goto 4, 3) := by decide +kernel
theorem dX4_isCellar_14 : decode cX4_isCellar 14 = .ok (.iconst 0, 1) := by decide +kernel
theorem dX4_isCellar_15 : decode cX4_isCellar 15 = .ok (.ireturn, 1) := by decide +kernel
theorem dX4_isCask_0 : decode cX4_isCask 0 = .ok (.iload_n 1, 1) := by decide +kernel
theorem dX4_isCask_1 : decode cX4_isCask 1 = .ok (.ifCond .lt 17, 3) := by decide +kernel
theorem dX4_isCask_4 : decode cX4_isCask 4 = .ok (.iload_n 1, 1) := by decide +kernel
theorem dX4_isCask_5 : decode cX4_isCask 5 = .ok (.aload_n 0, 1) := by decide +kernel
theorem dX4_isCask_6 : decode cX4_isCask 6 = .ok (.getfield 7, 3) := by decide +kernel
theorem dX4_isCask_9 : decode cX4_isCask 9 = .ok (.iconst 0, 1) := by decide +kernel
theorem dX4_isCask_10 : decode cX4_isCask 10 = .ok (.iaload, 1) := by decide +kernel
theorem dX4_isCask_11 : decode cX4_isCask 11 = .ok (.if_icmp .ge 7, 3) := by decide +kernel
theorem dX4_isCask_14 : decode cX4_isCask 14 = .ok (.iconst 1, 1) := by decide +kernel
theorem dX4_isCask_15 : decode cX4_isCask 15 = .ok (.goto 4, 3) := by decide +kernel
theorem dX4_isCask_18 : decode cX4_isCask 18 = .ok (.iconst 0, 1) := by decide +kernel
theorem dX4_isCask_19 : decode cX4_isCask 19 = .ok (.ireturn, 1) := by decide +kernel
theorem dX4_at_0 : decode cX4_at 0 = .ok (.bipush 16, 2) := by decide +kernel
theorem dX4_at_2 : decode cX4_at 2 = .ok (.bipush 7, 2) := by decide +kernel
theorem dX4_at_4 : decode cX4_at 4 = .ok (.iload_n 0, 1) := by decide +kernel
theorem dX4_at_5 : decode cX4_at 5 = .ok (.imul, 1) := by decide +kernel
theorem dX4_at_6 : decode cX4_at 6 = .ok (.iadd, 1) := by decide +kernel
theorem dX4_at_7 : decode cX4_at 7 = .ok (.iload_n 1, 1) := by decide +kernel
theorem dX4_at_8 : decode cX4_at 8 = .ok (.iadd, 1) := by decide +kernel
theorem dX4_at_9 : decode cX4_at 9 = .ok (.ireturn, 1) := by decide +kernel
theorem dX4_its_0 : decode cX4_its 0 = .ok (.aload_n 0, 1) := by decide +kernel
theorem dX4_its_1 : decode cX4_its 1 = .ok (.getfield 7, 3) := by decide +kernel
theorem dX4_its_4 : decode cX4_its 4 = .ok (.bipush 16, 2) := by decide +kernel
theorem dX4_its_6 : decode cX4_its 6 = .ok (.bipush 7, 2) := by decide +kernel
theorem dX4_its_8 : decode cX4_its 8 = .ok (.iload_n 1, 1) := by decide +kernel
theorem dX4_its_9 : decode cX4_its 9 = .ok (.imul, 1) := by decide +kernel
theorem dX4_its_10 : decode cX4_its 10 = .ok (.iadd, 1) := by decide +kernel
theorem dX4_its_11 : decode cX4_its 11 = .ok (.iload_n 2, 1) := by decide +kernel
theorem dX4_its_12 : decode cX4_its 12 = .ok (.iadd, 1) := by decide +kernel
theorem dX4_its_13 : decode cX4_its 13 = .ok (.iaload, 1) := by decide +kernel
theorem dX4_its_14 : decode cX4_its 14 = .ok (.ireturn, 1) := by decide +kernel
theorem dX4_least_0 : decode cX4_least 0 = .ok (.iload_n 0, 1) := by decide +kernel
theorem dX4_least_1 : decode cX4_least 1 = .ok (.iload_n 1, 1) := by decide +kernel
theorem dX4_least_2 : decode cX4_least 2 = .ok (.if_icmp .ge 7, 3) := by decide +kernel
theorem dX4_least_5 : decode cX4_least 5 = .ok (.iload_n 0, 1) := by decide +kernel
theorem dX4_least_6 : decode cX4_least 6 = .ok (.goto 4, 3) := by decide +kernel
theorem dX4_least_9 : decode cX4_least 9 = .ok (.iload_n 1, 1) := by decide +kernel
theorem dX4_least_10 : decode cX4_least 10 = .ok (.ireturn, 1) := by decide +kernel
theorem dX4_greatest_0 : decode cX4_greatest 0 = .ok (.iload_n 0, 1) := by decide +kernel
theorem dX4_greatest_1 : decode cX4_greatest 1 = .ok (.iload_n 1, 1) := by decide +kernel
theorem dX4_greatest_2 : decode cX4_greatest 2 = .ok (.if_icmp .le 7, 3) := by decide +kernel
theorem dX4_greatest_5 : decode cX4_greatest 5 = .ok (.iload_n 0, 1) := by decide +kernel
theorem dX4_greatest_6 : decode cX4_greatest 6 = .ok (.goto 4, 3) := by decide +kernel
theorem dX4_greatest_9 : decode cX4_greatest 9 = .ok (.iload_n 1, 1) := by decide +kernel
theorem dX4_greatest_10 : decode cX4_greatest 10 = .ok (.ireturn, 1) := by decide +kernel
theorem dX4_orNone_0 : decode cX4_orNone 0 = .ok (.iload_n 1, 1) := by decide +kernel
theorem dX4_orNone_1 : decode cX4_orNone 1 = .ok (.ifCond .ge 12, 3) := by decide +kernel
theorem dX4_orNone_4 : decode cX4_orNone 4 = .ok (.aload_n 0, 1) := by decide +kernel
theorem dX4_orNone_5 : decode cX4_orNone 5 = .ok (.ldc 38, 2) := by decide +kernel
theorem dX4_orNone_7 : decode cX4_orNone 7 = .ok (.invokevirtual 39, 3) := by decide +kernel
theorem dX4_orNone_10 : decode cX4_orNone 10 = .ok (.goto 4, 3) := by decide +kernel
theorem dX4_orNone_13 : decode cX4_orNone 13 = .ok (.iload_n 1, 1) := by decide +kernel
theorem dX4_orNone_14 : decode cX4_orNone 14 = .ok (.ireturn, 1) := by decide +kernel
theorem dX4_many_0 : decode cX4_many 0 = .ok (.iconst 0, 1) := by decide +kernel
theorem dX4_many_1 : decode cX4_many 1 = .ok (.istore_n 1, 1) := by decide +kernel
theorem dX4_many_2 : decode cX4_many 2 = .ok (.iload_n 0, 1) := by decide +kernel
theorem dX4_many_3 : decode cX4_many 3 = .ok (.istore_n 2, 1) := by decide +kernel
theorem dX4_many_4 : decode cX4_many 4 = .ok (.iload_n 2, 1) := by decide +kernel
theorem dX4_many_5 : decode cX4_many 5 = .ok (.ifCond .eq 15, 3) := by decide +kernel
theorem dX4_many_8 : decode cX4_many 8 = .ok (.iinc 1 1, 3) := by decide +kernel
theorem dX4_many_11 : decode cX4_many 11 = .ok (.iload_n 2, 1) := by decide +kernel
theorem dX4_many_12 : decode cX4_many 12 = .ok (.iload_n 2, 1) := by decide +kernel
theorem dX4_many_13 : decode cX4_many 13 = .ok (.iconst 1, 1) := by decide +kernel
theorem dX4_many_14 : decode cX4_many 14 = .ok (.isub, 1) := by decide +kernel
theorem dX4_many_15 : decode cX4_many 15 = .ok (.iand, 1) := by decide +kernel
theorem dX4_many_16 : decode cX4_many 16 = .ok (.istore_n 2, 1) := by decide +kernel
theorem dX4_many_17 : decode cX4_many 17 = .ok (.goto (-13), 3) := by decide +kernel
theorem dX4_many_20 : decode cX4_many 20 = .ok (.iload_n 1, 1) := by decide +kernel
theorem dX4_many_21 : decode cX4_many 21 = .ok (.ireturn, 1) := by decide +kernel
theorem dX4_frost_0 : decode cX4_frost 0 = .ok (.iload_n 1, 1) := by decide +kernel
theorem dX4_frost_1 : decode cX4_frost 1 = .ok (.invokestatic 43, 3) := by decide +kernel
theorem dX4_frost_4 : decode cX4_frost 4 = .ok (.ifCond .eq 26, 3) := by decide +kernel
theorem dX4_frost_7 : decode cX4_frost 7 = .ok (.iload_n 2, 1) := by decide +kernel
theorem dX4_frost_8 : decode cX4_frost 8 = .ok (.i2l, 1) := by decide +kernel
theorem dX4_frost_9 : decode cX4_frost 9 = .ok (.lconst 0, 1) := by decide +kernel
theorem dX4_frost_10 : decode cX4_frost 10 = .ok (.ldc2_w 47, 3) := by decide +kernel
theorem dX4_frost_13 : decode cX4_frost 13 = .ok (.invokestatic 49, 3) := by decide +kernel
theorem dX4_frost_16 : decode cX4_frost 16 = .ok (.ifCond .eq 14, 3) := by decide +kernel
theorem dX4_frost_19 : decode cX4_frost 19 = .ok (.aload_n 0, 1) := by decide +kernel
theorem dX4_frost_20 : decode cX4_frost 20 = .ok (.iconst 4, 1) := by decide +kernel
theorem dX4_frost_21 : decode cX4_frost 21 = .ok (.iload_n 1, 1) := by decide +kernel
theorem dX4_frost_22 : decode cX4_frost 22 = .ok (.iadd, 1) := by decide +kernel
theorem dX4_frost_23 : decode cX4_frost 23 = .ok (.iload_n 2, 1) := by decide +kernel
theorem dX4_frost_24 : decode cX4_frost 24 = .ok (.invokevirtual 53, 3) := by decide +kernel
theorem dX4_frost_27 : decode cX4_frost 27 = .ok (.goto 9, 3) := by decide +kernel
theorem dX4_frost_30 : decode cX4_frost 30 = .ok (.aload_n 0, 1) := by decide +kernel
theorem dX4_frost_31 : decode cX4_frost 31 = .ok (.ldc 37, 2) := by decide +kernel
theorem dX4_frost_33 : decode cX4_frost 33 = .ok (.invokevirtual 39, 3) := by decide +kernel
theorem dX4_frost_36 : decode cX4_frost 36 = .ok (.ireturn, 1) := by decide +kernel
theorem dX4_there_0 : decode cX4_there 0 = .ok (.iconst 0, 1) := by decide +kernel
theorem dX4_there_1 : decode cX4_there 1 = .ok (.istore_n 2, 1) := by decide +kernel
theorem dX4_there_2 : decode cX4_there 2 = .ok (.iconst 0, 1) := by decide +kernel
theorem dX4_there_3 : decode cX4_there 3 = .ok (.istore_n 3, 1) := by decide +kernel
theorem dX4_there_4 : decode cX4_there 4 = .ok (.iload_n 3, 1) := by decide +kernel
theorem dX4_there_5 : decode cX4_there 5 = .ok (.aload_n 0, 1) := by decide +kernel
theorem dX4_there_6 : decode cX4_there 6 = .ok (.getfield 7, 3) := by decide +kernel
theorem dX4_there_9 : decode cX4_there 9 = .ok (.iconst 0, 1) := by decide +kernel
theorem dX4_there_10 : decode cX4_there 10 = .ok (.iaload, 1) := by decide +kernel
theorem dX4_there_11 : decode cX4_there 11 = .ok (.if_icmp .ge 29, 3) := by decide +kernel
theorem dX4_there_14 : decode cX4_there 14 = .ok (.iload_n 2, 1) := by decide +kernel
theorem dX4_there_15 : decode cX4_there 15 = .ok (.aload_n 0, 1) := by decide +kernel
theorem dX4_there_16 : decode cX4_there 16 = .ok (.iload_n 3, 1) := by decide +kernel
theorem dX4_there_17 : decode cX4_there 17 = .ok (.iconst 1, 1) := by decide +kernel
theorem dX4_there_18 : decode cX4_there 18 = .ok (.invokevirtual 57, 3) := by decide +kernel
theorem dX4_there_21 : decode cX4_there 21 = .ok (.iload_n 1, 1) := by decide +kernel
theorem dX4_there_22 : decode cX4_there 22 = .ok (.if_icmp .ne 9, 3) := by decide +kernel
theorem dX4_there_25 : decode cX4_there 25 = .ok (.iconst 1, 1) := by decide +kernel
theorem dX4_there_26 : decode cX4_there 26 = .ok (.iload_n 3, 1) := by decide +kernel
theorem dX4_there_27 : decode cX4_there 27 = .ok (.ishl, 1) := by decide +kernel
theorem dX4_there_28 : decode cX4_there 28 = .ok (.goto 4, 3) := by decide +kernel
theorem dX4_there_31 : decode cX4_there 31 = .ok (.iconst 0, 1) := by decide +kernel
theorem dX4_there_32 : decode cX4_there 32 = .ok (.ior, 1) := by decide +kernel
theorem dX4_there_33 : decode cX4_there 33 = .ok (.istore_n 2, 1) := by decide +kernel
theorem dX4_there_34 : decode cX4_there 34 = .ok (.iinc 3 1, 3) := by decide +kernel
theorem dX4_there_37 : decode cX4_there 37 = .ok (.goto (-33), 3) := by decide +kernel
theorem dX4_there_40 : decode cX4_there 40 = .ok (.iload_n 2, 1) := by decide +kernel
theorem dX4_there_41 : decode cX4_there 41 = .ok (.ireturn, 1) := by decide +kernel
theorem dX4_emptiest_0 : decode cX4_emptiest 0 = .ok (.iconst (-1), 1) := by decide +kernel
theorem dX4_emptiest_1 : decode cX4_emptiest 1 = .ok (.istore_n 2, 1) := by decide +kernel
theorem dX4_emptiest_2 : decode cX4_emptiest 2 = .ok (.iconst 0, 1) := by decide +kernel
theorem dX4_emptiest_3 : decode cX4_emptiest 3 = .ok (.istore_n 3, 1) := by decide +kernel
theorem dX4_emptiest_4 : decode cX4_emptiest 4 = .ok (.iload_n 3, 1) := by decide +kernel
theorem dX4_emptiest_5 : decode cX4_emptiest 5 = .ok (.aload_n 0, 1) := by decide +kernel
theorem dX4_emptiest_6 : decode cX4_emptiest 6 = .ok (.getfield 7, 3) := by decide +kernel
theorem dX4_emptiest_9 : decode cX4_emptiest 9 = .ok (.iconst 0, 1) := by decide +kernel
theorem dX4_emptiest_10 : decode cX4_emptiest 10 = .ok (.iaload, 1) := by decide +kernel
theorem dX4_emptiest_11 : decode cX4_emptiest 11 = .ok (.if_icmp .ge 44, 3) := by decide +kernel
theorem dX4_emptiest_14 : decode cX4_emptiest 14 = .ok (.aload_n 0, 1) := by decide +kernel
theorem dX4_emptiest_15 : decode cX4_emptiest 15 = .ok (.iload_n 3, 1) := by decide +kernel
theorem dX4_emptiest_16 : decode cX4_emptiest 16 = .ok (.iconst 1, 1) := by decide +kernel
theorem dX4_emptiest_17 : decode cX4_emptiest 17 = .ok (.invokevirtual 57, 3) := by decide +kernel
theorem dX4_emptiest_20 : decode cX4_emptiest 20 = .ok (.iload_n 1, 1) := by decide +kernel
theorem dX4_emptiest_21 : decode cX4_emptiest 21 = .ok (.if_icmp .ne 26, 3) := by decide +kernel
theorem dX4_emptiest_24 : decode cX4_emptiest 24 = .ok (.iload_n 2, 1) := by decide +kernel
theorem dX4_emptiest_25 : decode cX4_emptiest 25 = .ok (.ifCond .lt 18, 3) := by decide +kernel
theorem dX4_emptiest_28 : decode cX4_emptiest 28 = .ok (.aload_n 0, 1) := by decide +kernel
theorem dX4_emptiest_29 : decode cX4_emptiest 29 = .ok (.iload_n 3, 1) := by decide +kernel
theorem dX4_emptiest_30 : decode cX4_emptiest 30 = .ok (.iconst 2, 1) := by decide +kernel
theorem dX4_emptiest_31 : decode cX4_emptiest 31 = .ok (.invokevirtual 57, 3) := by decide +kernel
theorem dX4_emptiest_34 : decode cX4_emptiest 34 = .ok (.aload_n 0, 1) := by decide +kernel
theorem dX4_emptiest_35 : decode cX4_emptiest 35 = .ok (.iload_n 2, 1) := by decide +kernel
theorem dX4_emptiest_36 : decode cX4_emptiest 36 = .ok (.iconst 2, 1) := by decide +kernel
theorem dX4_emptiest_37 : decode cX4_emptiest 37 = .ok (.invokevirtual 57, 3) := by decide +kernel
theorem dX4_emptiest_40 : decode cX4_emptiest 40 = .ok (.if_icmp .ge 7, 3) := by decide +kernel
theorem dX4_emptiest_43 : decode cX4_emptiest 43 = .ok (.iload_n 3, 1) := by decide +kernel
theorem dX4_emptiest_44 : decode cX4_emptiest 44 = .ok (.goto 4, 3) := by decide +kernel
theorem dX4_emptiest_47 : decode cX4_emptiest 47 = .ok (.iload_n 2, 1) := by decide +kernel
theorem dX4_emptiest_48 : decode cX4_emptiest 48 = .ok (.istore_n 2, 1) := by decide +kernel
theorem dX4_emptiest_49 : decode cX4_emptiest 49 = .ok (.iinc 3 1, 3) := by decide +kernel
theorem dX4_emptiest_52 : decode cX4_emptiest 52 = .ok (.goto (-48), 3) := by decide +kernel
theorem dX4_emptiest_55 : decode cX4_emptiest 55 = .ok (.iload_n 2, 1) := by decide +kernel
theorem dX4_emptiest_56 : decode cX4_emptiest 56 = .ok (.ireturn, 1) := by decide +kernel
theorem dX4_cellar_0 : decode cX4_cellar 0 = .ok (.iload_n 1, 1) := by decide +kernel
theorem dX4_cellar_1 : decode cX4_cellar 1 = .ok (.invokestatic 43, 3) := by decide +kernel
theorem dX4_cellar_4 : decode cX4_cellar 4 = .ok (.ifCond .eq 15, 3) := by decide +kernel
theorem dX4_cellar_7 : decode cX4_cellar 7 = .ok (.iload_n 2, 1) := by decide +kernel
theorem dX4_cellar_8 : decode cX4_cellar 8 = .ok (.i2l, 1) := by decide +kernel
theorem dX4_cellar_9 : decode cX4_cellar 9 = .ok (.lconst 0, 1) := by decide +kernel
theorem dX4_cellar_10 : decode cX4_cellar 10 = .ok (.ldc2_w 60, 3) := by decide +kernel
theorem dX4_cellar_13 : decode cX4_cellar 13 = .ok (.invokestatic 49, 3) := by decide +kernel
theorem dX4_cellar_16 : decode cX4_cellar 16 = .ok (.ifCond .ne 10, 3) := by decide +kernel
theorem dX4_cellar_19 : decode cX4_cellar 19 = .ok (.aload_n 0, 1) := by decide +kernel
theorem dX4_cellar_20 : decode cX4_cellar 20 = .ok (.ldc 37, 2) := by decide +kernel
theorem dX4_cellar_22 : decode cX4_cellar 22 = .ok (.invokevirtual 39, 3) := by decide +kernel
theorem dX4_cellar_25 : decode cX4_cellar 25 = .ok (.ireturn, 1) := by decide +kernel
theorem dX4_cellar_26 : decode cX4_cellar 26 = .ok (.iload_n 2, 1) := by decide +kernel
theorem dX4_cellar_27 : decode cX4_cellar 27 = .ok (.ifCond .ne 14, 3) := by decide +kernel
theorem dX4_cellar_30 : decode cX4_cellar 30 = .ok (.aload_n 0, 1) := by decide +kernel
theorem dX4_cellar_31 : decode cX4_cellar 31 = .ok (.getfield 7, 3) := by decide +kernel
theorem dX4_cellar_34 : decode cX4_cellar 34 = .ok (.iconst 4, 1) := by decide +kernel
theorem dX4_cellar_35 : decode cX4_cellar 35 = .ok (.iload_n 1, 1) := by decide +kernel
theorem dX4_cellar_36 : decode cX4_cellar 36 = .ok (.iadd, 1) := by decide +kernel
theorem dX4_cellar_37 : decode cX4_cellar 37 = .ok (.iaload, 1) := by decide +kernel
theorem dX4_cellar_38 : decode cX4_cellar 38 = .ok (.goto 38, 3) := by decide +kernel
theorem dX4_cellar_41 : decode cX4_cellar 41 = .ok (.iload_n 2, 1) := by decide +kernel
theorem dX4_cellar_42 : decode cX4_cellar 42 = .ok (.iconst 1, 1) := by decide +kernel
theorem dX4_cellar_43 : decode cX4_cellar 43 = .ok (.if_icmp .ne 15, 3) := by decide +kernel
theorem dX4_cellar_46 : decode cX4_cellar 46 = .ok (.aload_n 0, 1) := by decide +kernel
theorem dX4_cellar_47 : decode cX4_cellar 47 = .ok (.getfield 7, 3) := by decide +kernel
theorem dX4_cellar_50 : decode cX4_cellar 50 = .ok (.bipush 10, 2) := by decide +kernel
theorem dX4_cellar_52 : decode cX4_cellar 52 = .ok (.iload_n 1, 1) := by decide +kernel
theorem dX4_cellar_53 : decode cX4_cellar 53 = .ok (.iadd, 1) := by decide +kernel
theorem dX4_cellar_54 : decode cX4_cellar 54 = .ok (.iaload, 1) := by decide +kernel
theorem dX4_cellar_55 : decode cX4_cellar 55 = .ok (.goto 21, 3) := by decide +kernel
theorem dX4_cellar_58 : decode cX4_cellar 58 = .ok (.iload_n 2, 1) := by decide +kernel
theorem dX4_cellar_59 : decode cX4_cellar 59 = .ok (.iconst 2, 1) := by decide +kernel
theorem dX4_cellar_60 : decode cX4_cellar 60 = .ok (.if_icmp .ne 11, 3) := by decide +kernel
theorem dX4_cellar_63 : decode cX4_cellar 63 = .ok (.aload_n 0, 1) := by decide +kernel
theorem dX4_cellar_64 : decode cX4_cellar 64 = .ok (.iload_n 1, 1) := by decide +kernel
theorem dX4_cellar_65 : decode cX4_cellar 65 = .ok (.invokevirtual 62, 3) := by decide +kernel
theorem dX4_cellar_68 : decode cX4_cellar 68 = .ok (.goto 8, 3) := by decide +kernel
theorem dX4_cellar_71 : decode cX4_cellar 71 = .ok (.aload_n 0, 1) := by decide +kernel
theorem dX4_cellar_72 : decode cX4_cellar 72 = .ok (.iload_n 1, 1) := by decide +kernel
theorem dX4_cellar_73 : decode cX4_cellar 73 = .ok (.invokevirtual 65, 3) := by decide +kernel
theorem dX4_cellar_76 : decode cX4_cellar 76 = .ok (.ireturn, 1) := by decide +kernel
theorem dX4_storm_0 : decode cX4_storm 0 = .ok (.iload_n 1, 1) := by decide +kernel
theorem dX4_storm_1 : decode cX4_storm 1 = .ok (.invokestatic 43, 3) := by decide +kernel
theorem dX4_storm_4 : decode cX4_storm 4 = .ok (.ifCond .eq 27, 3) := by decide +kernel
theorem dX4_storm_7 : decode cX4_storm 7 = .ok (.iload_n 2, 1) := by decide +kernel
theorem dX4_storm_8 : decode cX4_storm 8 = .ok (.i2l, 1) := by decide +kernel
theorem dX4_storm_9 : decode cX4_storm 9 = .ok (.lconst 0, 1) := by decide +kernel
theorem dX4_storm_10 : decode cX4_storm 10 = .ok (.ldc2_w 68, 3) := by decide +kernel
theorem dX4_storm_13 : decode cX4_storm 13 = .ok (.invokestatic 49, 3) := by decide +kernel
theorem dX4_storm_16 : decode cX4_storm 16 = .ok (.ifCond .eq 15, 3) := by decide +kernel
theorem dX4_storm_19 : decode cX4_storm 19 = .ok (.aload_n 0, 1) := by decide +kernel
theorem dX4_storm_20 : decode cX4_storm 20 = .ok (.bipush 10, 2) := by decide +kernel
theorem dX4_storm_22 : decode cX4_storm 22 = .ok (.iload_n 1, 1) := by decide +kernel
theorem dX4_storm_23 : decode cX4_storm 23 = .ok (.iadd, 1) := by decide +kernel
theorem dX4_storm_24 : decode cX4_storm 24 = .ok (.iload_n 2, 1) := by decide +kernel
theorem dX4_storm_25 : decode cX4_storm 25 = .ok (.invokevirtual 53, 3) := by decide +kernel
theorem dX4_storm_28 : decode cX4_storm 28 = .ok (.goto 9, 3) := by decide +kernel
theorem dX4_storm_31 : decode cX4_storm 31 = .ok (.aload_n 0, 1) := by decide +kernel
theorem dX4_storm_32 : decode cX4_storm 32 = .ok (.ldc 37, 2) := by decide +kernel
theorem dX4_storm_34 : decode cX4_storm 34 = .ok (.invokevirtual 39, 3) := by decide +kernel
theorem dX4_storm_37 : decode cX4_storm 37 = .ok (.ireturn, 1) := by decide +kernel
theorem dX4_comes_0 : decode cX4_comes 0 = .ok (.aload_n 0, 1) := by decide +kernel
theorem dX4_comes_1 : decode cX4_comes 1 = .ok (.getfield 7, 3) := by decide +kernel
theorem dX4_comes_4 : decode cX4_comes 4 = .ok (.iconst 0, 1) := by decide +kernel
theorem dX4_comes_5 : decode cX4_comes 5 = .ok (.iaload, 1) := by decide +kernel
theorem dX4_comes_6 : decode cX4_comes 6 = .ok (.istore_n 3, 1) := by decide +kernel
theorem dX4_comes_7 : decode cX4_comes 7 = .ok (.aload_n 0, 1) := by decide +kernel
theorem dX4_comes_8 : decode cX4_comes 8 = .ok (.getfield 7, 3) := by decide +kernel
theorem dX4_comes_11 : decode cX4_comes 11 = .ok (.iload_n 3, 1) := by decide +kernel
theorem dX4_comes_12 : decode cX4_comes 12 = .ok (.iconst 0, 1) := by decide +kernel
theorem dX4_comes_13 : decode cX4_comes 13 = .ok (.invokestatic 70, 3) := by decide +kernel
theorem dX4_comes_16 : decode cX4_comes 16 = .ok (.iload_n 1, 1) := by decide +kernel
theorem dX4_comes_17 : decode cX4_comes 17 = .ok (.iastore, 1) := by decide +kernel
theorem dX4_comes_18 : decode cX4_comes 18 = .ok (.aload_n 0, 1) := by decide +kernel
theorem dX4_comes_19 : decode cX4_comes 19 = .ok (.getfield 7, 3) := by decide +kernel
theorem dX4_comes_22 : decode cX4_comes 22 = .ok (.iload_n 3, 1) := by decide +kernel
theorem dX4_comes_23 : decode cX4_comes 23 = .ok (.iconst 1, 1) := by decide +kernel
theorem dX4_comes_24 : decode cX4_comes 24 = .ok (.invokestatic 70, 3) := by decide +kernel
theorem dX4_comes_27 : decode cX4_comes 27 = .ok (.iload_n 2, 1) := by decide +kernel
theorem dX4_comes_28 : decode cX4_comes 28 = .ok (.iastore, 1) := by decide +kernel
theorem dX4_comes_29 : decode cX4_comes 29 = .ok (.aload_n 0, 1) := by decide +kernel
theorem dX4_comes_30 : decode cX4_comes 30 = .ok (.getfield 7, 3) := by decide +kernel
theorem dX4_comes_33 : decode cX4_comes 33 = .ok (.iload_n 3, 1) := by decide +kernel
theorem dX4_comes_34 : decode cX4_comes 34 = .ok (.iconst 2, 1) := by decide +kernel
theorem dX4_comes_35 : decode cX4_comes 35 = .ok (.invokestatic 70, 3) := by decide +kernel
theorem dX4_comes_38 : decode cX4_comes 38 = .ok (.iconst 0, 1) := by decide +kernel
theorem dX4_comes_39 : decode cX4_comes 39 = .ok (.iastore, 1) := by decide +kernel
theorem dX4_comes_40 : decode cX4_comes 40 = .ok (.aload_n 0, 1) := by decide +kernel
theorem dX4_comes_41 : decode cX4_comes 41 = .ok (.getfield 7, 3) := by decide +kernel
theorem dX4_comes_44 : decode cX4_comes 44 = .ok (.iload_n 3, 1) := by decide +kernel
theorem dX4_comes_45 : decode cX4_comes 45 = .ok (.iconst 3, 1) := by decide +kernel
theorem dX4_comes_46 : decode cX4_comes 46 = .ok (.invokestatic 70, 3) := by decide +kernel
theorem dX4_comes_49 : decode cX4_comes 49 = .ok (.iconst 0, 1) := by decide +kernel
theorem dX4_comes_50 : decode cX4_comes 50 = .ok (.iastore, 1) := by decide +kernel
theorem dX4_comes_51 : decode cX4_comes 51 = .ok (.aload_n 0, 1) := by decide +kernel
theorem dX4_comes_52 : decode cX4_comes 52 = .ok (.getfield 7, 3) := by decide +kernel
theorem dX4_comes_55 : decode cX4_comes 55 = .ok (.iload_n 3, 1) := by decide +kernel
theorem dX4_comes_56 : decode cX4_comes 56 = .ok (.iconst 4, 1) := by decide +kernel
theorem dX4_comes_57 : decode cX4_comes 57 = .ok (.invokestatic 70, 3) := by decide +kernel
theorem dX4_comes_60 : decode cX4_comes 60 = .ok (.bipush 100, 2) := by decide +kernel
theorem dX4_comes_62 : decode cX4_comes 62 = .ok (.iastore, 1) := by decide +kernel
theorem dX4_comes_63 : decode cX4_comes 63 = .ok (.aload_n 0, 1) := by decide +kernel
theorem dX4_comes_64 : decode cX4_comes 64 = .ok (.getfield 7, 3) := by decide +kernel
theorem dX4_comes_67 : decode cX4_comes 67 = .ok (.iload_n 3, 1) := by decide +kernel
theorem dX4_comes_68 : decode cX4_comes 68 = .ok (.iconst 5, 1) := by decide +kernel
theorem dX4_comes_69 : decode cX4_comes 69 = .ok (.invokestatic 70, 3) := by decide +kernel
theorem dX4_comes_72 : decode cX4_comes 72 = .ok (.iconst 0, 1) := by decide +kernel
theorem dX4_comes_73 : decode cX4_comes 73 = .ok (.iastore, 1) := by decide +kernel
theorem dX4_comes_74 : decode cX4_comes 74 = .ok (.aload_n 0, 1) := by decide +kernel
theorem dX4_comes_75 : decode cX4_comes 75 = .ok (.getfield 7, 3) := by decide +kernel
theorem dX4_comes_78 : decode cX4_comes 78 = .ok (.iload_n 3, 1) := by decide +kernel
theorem dX4_comes_79 : decode cX4_comes 79 = .ok (.bipush 6, 2) := by decide +kernel
theorem dX4_comes_81 : decode cX4_comes 81 = .ok (.invokestatic 70, 3) := by decide +kernel
theorem dX4_comes_84 : decode cX4_comes 84 = .ok (.iconst 0, 1) := by decide +kernel
theorem dX4_comes_85 : decode cX4_comes 85 = .ok (.iastore, 1) := by decide +kernel
theorem dX4_comes_86 : decode cX4_comes 86 = .ok (.aload_n 0, 1) := by decide +kernel
theorem dX4_comes_87 : decode cX4_comes 87 = .ok (.getfield 7, 3) := by decide +kernel
theorem dX4_comes_90 : decode cX4_comes 90 = .ok (.iconst 0, 1) := by decide +kernel
theorem dX4_comes_91 : decode cX4_comes 91 = .ok (.dup2, 1) := by decide +kernel
theorem dX4_comes_92 : decode cX4_comes 92 = .ok (.iaload, 1) := by decide +kernel
theorem dX4_comes_93 : decode cX4_comes 93 = .ok (.iconst 1, 1) := by decide +kernel
theorem dX4_comes_94 : decode cX4_comes 94 = .ok (.iadd, 1) := by decide +kernel
theorem dX4_comes_95 : decode cX4_comes 95 = .ok (.iastore, 1) := by decide +kernel
theorem dX4_comes_96 : decode cX4_comes 96 = .ok (.return_, 1) := by decide +kernel
theorem dX4_cask_0 : decode cX4_cask 0 = .ok (.iload_n 1, 1) := by decide +kernel
theorem dX4_cask_1 : decode cX4_cask 1 = .ok (.i2l, 1) := by decide +kernel
theorem dX4_cask_2 : decode cX4_cask 2 = .ok (.lconst 0, 1) := by decide +kernel
theorem dX4_cask_3 : decode cX4_cask 3 = .ok (.ldc2_w 73, 3) := by decide +kernel
theorem dX4_cask_6 : decode cX4_cask 6 = .ok (.invokestatic 49, 3) := by decide +kernel
theorem dX4_cask_9 : decode cX4_cask 9 = .ok (.ifCond .eq 10, 3) := by decide +kernel
theorem dX4_cask_12 : decode cX4_cask 12 = .ok (.iload_n 2, 1) := by decide +kernel
theorem dX4_cask_13 : decode cX4_cask 13 = .ok (.invokestatic 43, 3) := by decide +kernel
theorem dX4_cask_16 : decode cX4_cask 16 = .ok (.ifCond .ne 10, 3) := by decide +kernel
theorem dX4_cask_19 : decode cX4_cask 19 = .ok (.aload_n 0, 1) := by decide +kernel
theorem dX4_cask_20 : decode cX4_cask 20 = .ok (.ldc 37, 2) := by decide +kernel
theorem dX4_cask_22 : decode cX4_cask 22 = .ok (.invokevirtual 39, 3) := by decide +kernel
theorem dX4_cask_25 : decode cX4_cask 25 = .ok (.ireturn, 1) := by decide +kernel
theorem dX4_cask_26 : decode cX4_cask 26 = .ok (.aload_n 0, 1) := by decide +kernel
theorem dX4_cask_27 : decode cX4_cask 27 = .ok (.getfield 7, 3) := by decide +kernel
theorem dX4_cask_30 : decode cX4_cask 30 = .ok (.iconst 0, 1) := by decide +kernel
theorem dX4_cask_31 : decode cX4_cask 31 = .ok (.iaload, 1) := by decide +kernel
theorem dX4_cask_32 : decode cX4_cask 32 = .ok (.bipush 8, 2) := by decide +kernel
theorem dX4_cask_34 : decode cX4_cask 34 = .ok (.if_icmp .ne 10, 3) := by decide +kernel
theorem dX4_cask_37 : decode cX4_cask 37 = .ok (.aload_n 0, 1) := by decide +kernel
theorem dX4_cask_38 : decode cX4_cask 38 = .ok (.ldc 75, 2) := by decide +kernel
theorem dX4_cask_40 : decode cX4_cask 40 = .ok (.invokevirtual 39, 3) := by decide +kernel
theorem dX4_cask_43 : decode cX4_cask 43 = .ok (.ireturn, 1) := by decide +kernel
theorem dX4_cask_44 : decode cX4_cask 44 = .ok (.aload_n 0, 1) := by decide +kernel
theorem dX4_cask_45 : decode cX4_cask 45 = .ok (.iload_n 1, 1) := by decide +kernel
theorem dX4_cask_46 : decode cX4_cask 46 = .ok (.iload_n 2, 1) := by decide +kernel
theorem dX4_cask_47 : decode cX4_cask 47 = .ok (.invokevirtual 76, 3) := by decide +kernel
theorem dX4_cask_50 : decode cX4_cask 50 = .ok (.aload_n 0, 1) := by decide +kernel
theorem dX4_cask_51 : decode cX4_cask 51 = .ok (.getfield 7, 3) := by decide +kernel
theorem dX4_cask_54 : decode cX4_cask 54 = .ok (.iconst 0, 1) := by decide +kernel
theorem dX4_cask_55 : decode cX4_cask 55 = .ok (.iaload, 1) := by decide +kernel
theorem dX4_cask_56 : decode cX4_cask 56 = .ok (.iconst 1, 1) := by decide +kernel
theorem dX4_cask_57 : decode cX4_cask 57 = .ok (.isub, 1) := by decide +kernel
theorem dX4_cask_58 : decode cX4_cask 58 = .ok (.ireturn, 1) := by decide +kernel
theorem dX4_loud_0 : decode cX4_loud 0 = .ok (.aload_n 0, 1) := by decide +kernel
theorem dX4_loud_1 : decode cX4_loud 1 = .ok (.iload_n 1, 1) := by decide +kernel
theorem dX4_loud_2 : decode cX4_loud 2 = .ok (.iconst 2, 1) := by decide +kernel
theorem dX4_loud_3 : decode cX4_loud 3 = .ok (.invokevirtual 57, 3) := by decide +kernel
theorem dX4_loud_6 : decode cX4_loud 6 = .ok (.istore_n 2, 1) := by decide +kernel
theorem dX4_loud_7 : decode cX4_loud 7 = .ok (.iconst 0, 1) := by decide +kernel
theorem dX4_loud_8 : decode cX4_loud 8 = .ok (.iconst 2, 1) := by decide +kernel
theorem dX4_loud_9 : decode cX4_loud 9 = .ok (.iload_n 2, 1) := by decide +kernel
theorem dX4_loud_10 : decode cX4_loud 10 = .ok (.imul, 1) := by decide +kernel
theorem dX4_loud_11 : decode cX4_loud 11 = .ok (.aload_n 0, 1) := by decide +kernel
theorem dX4_loud_12 : decode cX4_loud 12 = .ok (.iload_n 1, 1) := by decide +kernel
theorem dX4_loud_13 : decode cX4_loud 13 = .ok (.iconst 5, 1) := by decide +kernel
theorem dX4_loud_14 : decode cX4_loud 14 = .ok (.invokevirtual 57, 3) := by decide +kernel
theorem dX4_loud_17 : decode cX4_loud 17 = .ok (.isub, 1) := by decide +kernel
theorem dX4_loud_18 : decode cX4_loud 18 = .ok (.invokestatic 80, 3) := by decide +kernel
theorem dX4_loud_21 : decode cX4_loud 21 = .ok (.istore_n 3, 1) := by decide +kernel
theorem dX4_loud_22 : decode cX4_loud 22 = .ok (.iload_n 2, 1) := by decide +kernel
theorem dX4_loud_23 : decode cX4_loud 23 = .ok (.iload_n 2, 1) := by decide +kernel
theorem dX4_loud_24 : decode cX4_loud 24 = .ok (.iconst 4, 1) := by decide +kernel
theorem dX4_loud_25 : decode cX4_loud 25 = .ok (.idiv, 1) := by decide +kernel
theorem dX4_loud_26 : decode cX4_loud 26 = .ok (.isub, 1) := by decide +kernel
theorem dX4_loud_27 : decode cX4_loud 27 = .ok (.aload_n 0, 1) := by decide +kernel
theorem dX4_loud_28 : decode cX4_loud 28 = .ok (.iload_n 1, 1) := by decide +kernel
theorem dX4_loud_29 : decode cX4_loud 29 = .ok (.iconst 5, 1) := by decide +kernel
theorem dX4_loud_30 : decode cX4_loud 30 = .ok (.invokevirtual 57, 3) := by decide +kernel
theorem dX4_loud_33 : decode cX4_loud 33 = .ok (.iadd, 1) := by decide +kernel
theorem dX4_loud_34 : decode cX4_loud 34 = .ok (.istore 4, 2) := by decide +kernel
theorem dX4_loud_36 : decode cX4_loud 36 = .ok (.aload_n 0, 1) := by decide +kernel
theorem dX4_loud_37 : decode cX4_loud 37 = .ok (.iload_n 1, 1) := by decide +kernel
theorem dX4_loud_38 : decode cX4_loud 38 = .ok (.iconst 0, 1) := by decide +kernel
theorem dX4_loud_39 : decode cX4_loud 39 = .ok (.invokevirtual 57, 3) := by decide +kernel
theorem dX4_loud_42 : decode cX4_loud 42 = .ok (.tableswitch 90 1 6 #[38, 40, 43, 48, 71, 73], 38) := by decide +kernel
theorem dX4_loud_80 : decode cX4_loud 80 = .ok (.iload_n 3, 1) := by decide +kernel
theorem dX4_loud_81 : decode cX4_loud 81 = .ok (.ireturn, 1) := by decide +kernel
theorem dX4_loud_82 : decode cX4_loud 82 = .ok (.iload 4, 2) := by decide +kernel
theorem dX4_loud_84 : decode cX4_loud 84 = .ok (.ireturn, 1) := by decide +kernel
theorem dX4_loud_85 : decode cX4_loud 85 = .ok (.iload 4, 2) := by decide +kernel
theorem dX4_loud_87 : decode cX4_loud 87 = .ok (.iconst 2, 1) := by decide +kernel
theorem dX4_loud_88 : decode cX4_loud 88 = .ok (.idiv, 1) := by decide +kernel
theorem dX4_loud_89 : decode cX4_loud 89 = .ok (.ireturn, 1) := by decide +kernel
theorem dX4_loud_90 : decode cX4_loud 90 = .ok (.iload 4, 2) := by decide +kernel
theorem dX4_loud_92 : decode cX4_loud 92 = .ok (.iconst 2, 1) := by decide +kernel
theorem dX4_loud_93 : decode cX4_loud 93 = .ok (.idiv, 1) := by decide +kernel
theorem dX4_loud_94 : decode cX4_loud 94 = .ok (.iconst 5, 1) := by decide +kernel
theorem dX4_loud_95 : decode cX4_loud 95 = .ok (.aload_n 0, 1) := by decide +kernel
theorem dX4_loud_96 : decode cX4_loud 96 = .ok (.aload_n 0, 1) := by decide +kernel
theorem dX4_loud_97 : decode cX4_loud 97 = .ok (.iload_n 1, 1) := by decide +kernel
theorem dX4_loud_98 : decode cX4_loud 98 = .ok (.iconst 1, 1) := by decide +kernel
theorem dX4_loud_99 : decode cX4_loud 99 = .ok (.invokevirtual 57, 3) := by decide +kernel
theorem dX4_loud_102 : decode cX4_loud 102 = .ok (.invokevirtual 62, 3) := by decide +kernel
theorem dX4_loud_105 : decode cX4_loud 105 = .ok (.invokestatic 83, 3) := by decide +kernel
theorem dX4_loud_108 : decode cX4_loud 108 = .ok (.iconst 1, 1) := by decide +kernel
theorem dX4_loud_109 : decode cX4_loud 109 = .ok (.isub, 1) := by decide +kernel
theorem dX4_loud_110 : decode cX4_loud 110 = .ok (.imul, 1) := by decide +kernel
theorem dX4_loud_111 : decode cX4_loud 111 = .ok (.iadd, 1) := by decide +kernel
theorem dX4_loud_112 : decode cX4_loud 112 = .ok (.ireturn, 1) := by decide +kernel
theorem dX4_loud_113 : decode cX4_loud 113 = .ok (.iconst 0, 1) := by decide +kernel
theorem dX4_loud_114 : decode cX4_loud 114 = .ok (.ireturn, 1) := by decide +kernel
theorem dX4_loud_115 : decode cX4_loud 115 = .ok (.aload_n 0, 1) := by decide +kernel
theorem dX4_loud_116 : decode cX4_loud 116 = .ok (.iload_n 1, 1) := by decide +kernel
theorem dX4_loud_117 : decode cX4_loud 117 = .ok (.iconst 5, 1) := by decide +kernel
theorem dX4_loud_118 : decode cX4_loud 118 = .ok (.invokevirtual 57, 3) := by decide +kernel
theorem dX4_loud_121 : decode cX4_loud 121 = .ok (.bipush 10, 2) := by decide +kernel
theorem dX4_loud_123 : decode cX4_loud 123 = .ok (.if_icmp .lt 7, 3) := by decide +kernel
theorem dX4_loud_126 : decode cX4_loud 126 = .ok (.iconst 0, 1) := by decide +kernel
theorem dX4_loud_127 : decode cX4_loud 127 = .ok (.goto 4, 3) := by decide +kernel
theorem dX4_loud_130 : decode cX4_loud 130 = .ok (.iload_n 3, 1) := by decide +kernel
theorem dX4_loud_131 : decode cX4_loud 131 = .ok (.ireturn, 1) := by decide +kernel
theorem dX4_loud_132 : decode cX4_loud 132 = .ok (.iload_n 2, 1) := by decide +kernel
theorem dX4_loud_133 : decode cX4_loud 133 = .ok (.ireturn, 1) := by decide +kernel
theorem dX4_leaks_0 : decode cX4_leaks 0 = .ok (.aload_n 0, 1) := by decide +kernel
theorem dX4_leaks_1 : decode cX4_leaks 1 = .ok (.iload_n 1, 1) := by decide +kernel
theorem dX4_leaks_2 : decode cX4_leaks 2 = .ok (.iconst 0, 1) := by decide +kernel
theorem dX4_leaks_3 : decode cX4_leaks 3 = .ok (.invokevirtual 57, 3) := by decide +kernel
theorem dX4_leaks_6 : decode cX4_leaks 6 = .ok (.tableswitch 44 1 6 #[38, 44, 40, 40, 42, 42], 38) := by decide +kernel
theorem dX4_leaks_44 : decode cX4_leaks 44 = .ok (.iconst 3, 1) := by decide +kernel
theorem dX4_leaks_45 : decode cX4_leaks 45 = .ok (.ireturn, 1) := by decide +kernel
theorem dX4_leaks_46 : decode cX4_leaks 46 = .ok (.iconst 0, 1) := by decide +kernel
theorem dX4_leaks_47 : decode cX4_leaks 47 = .ok (.ireturn, 1) := by decide +kernel
theorem dX4_leaks_48 : decode cX4_leaks 48 = .ok (.iconst 5, 1) := by decide +kernel
theorem dX4_leaks_49 : decode cX4_leaks 49 = .ok (.ireturn, 1) := by decide +kernel
theorem dX4_leaks_50 : decode cX4_leaks 50 = .ok (.iconst 1, 1) := by decide +kernel
theorem dX4_leaks_51 : decode cX4_leaks 51 = .ok (.ireturn, 1) := by decide +kernel
theorem dX4_bears_0 : decode cX4_bears 0 = .ok (.iconst 0, 1) := by decide +kernel
theorem dX4_bears_1 : decode cX4_bears 1 = .ok (.aload_n 0, 1) := by decide +kernel
theorem dX4_bears_2 : decode cX4_bears 2 = .ok (.iload_n 1, 1) := by decide +kernel
theorem dX4_bears_3 : decode cX4_bears 3 = .ok (.iconst 4, 1) := by decide +kernel
theorem dX4_bears_4 : decode cX4_bears 4 = .ok (.invokevirtual 57, 3) := by decide +kernel
theorem dX4_bears_7 : decode cX4_bears 7 = .ok (.iconst 5, 1) := by decide +kernel
theorem dX4_bears_8 : decode cX4_bears 8 = .ok (.aload_n 0, 1) := by decide +kernel
theorem dX4_bears_9 : decode cX4_bears 9 = .ok (.getfield 7, 3) := by decide +kernel
theorem dX4_bears_12 : decode cX4_bears 12 = .ok (.iconst 4, 1) := by decide +kernel
theorem dX4_bears_13 : decode cX4_bears 13 = .ok (.aload_n 0, 1) := by decide +kernel
theorem dX4_bears_14 : decode cX4_bears 14 = .ok (.iload_n 1, 1) := by decide +kernel
theorem dX4_bears_15 : decode cX4_bears 15 = .ok (.iconst 1, 1) := by decide +kernel
theorem dX4_bears_16 : decode cX4_bears 16 = .ok (.invokevirtual 57, 3) := by decide +kernel
theorem dX4_bears_19 : decode cX4_bears 19 = .ok (.iadd, 1) := by decide +kernel
theorem dX4_bears_20 : decode cX4_bears 20 = .ok (.iaload, 1) := by decide +kernel
theorem dX4_bears_21 : decode cX4_bears 21 = .ok (.imul, 1) := by decide +kernel
theorem dX4_bears_22 : decode cX4_bears 22 = .ok (.isub, 1) := by decide +kernel
theorem dX4_bears_23 : decode cX4_bears 23 = .ok (.invokestatic 80, 3) := by decide +kernel
theorem dX4_bears_26 : decode cX4_bears 26 = .ok (.istore_n 2, 1) := by decide +kernel
theorem dX4_bears_27 : decode cX4_bears 27 = .ok (.aload_n 0, 1) := by decide +kernel
theorem dX4_bears_28 : decode cX4_bears 28 = .ok (.iload_n 1, 1) := by decide +kernel
theorem dX4_bears_29 : decode cX4_bears 29 = .ok (.iconst 0, 1) := by decide +kernel
theorem dX4_bears_30 : decode cX4_bears 30 = .ok (.invokevirtual 57, 3) := by decide +kernel
theorem dX4_bears_33 : decode cX4_bears 33 = .ok (.tableswitch 48 1 6 #[39, 43, 43, 43, 48, 39], 39) := by decide +kernel
theorem dX4_bears_72 : decode cX4_bears 72 = .ok (.iload_n 2, 1) := by decide +kernel
theorem dX4_bears_73 : decode cX4_bears 73 = .ok (.iconst 2, 1) := by decide +kernel
theorem dX4_bears_74 : decode cX4_bears 74 = .ok (.idiv, 1) := by decide +kernel
theorem dX4_bears_75 : decode cX4_bears 75 = .ok (.ireturn, 1) := by decide +kernel
theorem dX4_bears_76 : decode cX4_bears 76 = .ok (.iload_n 2, 1) := by decide +kernel
theorem dX4_bears_77 : decode cX4_bears 77 = .ok (.bipush 10, 2) := by decide +kernel
theorem dX4_bears_79 : decode cX4_bears 79 = .ok (.iadd, 1) := by decide +kernel
theorem dX4_bears_80 : decode cX4_bears 80 = .ok (.ireturn, 1) := by decide +kernel
theorem dX4_bears_81 : decode cX4_bears 81 = .ok (.iload_n 2, 1) := by decide +kernel
theorem dX4_bears_82 : decode cX4_bears 82 = .ok (.ireturn, 1) := by decide +kernel
theorem dX4_of_0 : decode cX4_of 0 = .ok (.aload_n 0, 1) := by decide +kernel
theorem dX4_of_1 : decode cX4_of 1 = .ok (.iload_n 1, 1) := by decide +kernel
theorem dX4_of_2 : decode cX4_of 2 = .ok (.invokevirtual 86, 3) := by decide +kernel
theorem dX4_of_5 : decode cX4_of 5 = .ok (.ifCond .eq 15, 3) := by decide +kernel
theorem dX4_of_8 : decode cX4_of 8 = .ok (.iload_n 2, 1) := by decide +kernel
theorem dX4_of_9 : decode cX4_of 9 = .ok (.i2l, 1) := by decide +kernel
theorem dX4_of_10 : decode cX4_of 10 = .ok (.lconst 0, 1) := by decide +kernel
theorem dX4_of_11 : decode cX4_of 11 = .ok (.ldc2_w 47, 3) := by decide +kernel
theorem dX4_of_14 : decode cX4_of 14 = .ok (.invokestatic 49, 3) := by decide +kernel
theorem dX4_of_17 : decode cX4_of 17 = .ok (.ifCond .ne 10, 3) := by decide +kernel
theorem dX4_of_20 : decode cX4_of 20 = .ok (.aload_n 0, 1) := by decide +kernel
theorem dX4_of_21 : decode cX4_of 21 = .ok (.ldc 37, 2) := by decide +kernel
theorem dX4_of_23 : decode cX4_of 23 = .ok (.invokevirtual 39, 3) := by decide +kernel
theorem dX4_of_26 : decode cX4_of 26 = .ok (.ireturn, 1) := by decide +kernel
theorem dX4_of_27 : decode cX4_of 27 = .ok (.iload_n 2, 1) := by decide +kernel
theorem dX4_of_28 : decode cX4_of 28 = .ok (.tableswitch 46 7 9 #[28, 34, 40], 28) := by decide +kernel
theorem dX4_of_56 : decode cX4_of 56 = .ok (.aload_n 0, 1) := by decide +kernel
theorem dX4_of_57 : decode cX4_of 57 = .ok (.iload_n 1, 1) := by decide +kernel
theorem dX4_of_58 : decode cX4_of 58 = .ok (.invokevirtual 89, 3) := by decide +kernel
theorem dX4_of_61 : decode cX4_of 61 = .ok (.ireturn, 1) := by decide +kernel
theorem dX4_of_62 : decode cX4_of 62 = .ok (.aload_n 0, 1) := by decide +kernel
theorem dX4_of_63 : decode cX4_of 63 = .ok (.iload_n 1, 1) := by decide +kernel
theorem dX4_of_64 : decode cX4_of 64 = .ok (.invokevirtual 92, 3) := by decide +kernel
theorem dX4_of_67 : decode cX4_of 67 = .ok (.ireturn, 1) := by decide +kernel
theorem dX4_of_68 : decode cX4_of 68 = .ok (.aload_n 0, 1) := by decide +kernel
theorem dX4_of_69 : decode cX4_of 69 = .ok (.iload_n 1, 1) := by decide +kernel
theorem dX4_of_70 : decode cX4_of 70 = .ok (.invokevirtual 95, 3) := by decide +kernel
theorem dX4_of_73 : decode cX4_of 73 = .ok (.ireturn, 1) := by decide +kernel
theorem dX4_of_74 : decode cX4_of 74 = .ok (.aload_n 0, 1) := by decide +kernel
theorem dX4_of_75 : decode cX4_of 75 = .ok (.iload_n 1, 1) := by decide +kernel
theorem dX4_of_76 : decode cX4_of 76 = .ok (.iload_n 2, 1) := by decide +kernel
theorem dX4_of_77 : decode cX4_of 77 = .ok (.invokevirtual 57, 3) := by decide +kernel
theorem dX4_of_80 : decode cX4_of 80 = .ok (.ireturn, 1) := by decide +kernel
theorem dX4_greatestOf_0 : decode cX4_greatestOf 0 = .ok (.iload_n 0, 1) := by decide +kernel
theorem dX4_greatestOf_1 : decode cX4_greatestOf 1 = .ok (.ifCond .ne 8, 3) := by decide +kernel
theorem dX4_greatestOf_4 : decode cX4_greatestOf 4 = .ok (.bipush 6, 2) := by decide +kernel
theorem dX4_greatestOf_6 : decode cX4_greatestOf 6 = .ok (.goto 25, 3) := by decide +kernel
theorem dX4_greatestOf_9 : decode cX4_greatestOf 9 = .ok (.iload_n 0, 1) := by decide +kernel
theorem dX4_greatestOf_10 : decode cX4_greatestOf 10 = .ok (.iconst 1, 1) := by decide +kernel
theorem dX4_greatestOf_11 : decode cX4_greatestOf 11 = .ok (.if_icmp .ne 7, 3) := by decide +kernel
theorem dX4_greatestOf_14 : decode cX4_greatestOf 14 = .ok (.iconst 5, 1) := by decide +kernel
theorem dX4_greatestOf_15 : decode cX4_greatestOf 15 = .ok (.goto 16, 3) := by decide +kernel
theorem dX4_greatestOf_18 : decode cX4_greatestOf 18 = .ok (.iload_n 0, 1) := by decide +kernel
theorem dX4_greatestOf_19 : decode cX4_greatestOf 19 = .ok (.iconst 3, 1) := by decide +kernel
theorem dX4_greatestOf_20 : decode cX4_greatestOf 20 = .ok (.if_icmp .ne 8, 3) := by decide +kernel
theorem dX4_greatestOf_23 : decode cX4_greatestOf 23 = .ok (.bipush 11, 2) := by decide +kernel
theorem dX4_greatestOf_25 : decode cX4_greatestOf 25 = .ok (.goto 6, 3) := by decide +kernel
theorem dX4_greatestOf_28 : decode cX4_greatestOf 28 = .ok (.sipush 999, 3) := by decide +kernel
theorem dX4_greatestOf_31 : decode cX4_greatestOf 31 = .ok (.ireturn, 1) := by decide +kernel
theorem dX4_change_0 : decode cX4_change 0 = .ok (.aload_n 0, 1) := by decide +kernel
theorem dX4_change_1 : decode cX4_change 1 = .ok (.iload_n 1, 1) := by decide +kernel
theorem dX4_change_2 : decode cX4_change 2 = .ok (.invokevirtual 86, 3) := by decide +kernel
theorem dX4_change_5 : decode cX4_change 5 = .ok (.ifCond .eq 33, 3) := by decide +kernel
theorem dX4_change_8 : decode cX4_change 8 = .ok (.iload_n 2, 1) := by decide +kernel
theorem dX4_change_9 : decode cX4_change 9 = .ok (.i2l, 1) := by decide +kernel
theorem dX4_change_10 : decode cX4_change 10 = .ok (.lconst 0, 1) := by decide +kernel
theorem dX4_change_11 : decode cX4_change 11 = .ok (.ldc2_w 73, 3) := by decide +kernel
theorem dX4_change_14 : decode cX4_change 14 = .ok (.invokestatic 49, 3) := by decide +kernel
theorem dX4_change_17 : decode cX4_change 17 = .ok (.ifCond .eq 21, 3) := by decide +kernel
theorem dX4_change_20 : decode cX4_change 20 = .ok (.iload_n 3, 1) := by decide +kernel
theorem dX4_change_21 : decode cX4_change 21 = .ok (.i2l, 1) := by decide +kernel
theorem dX4_change_22 : decode cX4_change 22 = .ok (.lconst 0, 1) := by decide +kernel
theorem dX4_change_23 : decode cX4_change 23 = .ok (.iload_n 2, 1) := by decide +kernel
theorem dX4_change_24 : decode cX4_change 24 = .ok (.invokestatic 98, 3) := by decide +kernel
theorem dX4_change_27 : decode cX4_change 27 = .ok (.i2l, 1) := by decide +kernel
theorem dX4_change_28 : decode cX4_change 28 = .ok (.invokestatic 49, 3) := by decide +kernel
theorem dX4_change_31 : decode cX4_change 31 = .ok (.ifCond .eq 7, 3) := by decide +kernel
theorem dX4_change_34 : decode cX4_change 34 = .ok (.iconst 1, 1) := by decide +kernel
theorem dX4_change_35 : decode cX4_change 35 = .ok (.goto 4, 3) := by decide +kernel
theorem dX4_change_38 : decode cX4_change 38 = .ok (.iconst 0, 1) := by decide +kernel
theorem dX4_change_39 : decode cX4_change 39 = .ok (.istore 4, 2) := by decide +kernel
theorem dX4_change_41 : decode cX4_change 41 = .ok (.iload 4, 2) := by decide +kernel
theorem dX4_change_43 : decode cX4_change 43 = .ok (.ifCond .eq 16, 3) := by decide +kernel
theorem dX4_change_46 : decode cX4_change 46 = .ok (.aload_n 0, 1) := by decide +kernel
theorem dX4_change_47 : decode cX4_change 47 = .ok (.iload_n 1, 1) := by decide +kernel
theorem dX4_change_48 : decode cX4_change 48 = .ok (.iload_n 2, 1) := by decide +kernel
theorem dX4_change_49 : decode cX4_change 49 = .ok (.invokestatic 70, 3) := by decide +kernel
theorem dX4_change_52 : decode cX4_change 52 = .ok (.iload_n 3, 1) := by decide +kernel
theorem dX4_change_53 : decode cX4_change 53 = .ok (.invokevirtual 53, 3) := by decide +kernel
theorem dX4_change_56 : decode cX4_change 56 = .ok (.goto 9, 3) := by decide +kernel
theorem dX4_change_59 : decode cX4_change 59 = .ok (.aload_n 0, 1) := by decide +kernel
theorem dX4_change_60 : decode cX4_change 60 = .ok (.ldc 37, 2) := by decide +kernel
theorem dX4_change_62 : decode cX4_change 62 = .ok (.invokevirtual 39, 3) := by decide +kernel
theorem dX4_change_65 : decode cX4_change 65 = .ok (.ireturn, 1) := by decide +kernel
theorem dX4_sell_0 : decode cX4_sell 0 = .ok (.aload_n 0, 1) := by decide +kernel
theorem dX4_sell_1 : decode cX4_sell 1 = .ok (.iload_n 1, 1) := by decide +kernel
theorem dX4_sell_2 : decode cX4_sell 2 = .ok (.invokevirtual 86, 3) := by decide +kernel
theorem dX4_sell_5 : decode cX4_sell 5 = .ok (.ifCond .ne 10, 3) := by decide +kernel
theorem dX4_sell_8 : decode cX4_sell 8 = .ok (.aload_n 0, 1) := by decide +kernel
theorem dX4_sell_9 : decode cX4_sell 9 = .ok (.ldc 37, 2) := by decide +kernel
theorem dX4_sell_11 : decode cX4_sell 11 = .ok (.invokevirtual 39, 3) := by decide +kernel
theorem dX4_sell_14 : decode cX4_sell 14 = .ok (.ireturn, 1) := by decide +kernel
theorem dX4_sell_15 : decode cX4_sell 15 = .ok (.aload_n 0, 1) := by decide +kernel
theorem dX4_sell_16 : decode cX4_sell 16 = .ok (.iload_n 1, 1) := by decide +kernel
theorem dX4_sell_17 : decode cX4_sell 17 = .ok (.invokevirtual 89, 3) := by decide +kernel
theorem dX4_sell_20 : decode cX4_sell 20 = .ok (.istore_n 2, 1) := by decide +kernel
theorem dX4_sell_21 : decode cX4_sell 21 = .ok (.aload_n 0, 1) := by decide +kernel
theorem dX4_sell_22 : decode cX4_sell 22 = .ok (.getfield 7, 3) := by decide +kernel
theorem dX4_sell_25 : decode cX4_sell 25 = .ok (.iload_n 1, 1) := by decide +kernel
theorem dX4_sell_26 : decode cX4_sell 26 = .ok (.iconst 2, 1) := by decide +kernel
theorem dX4_sell_27 : decode cX4_sell 27 = .ok (.invokestatic 70, 3) := by decide +kernel
theorem dX4_sell_30 : decode cX4_sell 30 = .ok (.iconst 0, 1) := by decide +kernel
theorem dX4_sell_31 : decode cX4_sell 31 = .ok (.iastore, 1) := by decide +kernel
theorem dX4_sell_32 : decode cX4_sell 32 = .ok (.aload_n 0, 1) := by decide +kernel
theorem dX4_sell_33 : decode cX4_sell 33 = .ok (.getfield 7, 3) := by decide +kernel
theorem dX4_sell_36 : decode cX4_sell 36 = .ok (.iload_n 1, 1) := by decide +kernel
theorem dX4_sell_37 : decode cX4_sell 37 = .ok (.iconst 5, 1) := by decide +kernel
theorem dX4_sell_38 : decode cX4_sell 38 = .ok (.invokestatic 70, 3) := by decide +kernel
theorem dX4_sell_41 : decode cX4_sell 41 = .ok (.iconst 0, 1) := by decide +kernel
theorem dX4_sell_42 : decode cX4_sell 42 = .ok (.iastore, 1) := by decide +kernel
theorem dX4_sell_43 : decode cX4_sell 43 = .ok (.iload_n 2, 1) := by decide +kernel
theorem dX4_sell_44 : decode cX4_sell 44 = .ok (.ireturn, 1) := by decide +kernel
theorem dX4_more_0 : decode cX4_more 0 = .ok (.aload_n 0, 1) := by decide +kernel
theorem dX4_more_1 : decode cX4_more 1 = .ok (.getfield 7, 3) := by decide +kernel
theorem dX4_more_4 : decode cX4_more 4 = .ok (.iload_n 1, 1) := by decide +kernel
theorem dX4_more_5 : decode cX4_more 5 = .ok (.iconst 2, 1) := by decide +kernel
theorem dX4_more_6 : decode cX4_more 6 = .ok (.invokestatic 70, 3) := by decide +kernel
theorem dX4_more_9 : decode cX4_more 9 = .ok (.sipush 999, 3) := by decide +kernel
theorem dX4_more_12 : decode cX4_more 12 = .ok (.aload_n 0, 1) := by decide +kernel
theorem dX4_more_13 : decode cX4_more 13 = .ok (.iload_n 1, 1) := by decide +kernel
theorem dX4_more_14 : decode cX4_more 14 = .ok (.iconst 2, 1) := by decide +kernel
theorem dX4_more_15 : decode cX4_more 15 = .ok (.invokevirtual 57, 3) := by decide +kernel
theorem dX4_more_18 : decode cX4_more 18 = .ok (.iload_n 2, 1) := by decide +kernel
theorem dX4_more_19 : decode cX4_more 19 = .ok (.iadd, 1) := by decide +kernel
theorem dX4_more_20 : decode cX4_more 20 = .ok (.invokestatic 101, 3) := by decide +kernel
theorem dX4_more_23 : decode cX4_more 23 = .ok (.iastore, 1) := by decide +kernel
theorem dX4_more_24 : decode cX4_more 24 = .ok (.return_, 1) := by decide +kernel
theorem dX4_cancel_0 : decode cX4_cancel 0 = .ok (.aload_n 0, 1) := by decide +kernel
theorem dX4_cancel_1 : decode cX4_cancel 1 = .ok (.iload_n 1, 1) := by decide +kernel
theorem dX4_cancel_2 : decode cX4_cancel 2 = .ok (.iconst 1, 1) := by decide +kernel
theorem dX4_cancel_3 : decode cX4_cancel 3 = .ok (.invokevirtual 57, 3) := by decide +kernel
theorem dX4_cancel_6 : decode cX4_cancel 6 = .ok (.aload_n 0, 1) := by decide +kernel
theorem dX4_cancel_7 : decode cX4_cancel 7 = .ok (.iload_n 2, 1) := by decide +kernel
theorem dX4_cancel_8 : decode cX4_cancel 8 = .ok (.iconst 1, 1) := by decide +kernel
theorem dX4_cancel_9 : decode cX4_cancel 9 = .ok (.invokevirtual 57, 3) := by decide +kernel
theorem dX4_cancel_12 : decode cX4_cancel 12 = .ok (.if_icmp .ne 62, 3) := by decide +kernel
theorem dX4_cancel_15 : decode cX4_cancel 15 = .ok (.aload_n 0, 1) := by decide +kernel
theorem dX4_cancel_16 : decode cX4_cancel 16 = .ok (.iload_n 1, 1) := by decide +kernel
theorem dX4_cancel_17 : decode cX4_cancel 17 = .ok (.iconst 3, 1) := by decide +kernel
theorem dX4_cancel_18 : decode cX4_cancel 18 = .ok (.invokevirtual 57, 3) := by decide +kernel
theorem dX4_cancel_21 : decode cX4_cancel 21 = .ok (.aload_n 0, 1) := by decide +kernel
theorem dX4_cancel_22 : decode cX4_cancel 22 = .ok (.iload_n 2, 1) := by decide +kernel
theorem dX4_cancel_23 : decode cX4_cancel 23 = .ok (.iconst 3, 1) := by decide +kernel
theorem dX4_cancel_24 : decode cX4_cancel 24 = .ok (.invokevirtual 57, 3) := by decide +kernel
theorem dX4_cancel_27 : decode cX4_cancel 27 = .ok (.if_icmp .ne 47, 3) := by decide +kernel
theorem dX4_cancel_30 : decode cX4_cancel 30 = .ok (.aload_n 0, 1) := by decide +kernel
theorem dX4_cancel_31 : decode cX4_cancel 31 = .ok (.iload_n 1, 1) := by decide +kernel
theorem dX4_cancel_32 : decode cX4_cancel 32 = .ok (.iconst 2, 1) := by decide +kernel
theorem dX4_cancel_33 : decode cX4_cancel 33 = .ok (.invokevirtual 57, 3) := by decide +kernel
theorem dX4_cancel_36 : decode cX4_cancel 36 = .ok (.aload_n 0, 1) := by decide +kernel
theorem dX4_cancel_37 : decode cX4_cancel 37 = .ok (.iload_n 2, 1) := by decide +kernel
theorem dX4_cancel_38 : decode cX4_cancel 38 = .ok (.iconst 2, 1) := by decide +kernel
theorem dX4_cancel_39 : decode cX4_cancel 39 = .ok (.invokevirtual 57, 3) := by decide +kernel
theorem dX4_cancel_42 : decode cX4_cancel 42 = .ok (.invokestatic 101, 3) := by decide +kernel
theorem dX4_cancel_45 : decode cX4_cancel 45 = .ok (.istore_n 3, 1) := by decide +kernel
theorem dX4_cancel_46 : decode cX4_cancel 46 = .ok (.aload_n 0, 1) := by decide +kernel
theorem dX4_cancel_47 : decode cX4_cancel 47 = .ok (.getfield 7, 3) := by decide +kernel
theorem dX4_cancel_50 : decode cX4_cancel 50 = .ok (.iload_n 1, 1) := by decide +kernel
theorem dX4_cancel_51 : decode cX4_cancel 51 = .ok (.iconst 2, 1) := by decide +kernel
theorem dX4_cancel_52 : decode cX4_cancel 52 = .ok (.invokestatic 70, 3) := by decide +kernel
theorem dX4_cancel_55 : decode cX4_cancel 55 = .ok (.dup2, 1) := by decide +kernel
theorem dX4_cancel_56 : decode cX4_cancel 56 = .ok (.iaload, 1) := by decide +kernel
theorem dX4_cancel_57 : decode cX4_cancel 57 = .ok (.iload_n 3, 1) := by decide +kernel
theorem dX4_cancel_58 : decode cX4_cancel 58 = .ok (.isub, 1) := by decide +kernel
theorem dX4_cancel_59 : decode cX4_cancel 59 = .ok (.iastore, 1) := by decide +kernel
theorem dX4_cancel_60 : decode cX4_cancel 60 = .ok (.aload_n 0, 1) := by decide +kernel
theorem dX4_cancel_61 : decode cX4_cancel 61 = .ok (.getfield 7, 3) := by decide +kernel
theorem dX4_cancel_64 : decode cX4_cancel 64 = .ok (.iload_n 2, 1) := by decide +kernel
theorem dX4_cancel_65 : decode cX4_cancel 65 = .ok (.iconst 2, 1) := by decide +kernel
theorem dX4_cancel_66 : decode cX4_cancel 66 = .ok (.invokestatic 70, 3) := by decide +kernel
theorem dX4_cancel_69 : decode cX4_cancel 69 = .ok (.dup2, 1) := by decide +kernel
theorem dX4_cancel_70 : decode cX4_cancel 70 = .ok (.iaload, 1) := by decide +kernel
theorem dX4_cancel_71 : decode cX4_cancel 71 = .ok (.iload_n 3, 1) := by decide +kernel
theorem dX4_cancel_72 : decode cX4_cancel 72 = .ok (.isub, 1) := by decide +kernel
theorem dX4_cancel_73 : decode cX4_cancel 73 = .ok (.iastore, 1) := by decide +kernel
theorem dX4_cancel_74 : decode cX4_cancel 74 = .ok (.return_, 1) := by decide +kernel
theorem dX4_strained_0 : decode cX4_strained 0 = .ok (.iconst 0, 1) := by decide +kernel
theorem dX4_strained_1 : decode cX4_strained 1 = .ok (.istore_n 1, 1) := by decide +kernel
theorem dX4_strained_2 : decode cX4_strained 2 = .ok (.iload_n 1, 1) := by decide +kernel
theorem dX4_strained_3 : decode cX4_strained 3 = .ok (.aload_n 0, 1) := by decide +kernel
theorem dX4_strained_4 : decode cX4_strained 4 = .ok (.getfield 7, 3) := by decide +kernel
theorem dX4_strained_7 : decode cX4_strained 7 = .ok (.iconst 0, 1) := by decide +kernel
theorem dX4_strained_8 : decode cX4_strained 8 = .ok (.iaload, 1) := by decide +kernel
theorem dX4_strained_9 : decode cX4_strained 9 = .ok (.if_icmp .ge 22, 3) := by decide +kernel
theorem dX4_strained_12 : decode cX4_strained 12 = .ok (.aload_n 0, 1) := by decide +kernel
theorem dX4_strained_13 : decode cX4_strained 13 = .ok (.iload_n 1, 1) := by decide +kernel
theorem dX4_strained_14 : decode cX4_strained 14 = .ok (.invokevirtual 89, 3) := by decide +kernel
theorem dX4_strained_17 : decode cX4_strained 17 = .ok (.aload_n 0, 1) := by decide +kernel
theorem dX4_strained_18 : decode cX4_strained 18 = .ok (.iload_n 1, 1) := by decide +kernel
theorem dX4_strained_19 : decode cX4_strained 19 = .ok (.invokevirtual 95, 3) := by decide +kernel
theorem dX4_strained_22 : decode cX4_strained 22 = .ok (.if_icmp .gt 9, 3) := by decide +kernel
theorem dX4_strained_25 : decode cX4_strained 25 = .ok (.iinc 1 1, 3) := by decide +kernel
theorem dX4_strained_28 : decode cX4_strained 28 = .ok (.goto (-26), 3) := by decide +kernel
theorem dX4_strained_31 : decode cX4_strained 31 = .ok (.iload_n 1, 1) := by decide +kernel
theorem dX4_strained_32 : decode cX4_strained 32 = .ok (.aload_n 0, 1) := by decide +kernel
theorem dX4_strained_33 : decode cX4_strained 33 = .ok (.getfield 7, 3) := by decide +kernel
theorem dX4_strained_36 : decode cX4_strained 36 = .ok (.iconst 0, 1) := by decide +kernel
theorem dX4_strained_37 : decode cX4_strained 37 = .ok (.iaload, 1) := by decide +kernel
theorem dX4_strained_38 : decode cX4_strained 38 = .ok (.if_icmp .ge 7, 3) := by decide +kernel
theorem dX4_strained_41 : decode cX4_strained 41 = .ok (.iload_n 1, 1) := by decide +kernel
theorem dX4_strained_42 : decode cX4_strained 42 = .ok (.goto 4, 3) := by decide +kernel
theorem dX4_strained_45 : decode cX4_strained 45 = .ok (.iconst (-1), 1) := by decide +kernel
theorem dX4_strained_46 : decode cX4_strained 46 = .ok (.ireturn, 1) := by decide +kernel
theorem dX4_burst_0 : decode cX4_burst 0 = .ok (.aload_n 0, 1) := by decide +kernel
theorem dX4_burst_1 : decode cX4_burst 1 = .ok (.iload_n 1, 1) := by decide +kernel
theorem dX4_burst_2 : decode cX4_burst 2 = .ok (.iconst 2, 1) := by decide +kernel
theorem dX4_burst_3 : decode cX4_burst 3 = .ok (.invokevirtual 57, 3) := by decide +kernel
theorem dX4_burst_6 : decode cX4_burst 6 = .ok (.iconst 2, 1) := by decide +kernel
theorem dX4_burst_7 : decode cX4_burst 7 = .ok (.idiv, 1) := by decide +kernel
theorem dX4_burst_8 : decode cX4_burst 8 = .ok (.istore_n 2, 1) := by decide +kernel
theorem dX4_burst_9 : decode cX4_burst 9 = .ok (.iconst 0, 1) := by decide +kernel
theorem dX4_burst_10 : decode cX4_burst 10 = .ok (.istore_n 3, 1) := by decide +kernel
theorem dX4_burst_11 : decode cX4_burst 11 = .ok (.iload_n 3, 1) := by decide +kernel
theorem dX4_burst_12 : decode cX4_burst 12 = .ok (.aload_n 0, 1) := by decide +kernel
theorem dX4_burst_13 : decode cX4_burst 13 = .ok (.getfield 7, 3) := by decide +kernel
theorem dX4_burst_16 : decode cX4_burst 16 = .ok (.iconst 0, 1) := by decide +kernel
theorem dX4_burst_17 : decode cX4_burst 17 = .ok (.iaload, 1) := by decide +kernel
theorem dX4_burst_18 : decode cX4_burst 18 = .ok (.if_icmp .ge 35, 3) := by decide +kernel
theorem dX4_burst_21 : decode cX4_burst 21 = .ok (.iload_n 3, 1) := by decide +kernel
theorem dX4_burst_22 : decode cX4_burst 22 = .ok (.iload_n 1, 1) := by decide +kernel
theorem dX4_burst_23 : decode cX4_burst 23 = .ok (.if_icmp .eq 24, 3) := by decide +kernel
theorem dX4_burst_26 : decode cX4_burst 26 = .ok (.aload_n 0, 1) := by decide +kernel
theorem dX4_burst_27 : decode cX4_burst 27 = .ok (.iload_n 3, 1) := by decide +kernel
theorem dX4_burst_28 : decode cX4_burst 28 = .ok (.iconst 1, 1) := by decide +kernel
theorem dX4_burst_29 : decode cX4_burst 29 = .ok (.invokevirtual 57, 3) := by decide +kernel
theorem dX4_burst_32 : decode cX4_burst 32 = .ok (.aload_n 0, 1) := by decide +kernel
theorem dX4_burst_33 : decode cX4_burst 33 = .ok (.iload_n 1, 1) := by decide +kernel
theorem dX4_burst_34 : decode cX4_burst 34 = .ok (.iconst 1, 1) := by decide +kernel
theorem dX4_burst_35 : decode cX4_burst 35 = .ok (.invokevirtual 57, 3) := by decide +kernel
theorem dX4_burst_38 : decode cX4_burst 38 = .ok (.if_icmp .ne 9, 3) := by decide +kernel
theorem dX4_burst_41 : decode cX4_burst 41 = .ok (.aload_n 0, 1) := by decide +kernel
theorem dX4_burst_42 : decode cX4_burst 42 = .ok (.iload_n 3, 1) := by decide +kernel
theorem dX4_burst_43 : decode cX4_burst 43 = .ok (.iload_n 2, 1) := by decide +kernel
theorem dX4_burst_44 : decode cX4_burst 44 = .ok (.invokevirtual 104, 3) := by decide +kernel
theorem dX4_burst_47 : decode cX4_burst 47 = .ok (.iinc 3 1, 3) := by decide +kernel
theorem dX4_burst_50 : decode cX4_burst 50 = .ok (.goto (-39), 3) := by decide +kernel
theorem dX4_burst_53 : decode cX4_burst 53 = .ok (.aload_n 0, 1) := by decide +kernel
theorem dX4_burst_54 : decode cX4_burst 54 = .ok (.getfield 7, 3) := by decide +kernel
theorem dX4_burst_57 : decode cX4_burst 57 = .ok (.iload_n 1, 1) := by decide +kernel
theorem dX4_burst_58 : decode cX4_burst 58 = .ok (.iconst 2, 1) := by decide +kernel
theorem dX4_burst_59 : decode cX4_burst 59 = .ok (.invokestatic 70, 3) := by decide +kernel
theorem dX4_burst_62 : decode cX4_burst 62 = .ok (.iconst 0, 1) := by decide +kernel
theorem dX4_burst_63 : decode cX4_burst 63 = .ok (.iastore, 1) := by decide +kernel
theorem dX4_burst_64 : decode cX4_burst 64 = .ok (.aload_n 0, 1) := by decide +kernel
theorem dX4_burst_65 : decode cX4_burst 65 = .ok (.getfield 7, 3) := by decide +kernel
theorem dX4_burst_68 : decode cX4_burst 68 = .ok (.iload_n 1, 1) := by decide +kernel
theorem dX4_burst_69 : decode cX4_burst 69 = .ok (.iconst 5, 1) := by decide +kernel
theorem dX4_burst_70 : decode cX4_burst 70 = .ok (.invokestatic 70, 3) := by decide +kernel
theorem dX4_burst_73 : decode cX4_burst 73 = .ok (.iconst 0, 1) := by decide +kernel
theorem dX4_burst_74 : decode cX4_burst 74 = .ok (.iastore, 1) := by decide +kernel
theorem dX4_burst_75 : decode cX4_burst 75 = .ok (.aload_n 0, 1) := by decide +kernel
theorem dX4_burst_76 : decode cX4_burst 76 = .ok (.getfield 7, 3) := by decide +kernel
theorem dX4_burst_79 : decode cX4_burst 79 = .ok (.iload_n 1, 1) := by decide +kernel
theorem dX4_burst_80 : decode cX4_burst 80 = .ok (.bipush 6, 2) := by decide +kernel
theorem dX4_burst_82 : decode cX4_burst 82 = .ok (.invokestatic 70, 3) := by decide +kernel
theorem dX4_burst_85 : decode cX4_burst 85 = .ok (.sipush 999, 3) := by decide +kernel
theorem dX4_burst_88 : decode cX4_burst 88 = .ok (.aload_n 0, 1) := by decide +kernel
theorem dX4_burst_89 : decode cX4_burst 89 = .ok (.iload_n 1, 1) := by decide +kernel
theorem dX4_burst_90 : decode cX4_burst 90 = .ok (.bipush 6, 2) := by decide +kernel
theorem dX4_burst_92 : decode cX4_burst 92 = .ok (.invokevirtual 57, 3) := by decide +kernel
theorem dX4_burst_95 : decode cX4_burst 95 = .ok (.iconst 1, 1) := by decide +kernel
theorem dX4_burst_96 : decode cX4_burst 96 = .ok (.iadd, 1) := by decide +kernel
theorem dX4_burst_97 : decode cX4_burst 97 = .ok (.invokestatic 101, 3) := by decide +kernel
theorem dX4_burst_100 : decode cX4_burst 100 = .ok (.iastore, 1) := by decide +kernel
theorem dX4_burst_101 : decode cX4_burst 101 = .ok (.aload_n 0, 1) := by decide +kernel
theorem dX4_burst_102 : decode cX4_burst 102 = .ok (.getfield 7, 3) := by decide +kernel
theorem dX4_burst_105 : decode cX4_burst 105 = .ok (.iconst 3, 1) := by decide +kernel
theorem dX4_burst_106 : decode cX4_burst 106 = .ok (.ldc 107, 2) := by decide +kernel
theorem dX4_burst_108 : decode cX4_burst 108 = .ok (.aload_n 0, 1) := by decide +kernel
theorem dX4_burst_109 : decode cX4_burst 109 = .ok (.getfield 7, 3) := by decide +kernel
theorem dX4_burst_112 : decode cX4_burst 112 = .ok (.iconst 3, 1) := by decide +kernel
theorem dX4_burst_113 : decode cX4_burst 113 = .ok (.iaload, 1) := by decide +kernel
theorem dX4_burst_114 : decode cX4_burst 114 = .ok (.iconst 1, 1) := by decide +kernel
theorem dX4_burst_115 : decode cX4_burst 115 = .ok (.iadd, 1) := by decide +kernel
theorem dX4_burst_116 : decode cX4_burst 116 = .ok (.invokestatic 101, 3) := by decide +kernel
theorem dX4_burst_119 : decode cX4_burst 119 = .ok (.iastore, 1) := by decide +kernel
theorem dX4_burst_120 : decode cX4_burst 120 = .ok (.return_, 1) := by decide +kernel
theorem dX4_day_0 : decode cX4_day 0 = .ok (.aload_n 0, 1) := by decide +kernel
theorem dX4_day_1 : decode cX4_day 1 = .ok (.getfield 7, 3) := by decide +kernel
theorem dX4_day_4 : decode cX4_day 4 = .ok (.iconst 1, 1) := by decide +kernel
theorem dX4_day_5 : decode cX4_day 5 = .ok (.iaload, 1) := by decide +kernel
theorem dX4_day_6 : decode cX4_day 6 = .ok (.bipush 6, 2) := by decide +kernel
theorem dX4_day_8 : decode cX4_day 8 = .ok (.irem, 1) := by decide +kernel
theorem dX4_day_9 : decode cX4_day 9 = .ok (.istore_n 1, 1) := by decide +kernel
theorem dX4_day_10 : decode cX4_day 10 = .ok (.aload_n 0, 1) := by decide +kernel
theorem dX4_day_11 : decode cX4_day 11 = .ok (.iload_n 1, 1) := by decide +kernel
theorem dX4_day_12 : decode cX4_day 12 = .ok (.invokevirtual 65, 3) := by decide +kernel
theorem dX4_day_15 : decode cX4_day 15 = .ok (.istore_n 2, 1) := by decide +kernel
theorem dX4_day_16 : decode cX4_day 16 = .ok (.iload_n 2, 1) := by decide +kernel
theorem dX4_day_17 : decode cX4_day 17 = .ok (.ifCond .lt 17, 3) := by decide +kernel
theorem dX4_day_20 : decode cX4_day 20 = .ok (.aload_n 0, 1) := by decide +kernel
theorem dX4_day_21 : decode cX4_day 21 = .ok (.iload_n 2, 1) := by decide +kernel
theorem dX4_day_22 : decode cX4_day 22 = .ok (.aload_n 0, 1) := by decide +kernel
theorem dX4_day_23 : decode cX4_day 23 = .ok (.getfield 7, 3) := by decide +kernel
theorem dX4_day_26 : decode cX4_day 26 = .ok (.bipush 10, 2) := by decide +kernel
theorem dX4_day_28 : decode cX4_day 28 = .ok (.iload_n 1, 1) := by decide +kernel
theorem dX4_day_29 : decode cX4_day 29 = .ok (.iadd, 1) := by decide +kernel
theorem dX4_day_30 : decode cX4_day 30 = .ok (.iaload, 1) := by decide +kernel
theorem dX4_day_31 : decode cX4_day 31 = .ok (.invokevirtual 104, 3) := by decide +kernel
theorem dX4_day_34 : decode cX4_day 34 = .ok (.iconst 0, 1) := by decide +kernel
theorem dX4_day_35 : decode cX4_day 35 = .ok (.istore_n 3, 1) := by decide +kernel
theorem dX4_day_36 : decode cX4_day 36 = .ok (.iload_n 3, 1) := by decide +kernel
theorem dX4_day_37 : decode cX4_day 37 = .ok (.aload_n 0, 1) := by decide +kernel
theorem dX4_day_38 : decode cX4_day 38 = .ok (.getfield 7, 3) := by decide +kernel
theorem dX4_day_41 : decode cX4_day 41 = .ok (.iconst 0, 1) := by decide +kernel
theorem dX4_day_42 : decode cX4_day 42 = .ok (.iaload, 1) := by decide +kernel
theorem dX4_day_43 : decode cX4_day 43 = .ok (.if_icmp .ge 59, 3) := by decide +kernel
theorem dX4_day_46 : decode cX4_day 46 = .ok (.aload_n 0, 1) := by decide +kernel
theorem dX4_day_47 : decode cX4_day 47 = .ok (.getfield 7, 3) := by decide +kernel
theorem dX4_day_50 : decode cX4_day 50 = .ok (.iload_n 3, 1) := by decide +kernel
theorem dX4_day_51 : decode cX4_day 51 = .ok (.iconst 2, 1) := by decide +kernel
theorem dX4_day_52 : decode cX4_day 52 = .ok (.invokestatic 70, 3) := by decide +kernel
theorem dX4_day_55 : decode cX4_day 55 = .ok (.iconst 0, 1) := by decide +kernel
theorem dX4_day_56 : decode cX4_day 56 = .ok (.aload_n 0, 1) := by decide +kernel
theorem dX4_day_57 : decode cX4_day 57 = .ok (.iload_n 3, 1) := by decide +kernel
theorem dX4_day_58 : decode cX4_day 58 = .ok (.iconst 2, 1) := by decide +kernel
theorem dX4_day_59 : decode cX4_day 59 = .ok (.invokevirtual 57, 3) := by decide +kernel
theorem dX4_day_62 : decode cX4_day 62 = .ok (.aload_n 0, 1) := by decide +kernel
theorem dX4_day_63 : decode cX4_day 63 = .ok (.iload_n 3, 1) := by decide +kernel
theorem dX4_day_64 : decode cX4_day 64 = .ok (.invokevirtual 92, 3) := by decide +kernel
theorem dX4_day_67 : decode cX4_day 67 = .ok (.isub, 1) := by decide +kernel
theorem dX4_day_68 : decode cX4_day 68 = .ok (.invokestatic 80, 3) := by decide +kernel
theorem dX4_day_71 : decode cX4_day 71 = .ok (.iastore, 1) := by decide +kernel
theorem dX4_day_72 : decode cX4_day 72 = .ok (.aload_n 0, 1) := by decide +kernel
theorem dX4_day_73 : decode cX4_day 73 = .ok (.getfield 7, 3) := by decide +kernel
theorem dX4_day_76 : decode cX4_day 76 = .ok (.iload_n 3, 1) := by decide +kernel
theorem dX4_day_77 : decode cX4_day 77 = .ok (.iconst 5, 1) := by decide +kernel
theorem dX4_day_78 : decode cX4_day 78 = .ok (.invokestatic 70, 3) := by decide +kernel
theorem dX4_day_81 : decode cX4_day 81 = .ok (.sipush 999, 3) := by decide +kernel
theorem dX4_day_84 : decode cX4_day 84 = .ok (.aload_n 0, 1) := by decide +kernel
theorem dX4_day_85 : decode cX4_day 85 = .ok (.iload_n 3, 1) := by decide +kernel
theorem dX4_day_86 : decode cX4_day 86 = .ok (.iconst 5, 1) := by decide +kernel
theorem dX4_day_87 : decode cX4_day 87 = .ok (.invokevirtual 57, 3) := by decide +kernel
theorem dX4_day_90 : decode cX4_day 90 = .ok (.iconst 1, 1) := by decide +kernel
theorem dX4_day_91 : decode cX4_day 91 = .ok (.iadd, 1) := by decide +kernel
theorem dX4_day_92 : decode cX4_day 92 = .ok (.invokestatic 101, 3) := by decide +kernel
theorem dX4_day_95 : decode cX4_day 95 = .ok (.iastore, 1) := by decide +kernel
theorem dX4_day_96 : decode cX4_day 96 = .ok (.iinc 3 1, 3) := by decide +kernel
theorem dX4_day_99 : decode cX4_day 99 = .ok (.goto (-63), 3) := by decide +kernel
theorem dX4_day_102 : decode cX4_day 102 = .ok (.iconst 0, 1) := by decide +kernel
theorem dX4_day_103 : decode cX4_day 103 = .ok (.istore_n 3, 1) := by decide +kernel
theorem dX4_day_104 : decode cX4_day 104 = .ok (.iload_n 3, 1) := by decide +kernel
theorem dX4_day_105 : decode cX4_day 105 = .ok (.aload_n 0, 1) := by decide +kernel
theorem dX4_day_106 : decode cX4_day 106 = .ok (.getfield 7, 3) := by decide +kernel
theorem dX4_day_109 : decode cX4_day 109 = .ok (.iconst 0, 1) := by decide +kernel
theorem dX4_day_110 : decode cX4_day 110 = .ok (.iaload, 1) := by decide +kernel
theorem dX4_day_111 : decode cX4_day 111 = .ok (.if_icmp .ge 38, 3) := by decide +kernel
theorem dX4_day_114 : decode cX4_day 114 = .ok (.iload_n 3, 1) := by decide +kernel
theorem dX4_day_115 : decode cX4_day 115 = .ok (.iconst 1, 1) := by decide +kernel
theorem dX4_day_116 : decode cX4_day 116 = .ok (.iadd, 1) := by decide +kernel
theorem dX4_day_117 : decode cX4_day 117 = .ok (.istore 4, 2) := by decide +kernel
theorem dX4_day_119 : decode cX4_day 119 = .ok (.iload 4, 2) := by decide +kernel
theorem dX4_day_121 : decode cX4_day 121 = .ok (.aload_n 0, 1) := by decide +kernel
theorem dX4_day_122 : decode cX4_day 122 = .ok (.getfield 7, 3) := by decide +kernel
theorem dX4_day_125 : decode cX4_day 125 = .ok (.iconst 0, 1) := by decide +kernel
theorem dX4_day_126 : decode cX4_day 126 = .ok (.iaload, 1) := by decide +kernel
theorem dX4_day_127 : decode cX4_day 127 = .ok (.if_icmp .ge 16, 3) := by decide +kernel
theorem dX4_day_130 : decode cX4_day 130 = .ok (.aload_n 0, 1) := by decide +kernel
theorem dX4_day_131 : decode cX4_day 131 = .ok (.iload_n 3, 1) := by decide +kernel
theorem dX4_day_132 : decode cX4_day 132 = .ok (.iload 4, 2) := by decide +kernel
theorem dX4_day_134 : decode cX4_day 134 = .ok (.invokevirtual 108, 3) := by decide +kernel
theorem dX4_day_137 : decode cX4_day 137 = .ok (.iinc 4 1, 3) := by decide +kernel
theorem dX4_day_140 : decode cX4_day 140 = .ok (.goto (-21), 3) := by decide +kernel
theorem dX4_day_143 : decode cX4_day 143 = .ok (.iinc 3 1, 3) := by decide +kernel
theorem dX4_day_146 : decode cX4_day 146 = .ok (.goto (-42), 3) := by decide +kernel
theorem dX4_day_149 : decode cX4_day 149 = .ok (.aload_n 0, 1) := by decide +kernel
theorem dX4_day_150 : decode cX4_day 150 = .ok (.invokevirtual 111, 3) := by decide +kernel
theorem dX4_day_153 : decode cX4_day 153 = .ok (.istore_n 3, 1) := by decide +kernel
theorem dX4_day_154 : decode cX4_day 154 = .ok (.iconst 0, 1) := by decide +kernel
theorem dX4_day_155 : decode cX4_day 155 = .ok (.istore 4, 2) := by decide +kernel
theorem dX4_day_157 : decode cX4_day 157 = .ok (.iload 4, 2) := by decide +kernel
theorem dX4_day_159 : decode cX4_day 159 = .ok (.bipush 8, 2) := by decide +kernel
theorem dX4_day_161 : decode cX4_day 161 = .ok (.if_icmp .ge 23, 3) := by decide +kernel
theorem dX4_day_164 : decode cX4_day 164 = .ok (.iload_n 3, 1) := by decide +kernel
theorem dX4_day_165 : decode cX4_day 165 = .ok (.ifCond .lt 19, 3) := by decide +kernel
theorem dX4_day_168 : decode cX4_day 168 = .ok (.aload_n 0, 1) := by decide +kernel
theorem dX4_day_169 : decode cX4_day 169 = .ok (.iload_n 3, 1) := by decide +kernel
theorem dX4_day_170 : decode cX4_day 170 = .ok (.invokevirtual 115, 3) := by decide +kernel
theorem dX4_day_173 : decode cX4_day 173 = .ok (.aload_n 0, 1) := by decide +kernel
theorem dX4_day_174 : decode cX4_day 174 = .ok (.invokevirtual 111, 3) := by decide +kernel
theorem dX4_day_177 : decode cX4_day 177 = .ok (.istore_n 3, 1) := by decide +kernel
theorem dX4_day_178 : decode cX4_day 178 = .ok (.iinc 4 1, 3) := by decide +kernel
theorem dX4_day_181 : decode cX4_day 181 = .ok (.goto (-24), 3) := by decide +kernel
theorem dX4_day_184 : decode cX4_day 184 = .ok (.aload_n 0, 1) := by decide +kernel
theorem dX4_day_185 : decode cX4_day 185 = .ok (.getfield 7, 3) := by decide +kernel
theorem dX4_day_188 : decode cX4_day 188 = .ok (.iconst 1, 1) := by decide +kernel
theorem dX4_day_189 : decode cX4_day 189 = .ok (.dup2, 1) := by decide +kernel
theorem dX4_day_190 : decode cX4_day 190 = .ok (.iaload, 1) := by decide +kernel
theorem dX4_day_191 : decode cX4_day 191 = .ok (.iconst 1, 1) := by decide +kernel
theorem dX4_day_192 : decode cX4_day 192 = .ok (.iadd, 1) := by decide +kernel
theorem dX4_day_193 : decode cX4_day 193 = .ok (.iastore, 1) := by decide +kernel
theorem dX4_day_194 : decode cX4_day 194 = .ok (.return_, 1) := by decide +kernel
theorem dX4_goes_0 : decode cX4_goes 0 = .ok (.iconst 0, 1) := by decide +kernel
theorem dX4_goes_1 : decode cX4_goes 1 = .ok (.istore_n 2, 1) := by decide +kernel
theorem dX4_goes_2 : decode cX4_goes 2 = .ok (.iload_n 2, 1) := by decide +kernel
theorem dX4_goes_3 : decode cX4_goes 3 = .ok (.iload_n 1, 1) := by decide +kernel
theorem dX4_goes_4 : decode cX4_goes 4 = .ok (.if_icmp .ge 13, 3) := by decide +kernel
theorem dX4_goes_7 : decode cX4_goes 7 = .ok (.aload_n 0, 1) := by decide +kernel
theorem dX4_goes_8 : decode cX4_goes 8 = .ok (.invokevirtual 119, 3) := by decide +kernel
theorem dX4_goes_11 : decode cX4_goes 11 = .ok (.iinc 2 1, 3) := by decide +kernel
theorem dX4_goes_14 : decode cX4_goes 14 = .ok (.goto (-12), 3) := by decide +kernel
theorem dX4_goes_17 : decode cX4_goes 17 = .ok (.return_, 1) := by decide +kernel
theorem dX4_sumOf_0 : decode cX4_sumOf 0 = .ok (.iconst 0, 1) := by decide +kernel
theorem dX4_sumOf_1 : decode cX4_sumOf 1 = .ok (.istore_n 2, 1) := by decide +kernel
theorem dX4_sumOf_2 : decode cX4_sumOf 2 = .ok (.iconst 0, 1) := by decide +kernel
theorem dX4_sumOf_3 : decode cX4_sumOf 3 = .ok (.istore_n 3, 1) := by decide +kernel
theorem dX4_sumOf_4 : decode cX4_sumOf 4 = .ok (.iload_n 3, 1) := by decide +kernel
theorem dX4_sumOf_5 : decode cX4_sumOf 5 = .ok (.aload_n 0, 1) := by decide +kernel
theorem dX4_sumOf_6 : decode cX4_sumOf 6 = .ok (.getfield 7, 3) := by decide +kernel
theorem dX4_sumOf_9 : decode cX4_sumOf 9 = .ok (.iconst 0, 1) := by decide +kernel
theorem dX4_sumOf_10 : decode cX4_sumOf 10 = .ok (.iaload, 1) := by decide +kernel
theorem dX4_sumOf_11 : decode cX4_sumOf 11 = .ok (.if_icmp .ge 32, 3) := by decide +kernel
theorem dX4_sumOf_14 : decode cX4_sumOf 14 = .ok (.iload_n 2, 1) := by decide +kernel
theorem dX4_sumOf_15 : decode cX4_sumOf 15 = .ok (.iload_n 1, 1) := by decide +kernel
theorem dX4_sumOf_16 : decode cX4_sumOf 16 = .ok (.bipush 7, 2) := by decide +kernel
theorem dX4_sumOf_18 : decode cX4_sumOf 18 = .ok (.if_icmp .ne 11, 3) := by decide +kernel
theorem dX4_sumOf_21 : decode cX4_sumOf 21 = .ok (.aload_n 0, 1) := by decide +kernel
theorem dX4_sumOf_22 : decode cX4_sumOf 22 = .ok (.iload_n 3, 1) := by decide +kernel
theorem dX4_sumOf_23 : decode cX4_sumOf 23 = .ok (.invokevirtual 89, 3) := by decide +kernel
theorem dX4_sumOf_26 : decode cX4_sumOf 26 = .ok (.goto 9, 3) := by decide +kernel
theorem dX4_sumOf_29 : decode cX4_sumOf 29 = .ok (.aload_n 0, 1) := by decide +kernel
theorem dX4_sumOf_30 : decode cX4_sumOf 30 = .ok (.iload_n 3, 1) := by decide +kernel
theorem dX4_sumOf_31 : decode cX4_sumOf 31 = .ok (.iload_n 1, 1) := by decide +kernel
theorem dX4_sumOf_32 : decode cX4_sumOf 32 = .ok (.invokevirtual 57, 3) := by decide +kernel
theorem dX4_sumOf_35 : decode cX4_sumOf 35 = .ok (.iadd, 1) := by decide +kernel
theorem dX4_sumOf_36 : decode cX4_sumOf 36 = .ok (.istore_n 2, 1) := by decide +kernel
theorem dX4_sumOf_37 : decode cX4_sumOf 37 = .ok (.iinc 3 1, 3) := by decide +kernel
theorem dX4_sumOf_40 : decode cX4_sumOf 40 = .ok (.goto (-36), 3) := by decide +kernel
theorem dX4_sumOf_43 : decode cX4_sumOf 43 = .ok (.iload_n 2, 1) := by decide +kernel
theorem dX4_sumOf_44 : decode cX4_sumOf 44 = .ok (.ireturn, 1) := by decide +kernel
theorem dX4_go_0 : decode cX4_go 0 = .ok (.iload_n 1, 1) := by decide +kernel
theorem dX4_go_1 : decode cX4_go 1 = .ok (.i2l, 1) := by decide +kernel
theorem dX4_go_2 : decode cX4_go 2 = .ok (.lconst 1, 1) := by decide +kernel
theorem dX4_go_3 : decode cX4_go 3 = .ok (.ldc2_w 122, 3) := by decide +kernel
theorem dX4_go_6 : decode cX4_go 6 = .ok (.invokestatic 49, 3) := by decide +kernel
theorem dX4_go_9 : decode cX4_go 9 = .ok (.ifCond .ne 10, 3) := by decide +kernel
theorem dX4_go_12 : decode cX4_go 12 = .ok (.aload_n 0, 1) := by decide +kernel
theorem dX4_go_13 : decode cX4_go 13 = .ok (.ldc 37, 2) := by decide +kernel
theorem dX4_go_15 : decode cX4_go 15 = .ok (.invokevirtual 39, 3) := by decide +kernel
theorem dX4_go_18 : decode cX4_go 18 = .ok (.ireturn, 1) := by decide +kernel
theorem dX4_go_19 : decode cX4_go 19 = .ok (.aload_n 0, 1) := by decide +kernel
theorem dX4_go_20 : decode cX4_go 20 = .ok (.getfield 7, 3) := by decide +kernel
theorem dX4_go_23 : decode cX4_go 23 = .ok (.iconst 1, 1) := by decide +kernel
theorem dX4_go_24 : decode cX4_go 24 = .ok (.iaload, 1) := by decide +kernel
theorem dX4_go_25 : decode cX4_go 25 = .ok (.iload_n 1, 1) := by decide +kernel
theorem dX4_go_26 : decode cX4_go 26 = .ok (.iadd, 1) := by decide +kernel
theorem dX4_go_27 : decode cX4_go 27 = .ok (.ldc 107, 2) := by decide +kernel
theorem dX4_go_29 : decode cX4_go 29 = .ok (.if_icmp .le 10, 3) := by decide +kernel
theorem dX4_go_32 : decode cX4_go 32 = .ok (.aload_n 0, 1) := by decide +kernel
theorem dX4_go_33 : decode cX4_go 33 = .ok (.ldc 124, 2) := by decide +kernel
theorem dX4_go_35 : decode cX4_go 35 = .ok (.invokevirtual 39, 3) := by decide +kernel
theorem dX4_go_38 : decode cX4_go 38 = .ok (.ireturn, 1) := by decide +kernel
theorem dX4_go_39 : decode cX4_go 39 = .ok (.aload_n 0, 1) := by decide +kernel
theorem dX4_go_40 : decode cX4_go 40 = .ok (.iload_n 1, 1) := by decide +kernel
theorem dX4_go_41 : decode cX4_go 41 = .ok (.invokevirtual 125, 3) := by decide +kernel
theorem dX4_go_44 : decode cX4_go 44 = .ok (.aload_n 0, 1) := by decide +kernel
theorem dX4_go_45 : decode cX4_go 45 = .ok (.getfield 7, 3) := by decide +kernel
theorem dX4_go_48 : decode cX4_go 48 = .ok (.iconst 3, 1) := by decide +kernel
theorem dX4_go_49 : decode cX4_go 49 = .ok (.iaload, 1) := by decide +kernel
theorem dX4_go_50 : decode cX4_go 50 = .ok (.ireturn, 1) := by decide +kernel
theorem dX4_strainedOnes_0 : decode cX4_strainedOnes 0 = .ok (.iconst 0, 1) := by decide +kernel
theorem dX4_strainedOnes_1 : decode cX4_strainedOnes 1 = .ok (.istore_n 1, 1) := by decide +kernel
theorem dX4_strainedOnes_2 : decode cX4_strainedOnes 2 = .ok (.iconst 0, 1) := by decide +kernel
theorem dX4_strainedOnes_3 : decode cX4_strainedOnes 3 = .ok (.istore_n 2, 1) := by decide +kernel
theorem dX4_strainedOnes_4 : decode cX4_strainedOnes 4 = .ok (.iload_n 2, 1) := by decide +kernel
theorem dX4_strainedOnes_5 : decode cX4_strainedOnes 5 = .ok (.aload_n 0, 1) := by decide +kernel
theorem dX4_strainedOnes_6 : decode cX4_strainedOnes 6 = .ok (.getfield 7, 3) := by decide +kernel
theorem dX4_strainedOnes_9 : decode cX4_strainedOnes 9 = .ok (.iconst 0, 1) := by decide +kernel
theorem dX4_strainedOnes_10 : decode cX4_strainedOnes 10 = .ok (.iaload, 1) := by decide +kernel
theorem dX4_strainedOnes_11 : decode cX4_strainedOnes 11 = .ok (.if_icmp .ge 32, 3) := by decide +kernel
theorem dX4_strainedOnes_14 : decode cX4_strainedOnes 14 = .ok (.iload_n 1, 1) := by decide +kernel
theorem dX4_strainedOnes_15 : decode cX4_strainedOnes 15 = .ok (.aload_n 0, 1) := by decide +kernel
theorem dX4_strainedOnes_16 : decode cX4_strainedOnes 16 = .ok (.iload_n 2, 1) := by decide +kernel
theorem dX4_strainedOnes_17 : decode cX4_strainedOnes 17 = .ok (.invokevirtual 89, 3) := by decide +kernel
theorem dX4_strainedOnes_20 : decode cX4_strainedOnes 20 = .ok (.aload_n 0, 1) := by decide +kernel
theorem dX4_strainedOnes_21 : decode cX4_strainedOnes 21 = .ok (.iload_n 2, 1) := by decide +kernel
theorem dX4_strainedOnes_22 : decode cX4_strainedOnes 22 = .ok (.invokevirtual 95, 3) := by decide +kernel
theorem dX4_strainedOnes_25 : decode cX4_strainedOnes 25 = .ok (.if_icmp .le 9, 3) := by decide +kernel
theorem dX4_strainedOnes_28 : decode cX4_strainedOnes 28 = .ok (.iconst 1, 1) := by decide +kernel
theorem dX4_strainedOnes_29 : decode cX4_strainedOnes 29 = .ok (.iload_n 2, 1) := by decide +kernel
theorem dX4_strainedOnes_30 : decode cX4_strainedOnes 30 = .ok (.ishl, 1) := by decide +kernel
theorem dX4_strainedOnes_31 : decode cX4_strainedOnes 31 = .ok (.goto 4, 3) := by decide +kernel
theorem dX4_strainedOnes_34 : decode cX4_strainedOnes 34 = .ok (.iconst 0, 1) := by decide +kernel
theorem dX4_strainedOnes_35 : decode cX4_strainedOnes 35 = .ok (.ior, 1) := by decide +kernel
theorem dX4_strainedOnes_36 : decode cX4_strainedOnes 36 = .ok (.istore_n 1, 1) := by decide +kernel
theorem dX4_strainedOnes_37 : decode cX4_strainedOnes 37 = .ok (.iinc 2 1, 3) := by decide +kernel
theorem dX4_strainedOnes_40 : decode cX4_strainedOnes 40 = .ok (.goto (-36), 3) := by decide +kernel
theorem dX4_strainedOnes_43 : decode cX4_strainedOnes 43 = .ok (.iload_n 1, 1) := by decide +kernel
theorem dX4_strainedOnes_44 : decode cX4_strainedOnes 44 = .ok (.ireturn, 1) := by decide +kernel
theorem dX4_loudest_0 : decode cX4_loudest 0 = .ok (.aload_n 0, 1) := by decide +kernel
theorem dX4_loudest_1 : decode cX4_loudest 1 = .ok (.getfield 7, 3) := by decide +kernel
theorem dX4_loudest_4 : decode cX4_loudest 4 = .ok (.iconst 0, 1) := by decide +kernel
theorem dX4_loudest_5 : decode cX4_loudest 5 = .ok (.iaload, 1) := by decide +kernel
theorem dX4_loudest_6 : decode cX4_loudest 6 = .ok (.ifCond .ne 7, 3) := by decide +kernel
theorem dX4_loudest_9 : decode cX4_loudest 9 = .ok (.iconst (-1), 1) := by decide +kernel
theorem dX4_loudest_10 : decode cX4_loudest 10 = .ok (.goto 4, 3) := by decide +kernel
theorem dX4_loudest_13 : decode cX4_loudest 13 = .ok (.iconst 0, 1) := by decide +kernel
theorem dX4_loudest_14 : decode cX4_loudest 14 = .ok (.istore_n 1, 1) := by decide +kernel
theorem dX4_loudest_15 : decode cX4_loudest 15 = .ok (.iconst 1, 1) := by decide +kernel
theorem dX4_loudest_16 : decode cX4_loudest 16 = .ok (.istore_n 2, 1) := by decide +kernel
theorem dX4_loudest_17 : decode cX4_loudest 17 = .ok (.iload_n 2, 1) := by decide +kernel
theorem dX4_loudest_18 : decode cX4_loudest 18 = .ok (.aload_n 0, 1) := by decide +kernel
theorem dX4_loudest_19 : decode cX4_loudest 19 = .ok (.getfield 7, 3) := by decide +kernel
theorem dX4_loudest_22 : decode cX4_loudest 22 = .ok (.iconst 0, 1) := by decide +kernel
theorem dX4_loudest_23 : decode cX4_loudest 23 = .ok (.iaload, 1) := by decide +kernel
theorem dX4_loudest_24 : decode cX4_loudest 24 = .ok (.if_icmp .ge 28, 3) := by decide +kernel
theorem dX4_loudest_27 : decode cX4_loudest 27 = .ok (.aload_n 0, 1) := by decide +kernel
theorem dX4_loudest_28 : decode cX4_loudest 28 = .ok (.iload_n 2, 1) := by decide +kernel
theorem dX4_loudest_29 : decode cX4_loudest 29 = .ok (.invokevirtual 89, 3) := by decide +kernel
theorem dX4_loudest_32 : decode cX4_loudest 32 = .ok (.aload_n 0, 1) := by decide +kernel
theorem dX4_loudest_33 : decode cX4_loudest 33 = .ok (.iload_n 1, 1) := by decide +kernel
theorem dX4_loudest_34 : decode cX4_loudest 34 = .ok (.invokevirtual 89, 3) := by decide +kernel
theorem dX4_loudest_37 : decode cX4_loudest 37 = .ok (.if_icmp .le 7, 3) := by decide +kernel
theorem dX4_loudest_40 : decode cX4_loudest 40 = .ok (.iload_n 2, 1) := by decide +kernel
theorem dX4_loudest_41 : decode cX4_loudest 41 = .ok (.goto 4, 3) := by decide +kernel
theorem dX4_loudest_44 : decode cX4_loudest 44 = .ok (.iload_n 1, 1) := by decide +kernel
theorem dX4_loudest_45 : decode cX4_loudest 45 = .ok (.istore_n 1, 1) := by decide +kernel
theorem dX4_loudest_46 : decode cX4_loudest 46 = .ok (.iinc 2 1, 3) := by decide +kernel
theorem dX4_loudest_49 : decode cX4_loudest 49 = .ok (.goto (-32), 3) := by decide +kernel
theorem dX4_loudest_52 : decode cX4_loudest 52 = .ok (.iload_n 1, 1) := by decide +kernel
theorem dX4_loudest_53 : decode cX4_loudest 53 = .ok (.ireturn, 1) := by decide +kernel
theorem dX4_usedOnes_0 : decode cX4_usedOnes 0 = .ok (.iconst 0, 1) := by decide +kernel
theorem dX4_usedOnes_1 : decode cX4_usedOnes 1 = .ok (.istore_n 1, 1) := by decide +kernel
theorem dX4_usedOnes_2 : decode cX4_usedOnes 2 = .ok (.iconst 0, 1) := by decide +kernel
theorem dX4_usedOnes_3 : decode cX4_usedOnes 3 = .ok (.istore_n 2, 1) := by decide +kernel
theorem dX4_usedOnes_4 : decode cX4_usedOnes 4 = .ok (.iload_n 2, 1) := by decide +kernel
theorem dX4_usedOnes_5 : decode cX4_usedOnes 5 = .ok (.aload_n 0, 1) := by decide +kernel
theorem dX4_usedOnes_6 : decode cX4_usedOnes 6 = .ok (.getfield 7, 3) := by decide +kernel
theorem dX4_usedOnes_9 : decode cX4_usedOnes 9 = .ok (.iconst 0, 1) := by decide +kernel
theorem dX4_usedOnes_10 : decode cX4_usedOnes 10 = .ok (.iaload, 1) := by decide +kernel
theorem dX4_usedOnes_11 : decode cX4_usedOnes 11 = .ok (.if_icmp .ge 20, 3) := by decide +kernel
theorem dX4_usedOnes_14 : decode cX4_usedOnes 14 = .ok (.iload_n 1, 1) := by decide +kernel
theorem dX4_usedOnes_15 : decode cX4_usedOnes 15 = .ok (.iconst 1, 1) := by decide +kernel
theorem dX4_usedOnes_16 : decode cX4_usedOnes 16 = .ok (.aload_n 0, 1) := by decide +kernel
theorem dX4_usedOnes_17 : decode cX4_usedOnes 17 = .ok (.iload_n 2, 1) := by decide +kernel
theorem dX4_usedOnes_18 : decode cX4_usedOnes 18 = .ok (.iconst 1, 1) := by decide +kernel
theorem dX4_usedOnes_19 : decode cX4_usedOnes 19 = .ok (.invokevirtual 57, 3) := by decide +kernel
theorem dX4_usedOnes_22 : decode cX4_usedOnes 22 = .ok (.ishl, 1) := by decide +kernel
theorem dX4_usedOnes_23 : decode cX4_usedOnes 23 = .ok (.ior, 1) := by decide +kernel
theorem dX4_usedOnes_24 : decode cX4_usedOnes 24 = .ok (.istore_n 1, 1) := by decide +kernel
theorem dX4_usedOnes_25 : decode cX4_usedOnes 25 = .ok (.iinc 2 1, 3) := by decide +kernel
theorem dX4_usedOnes_28 : decode cX4_usedOnes 28 = .ok (.goto (-24), 3) := by decide +kernel
theorem dX4_usedOnes_31 : decode cX4_usedOnes 31 = .ok (.iload_n 1, 1) := by decide +kernel
theorem dX4_usedOnes_32 : decode cX4_usedOnes 32 = .ok (.ireturn, 1) := by decide +kernel
theorem dX4_now_0 : decode cX4_now 0 = .ok (.iload_n 1, 1) := by decide +kernel
theorem dX4_now_1 : decode cX4_now 1 = .ok (.tableswitch 85 0 6 #[43, 50, 57, 63, 70, 75, 80], 43) := by decide +kernel
theorem dX4_now_44 : decode cX4_now 44 = .ok (.aload_n 0, 1) := by decide +kernel
theorem dX4_now_45 : decode cX4_now 45 = .ok (.getfield 7, 3) := by decide +kernel
theorem dX4_now_48 : decode cX4_now 48 = .ok (.iconst 1, 1) := by decide +kernel
theorem dX4_now_49 : decode cX4_now 49 = .ok (.iaload, 1) := by decide +kernel
theorem dX4_now_50 : decode cX4_now 50 = .ok (.ireturn, 1) := by decide +kernel
theorem dX4_now_51 : decode cX4_now 51 = .ok (.aload_n 0, 1) := by decide +kernel
theorem dX4_now_52 : decode cX4_now 52 = .ok (.getfield 7, 3) := by decide +kernel
theorem dX4_now_55 : decode cX4_now 55 = .ok (.iconst 3, 1) := by decide +kernel
theorem dX4_now_56 : decode cX4_now 56 = .ok (.iaload, 1) := by decide +kernel
theorem dX4_now_57 : decode cX4_now 57 = .ok (.ireturn, 1) := by decide +kernel
theorem dX4_now_58 : decode cX4_now 58 = .ok (.aload_n 0, 1) := by decide +kernel
theorem dX4_now_59 : decode cX4_now 59 = .ok (.iconst 2, 1) := by decide +kernel
theorem dX4_now_60 : decode cX4_now 60 = .ok (.invokevirtual 128, 3) := by decide +kernel
theorem dX4_now_63 : decode cX4_now 63 = .ok (.ireturn, 1) := by decide +kernel
theorem dX4_now_64 : decode cX4_now 64 = .ok (.aload_n 0, 1) := by decide +kernel
theorem dX4_now_65 : decode cX4_now 65 = .ok (.bipush 7, 2) := by decide +kernel
theorem dX4_now_67 : decode cX4_now 67 = .ok (.invokevirtual 128, 3) := by decide +kernel
theorem dX4_now_70 : decode cX4_now 70 = .ok (.ireturn, 1) := by decide +kernel
theorem dX4_now_71 : decode cX4_now 71 = .ok (.aload_n 0, 1) := by decide +kernel
theorem dX4_now_72 : decode cX4_now 72 = .ok (.invokevirtual 131, 3) := by decide +kernel
theorem dX4_now_75 : decode cX4_now 75 = .ok (.ireturn, 1) := by decide +kernel
theorem dX4_now_76 : decode cX4_now 76 = .ok (.aload_n 0, 1) := by decide +kernel
theorem dX4_now_77 : decode cX4_now 77 = .ok (.invokevirtual 134, 3) := by decide +kernel
theorem dX4_now_80 : decode cX4_now 80 = .ok (.ireturn, 1) := by decide +kernel
theorem dX4_now_81 : decode cX4_now 81 = .ok (.aload_n 0, 1) := by decide +kernel
theorem dX4_now_82 : decode cX4_now 82 = .ok (.invokevirtual 137, 3) := by decide +kernel
theorem dX4_now_85 : decode cX4_now 85 = .ok (.ireturn, 1) := by decide +kernel
theorem dX4_now_86 : decode cX4_now 86 = .ok (.aload_n 0, 1) := by decide +kernel
theorem dX4_now_87 : decode cX4_now 87 = .ok (.ldc 37, 2) := by decide +kernel
theorem dX4_now_89 : decode cX4_now 89 = .ok (.invokevirtual 39, 3) := by decide +kernel
theorem dX4_now_92 : decode cX4_now 92 = .ok (.ireturn, 1) := by decide +kernel
theorem dX4_then_0 : decode cX4_then 0 = .ok (.aload_n 0, 1) := by decide +kernel
theorem dX4_then_1 : decode cX4_then 1 = .ok (.getfield 7, 3) := by decide +kernel
theorem dX4_then_4 : decode cX4_then 4 = .ok (.aload_n 0, 1) := by decide +kernel
theorem dX4_then_5 : decode cX4_then 5 = .ok (.getfield 19, 3) := by decide +kernel
theorem dX4_then_8 : decode cX4_then 8 = .ok (.invokestatic 140, 3) := by decide +kernel
theorem dX4_then_11 : decode cX4_then 11 = .ok (.aload_n 0, 1) := by decide +kernel
theorem dX4_then_12 : decode cX4_then 12 = .ok (.iload_n 3, 1) := by decide +kernel
theorem dX4_then_13 : decode cX4_then 13 = .ok (.invokevirtual 125, 3) := by decide +kernel
theorem dX4_then_16 : decode cX4_then 16 = .ok (.iload_n 2, 1) := by decide +kernel
theorem dX4_then_17 : decode cX4_then 17 = .ok (.bipush 7, 2) := by decide +kernel
theorem dX4_then_19 : decode cX4_then 19 = .ok (.if_icmp .ne 11, 3) := by decide +kernel
theorem dX4_then_22 : decode cX4_then 22 = .ok (.aload_n 0, 1) := by decide +kernel
theorem dX4_then_23 : decode cX4_then 23 = .ok (.iload_n 1, 1) := by decide +kernel
theorem dX4_then_24 : decode cX4_then 24 = .ok (.invokevirtual 89, 3) := by decide +kernel
theorem dX4_then_27 : decode cX4_then 27 = .ok (.goto 9, 3) := by decide +kernel
theorem dX4_then_30 : decode cX4_then 30 = .ok (.aload_n 0, 1) := by decide +kernel
theorem dX4_then_31 : decode cX4_then 31 = .ok (.iload_n 1, 1) := by decide +kernel
theorem dX4_then_32 : decode cX4_then 32 = .ok (.iload_n 2, 1) := by decide +kernel
theorem dX4_then_33 : decode cX4_then 33 = .ok (.invokevirtual 57, 3) := by decide +kernel
theorem dX4_then_36 : decode cX4_then 36 = .ok (.istore 4, 2) := by decide +kernel
theorem dX4_then_38 : decode cX4_then 38 = .ok (.aload_n 0, 1) := by decide +kernel
theorem dX4_then_39 : decode cX4_then 39 = .ok (.getfield 19, 3) := by decide +kernel
theorem dX4_then_42 : decode cX4_then 42 = .ok (.aload_n 0, 1) := by decide +kernel
theorem dX4_then_43 : decode cX4_then 43 = .ok (.getfield 7, 3) := by decide +kernel
theorem dX4_then_46 : decode cX4_then 46 = .ok (.invokestatic 140, 3) := by decide +kernel
theorem dX4_then_49 : decode cX4_then 49 = .ok (.iload 4, 2) := by decide +kernel
theorem dX4_then_51 : decode cX4_then 51 = .ok (.ireturn, 1) := by decide +kernel
theorem dX4_clapsThen_0 : decode cX4_clapsThen 0 = .ok (.aload_n 0, 1) := by decide +kernel
theorem dX4_clapsThen_1 : decode cX4_clapsThen 1 = .ok (.getfield 7, 3) := by decide +kernel
theorem dX4_clapsThen_4 : decode cX4_clapsThen 4 = .ok (.aload_n 0, 1) := by decide +kernel
theorem dX4_clapsThen_5 : decode cX4_clapsThen 5 = .ok (.getfield 19, 3) := by decide +kernel
theorem dX4_clapsThen_8 : decode cX4_clapsThen 8 = .ok (.invokestatic 140, 3) := by decide +kernel
theorem dX4_clapsThen_11 : decode cX4_clapsThen 11 = .ok (.aload_n 0, 1) := by decide +kernel
theorem dX4_clapsThen_12 : decode cX4_clapsThen 12 = .ok (.iload_n 1, 1) := by decide +kernel
theorem dX4_clapsThen_13 : decode cX4_clapsThen 13 = .ok (.invokevirtual 125, 3) := by decide +kernel
theorem dX4_clapsThen_16 : decode cX4_clapsThen 16 = .ok (.aload_n 0, 1) := by decide +kernel
theorem dX4_clapsThen_17 : decode cX4_clapsThen 17 = .ok (.getfield 7, 3) := by decide +kernel
theorem dX4_clapsThen_20 : decode cX4_clapsThen 20 = .ok (.iconst 3, 1) := by decide +kernel
theorem dX4_clapsThen_21 : decode cX4_clapsThen 21 = .ok (.iaload, 1) := by decide +kernel
theorem dX4_clapsThen_22 : decode cX4_clapsThen 22 = .ok (.istore_n 2, 1) := by decide +kernel
theorem dX4_clapsThen_23 : decode cX4_clapsThen 23 = .ok (.aload_n 0, 1) := by decide +kernel
theorem dX4_clapsThen_24 : decode cX4_clapsThen 24 = .ok (.getfield 19, 3) := by decide +kernel
theorem dX4_clapsThen_27 : decode cX4_clapsThen 27 = .ok (.aload_n 0, 1) := by decide +kernel
theorem dX4_clapsThen_28 : decode cX4_clapsThen 28 = .ok (.getfield 7, 3) := by decide +kernel
theorem dX4_clapsThen_31 : decode cX4_clapsThen 31 = .ok (.invokestatic 140, 3) := by decide +kernel
theorem dX4_clapsThen_34 : decode cX4_clapsThen 34 = .ok (.iload_n 2, 1) := by decide +kernel
theorem dX4_clapsThen_35 : decode cX4_clapsThen 35 = .ok (.ireturn, 1) := by decide +kernel
theorem dX4_ahead_0 : decode cX4_ahead 0 = .ok (.aload_n 0, 1) := by decide +kernel
theorem dX4_ahead_1 : decode cX4_ahead 1 = .ok (.iload_n 1, 1) := by decide +kernel
theorem dX4_ahead_2 : decode cX4_ahead 2 = .ok (.invokevirtual 86, 3) := by decide +kernel
theorem dX4_ahead_5 : decode cX4_ahead 5 = .ok (.ifCond .eq 38, 3) := by decide +kernel
theorem dX4_ahead_8 : decode cX4_ahead 8 = .ok (.iload_n 2, 1) := by decide +kernel
theorem dX4_ahead_9 : decode cX4_ahead 9 = .ok (.iconst 2, 1) := by decide +kernel
theorem dX4_ahead_10 : decode cX4_ahead 10 = .ok (.if_icmp .eq 17, 3) := by decide +kernel
theorem dX4_ahead_13 : decode cX4_ahead 13 = .ok (.iload_n 2, 1) := by decide +kernel
theorem dX4_ahead_14 : decode cX4_ahead 14 = .ok (.i2l, 1) := by decide +kernel
theorem dX4_ahead_15 : decode cX4_ahead 15 = .ok (.ldc2_w 144, 3) := by decide +kernel
theorem dX4_ahead_18 : decode cX4_ahead 18 = .ok (.ldc2_w 146, 3) := by decide +kernel
theorem dX4_ahead_21 : decode cX4_ahead 21 = .ok (.invokestatic 49, 3) := by decide +kernel
theorem dX4_ahead_24 : decode cX4_ahead 24 = .ok (.ifCond .eq 19, 3) := by decide +kernel
theorem dX4_ahead_27 : decode cX4_ahead 27 = .ok (.iload_n 3, 1) := by decide +kernel
theorem dX4_ahead_28 : decode cX4_ahead 28 = .ok (.i2l, 1) := by decide +kernel
theorem dX4_ahead_29 : decode cX4_ahead 29 = .ok (.lconst 0, 1) := by decide +kernel
theorem dX4_ahead_30 : decode cX4_ahead 30 = .ok (.ldc2_w 148, 3) := by decide +kernel
theorem dX4_ahead_33 : decode cX4_ahead 33 = .ok (.invokestatic 49, 3) := by decide +kernel
theorem dX4_ahead_36 : decode cX4_ahead 36 = .ok (.ifCond .eq 7, 3) := by decide +kernel
theorem dX4_ahead_39 : decode cX4_ahead 39 = .ok (.iconst 1, 1) := by decide +kernel
theorem dX4_ahead_40 : decode cX4_ahead 40 = .ok (.goto 4, 3) := by decide +kernel
theorem dX4_ahead_43 : decode cX4_ahead 43 = .ok (.iconst 0, 1) := by decide +kernel
theorem dX4_ahead_44 : decode cX4_ahead 44 = .ok (.istore 4, 2) := by decide +kernel
theorem dX4_ahead_46 : decode cX4_ahead 46 = .ok (.iload 4, 2) := by decide +kernel
theorem dX4_ahead_48 : decode cX4_ahead 48 = .ok (.ifCond .eq 13, 3) := by decide +kernel
theorem dX4_ahead_51 : decode cX4_ahead 51 = .ok (.aload_n 0, 1) := by decide +kernel
theorem dX4_ahead_52 : decode cX4_ahead 52 = .ok (.iload_n 1, 1) := by decide +kernel
theorem dX4_ahead_53 : decode cX4_ahead 53 = .ok (.iload_n 2, 1) := by decide +kernel
theorem dX4_ahead_54 : decode cX4_ahead 54 = .ok (.iload_n 3, 1) := by decide +kernel
theorem dX4_ahead_55 : decode cX4_ahead 55 = .ok (.invokevirtual 150, 3) := by decide +kernel
theorem dX4_ahead_58 : decode cX4_ahead 58 = .ok (.goto 9, 3) := by decide +kernel
theorem dX4_ahead_61 : decode cX4_ahead 61 = .ok (.aload_n 0, 1) := by decide +kernel
theorem dX4_ahead_62 : decode cX4_ahead 62 = .ok (.ldc 37, 2) := by decide +kernel
theorem dX4_ahead_64 : decode cX4_ahead 64 = .ok (.invokevirtual 39, 3) := by decide +kernel
theorem dX4_ahead_67 : decode cX4_ahead 67 = .ok (.ireturn, 1) := by decide +kernel
theorem dX4_claps_0 : decode cX4_claps 0 = .ok (.iload_n 1, 1) := by decide +kernel
theorem dX4_claps_1 : decode cX4_claps 1 = .ok (.i2l, 1) := by decide +kernel
theorem dX4_claps_2 : decode cX4_claps 2 = .ok (.lconst 0, 1) := by decide +kernel
theorem dX4_claps_3 : decode cX4_claps 3 = .ok (.ldc2_w 148, 3) := by decide +kernel
theorem dX4_claps_6 : decode cX4_claps 6 = .ok (.invokestatic 49, 3) := by decide +kernel
theorem dX4_claps_9 : decode cX4_claps 9 = .ok (.ifCond .eq 11, 3) := by decide +kernel
theorem dX4_claps_12 : decode cX4_claps 12 = .ok (.aload_n 0, 1) := by decide +kernel
theorem dX4_claps_13 : decode cX4_claps 13 = .ok (.iload_n 1, 1) := by decide +kernel
theorem dX4_claps_14 : decode cX4_claps 14 = .ok (.invokevirtual 154, 3) := by decide +kernel
theorem dX4_claps_17 : decode cX4_claps 17 = .ok (.goto 9, 3) := by decide +kernel
theorem dX4_claps_20 : decode cX4_claps 20 = .ok (.aload_n 0, 1) := by decide +kernel
theorem dX4_claps_21 : decode cX4_claps 21 = .ok (.ldc 37, 2) := by decide +kernel
theorem dX4_claps_23 : decode cX4_claps 23 = .ok (.invokevirtual 39, 3) := by decide +kernel
theorem dX4_claps_26 : decode cX4_claps 26 = .ok (.ireturn, 1) := by decide +kernel
theorem dX4_bursts_0 : decode cX4_bursts 0 = .ok (.aload_n 0, 1) := by decide +kernel
theorem dX4_bursts_1 : decode cX4_bursts 1 = .ok (.iload_n 1, 1) := by decide +kernel
theorem dX4_bursts_2 : decode cX4_bursts 2 = .ok (.invokevirtual 86, 3) := by decide +kernel
theorem dX4_bursts_5 : decode cX4_bursts 5 = .ok (.ifCond .ne 10, 3) := by decide +kernel
theorem dX4_bursts_8 : decode cX4_bursts 8 = .ok (.aload_n 0, 1) := by decide +kernel
theorem dX4_bursts_9 : decode cX4_bursts 9 = .ok (.ldc 37, 2) := by decide +kernel
theorem dX4_bursts_11 : decode cX4_bursts 11 = .ok (.invokevirtual 39, 3) := by decide +kernel
theorem dX4_bursts_14 : decode cX4_bursts 14 = .ok (.ireturn, 1) := by decide +kernel
theorem dX4_bursts_15 : decode cX4_bursts 15 = .ok (.aload_n 0, 1) := by decide +kernel
theorem dX4_bursts_16 : decode cX4_bursts 16 = .ok (.getfield 7, 3) := by decide +kernel
theorem dX4_bursts_19 : decode cX4_bursts 19 = .ok (.aload_n 0, 1) := by decide +kernel
theorem dX4_bursts_20 : decode cX4_bursts 20 = .ok (.getfield 19, 3) := by decide +kernel
theorem dX4_bursts_23 : decode cX4_bursts 23 = .ok (.invokestatic 140, 3) := by decide +kernel
theorem dX4_bursts_26 : decode cX4_bursts 26 = .ok (.aload_n 0, 1) := by decide +kernel
theorem dX4_bursts_27 : decode cX4_bursts 27 = .ok (.iload_n 1, 1) := by decide +kernel
theorem dX4_bursts_28 : decode cX4_bursts 28 = .ok (.bipush 6, 2) := by decide +kernel
theorem dX4_bursts_30 : decode cX4_bursts 30 = .ok (.invokevirtual 57, 3) := by decide +kernel
theorem dX4_bursts_33 : decode cX4_bursts 33 = .ok (.istore_n 2, 1) := by decide +kernel
theorem dX4_bursts_34 : decode cX4_bursts 34 = .ok (.iconst 0, 1) := by decide +kernel
theorem dX4_bursts_35 : decode cX4_bursts 35 = .ok (.istore_n 3, 1) := by decide +kernel
theorem dX4_bursts_36 : decode cX4_bursts 36 = .ok (.iload_n 3, 1) := by decide +kernel
theorem dX4_bursts_37 : decode cX4_bursts 37 = .ok (.bipush 100, 2) := by decide +kernel
theorem dX4_bursts_39 : decode cX4_bursts 39 = .ok (.if_icmp .gt 24, 3) := by decide +kernel
theorem dX4_bursts_42 : decode cX4_bursts 42 = .ok (.aload_n 0, 1) := by decide +kernel
theorem dX4_bursts_43 : decode cX4_bursts 43 = .ok (.iload_n 1, 1) := by decide +kernel
theorem dX4_bursts_44 : decode cX4_bursts 44 = .ok (.bipush 6, 2) := by decide +kernel
theorem dX4_bursts_46 : decode cX4_bursts 46 = .ok (.invokevirtual 57, 3) := by decide +kernel
theorem dX4_bursts_49 : decode cX4_bursts 49 = .ok (.iload_n 2, 1) := by decide +kernel
theorem dX4_bursts_50 : decode cX4_bursts 50 = .ok (.if_icmp .ne 13, 3) := by decide +kernel
theorem dX4_bursts_53 : decode cX4_bursts 53 = .ok (.aload_n 0, 1) := by decide +kernel
theorem dX4_bursts_54 : decode cX4_bursts 54 = .ok (.invokevirtual 119, 3) := by decide +kernel
theorem dX4_bursts_57 : decode cX4_bursts 57 = .ok (.iinc 3 1, 3) := by decide +kernel
theorem dX4_bursts_60 : decode cX4_bursts 60 = .ok (.goto (-24), 3) := by decide +kernel
theorem dX4_bursts_63 : decode cX4_bursts 63 = .ok (.aload_n 0, 1) := by decide +kernel
theorem dX4_bursts_64 : decode cX4_bursts 64 = .ok (.getfield 19, 3) := by decide +kernel
theorem dX4_bursts_67 : decode cX4_bursts 67 = .ok (.aload_n 0, 1) := by decide +kernel
theorem dX4_bursts_68 : decode cX4_bursts 68 = .ok (.getfield 7, 3) := by decide +kernel
theorem dX4_bursts_71 : decode cX4_bursts 71 = .ok (.invokestatic 140, 3) := by decide +kernel
theorem dX4_bursts_74 : decode cX4_bursts 74 = .ok (.iload_n 3, 1) := by decide +kernel
theorem dX4_bursts_75 : decode cX4_bursts 75 = .ok (.bipush 100, 2) := by decide +kernel
theorem dX4_bursts_77 : decode cX4_bursts 77 = .ok (.if_icmp .gt 7, 3) := by decide +kernel
theorem dX4_bursts_80 : decode cX4_bursts 80 = .ok (.iload_n 3, 1) := by decide +kernel
theorem dX4_bursts_81 : decode cX4_bursts 81 = .ok (.goto 9, 3) := by decide +kernel
theorem dX4_bursts_84 : decode cX4_bursts 84 = .ok (.aload_n 0, 1) := by decide +kernel
theorem dX4_bursts_85 : decode cX4_bursts 85 = .ok (.ldc 38, 2) := by decide +kernel
theorem dX4_bursts_87 : decode cX4_bursts 87 = .ok (.invokevirtual 39, 3) := by decide +kernel
theorem dX4_bursts_90 : decode cX4_bursts 90 = .ok (.ireturn, 1) := by decide +kernel
theorem dX4_when_0 : decode cX4_when 0 = .ok (.aload_n 0, 1) := by decide +kernel
theorem dX4_when_1 : decode cX4_when 1 = .ok (.iload_n 1, 1) := by decide +kernel
theorem dX4_when_2 : decode cX4_when 2 = .ok (.invokevirtual 86, 3) := by decide +kernel
theorem dX4_when_5 : decode cX4_when 5 = .ok (.ifCond .eq 15, 3) := by decide +kernel
theorem dX4_when_8 : decode cX4_when 8 = .ok (.iload_n 2, 1) := by decide +kernel
theorem dX4_when_9 : decode cX4_when 9 = .ok (.i2l, 1) := by decide +kernel
theorem dX4_when_10 : decode cX4_when 10 = .ok (.lconst 0, 1) := by decide +kernel
theorem dX4_when_11 : decode cX4_when 11 = .ok (.ldc2_w 157, 3) := by decide +kernel
theorem dX4_when_14 : decode cX4_when 14 = .ok (.invokestatic 49, 3) := by decide +kernel
theorem dX4_when_17 : decode cX4_when 17 = .ok (.ifCond .ne 10, 3) := by decide +kernel
theorem dX4_when_20 : decode cX4_when 20 = .ok (.aload_n 0, 1) := by decide +kernel
theorem dX4_when_21 : decode cX4_when 21 = .ok (.ldc 37, 2) := by decide +kernel
theorem dX4_when_23 : decode cX4_when 23 = .ok (.invokevirtual 39, 3) := by decide +kernel
theorem dX4_when_26 : decode cX4_when 26 = .ok (.ireturn, 1) := by decide +kernel
theorem dX4_when_27 : decode cX4_when 27 = .ok (.aload_n 0, 1) := by decide +kernel
theorem dX4_when_28 : decode cX4_when 28 = .ok (.getfield 7, 3) := by decide +kernel
theorem dX4_when_31 : decode cX4_when 31 = .ok (.aload_n 0, 1) := by decide +kernel
theorem dX4_when_32 : decode cX4_when 32 = .ok (.getfield 19, 3) := by decide +kernel
theorem dX4_when_35 : decode cX4_when 35 = .ok (.invokestatic 140, 3) := by decide +kernel
theorem dX4_when_38 : decode cX4_when 38 = .ok (.iconst 0, 1) := by decide +kernel
theorem dX4_when_39 : decode cX4_when 39 = .ok (.istore_n 3, 1) := by decide +kernel
theorem dX4_when_40 : decode cX4_when 40 = .ok (.iload_n 3, 1) := by decide +kernel
theorem dX4_when_41 : decode cX4_when 41 = .ok (.bipush 100, 2) := by decide +kernel
theorem dX4_when_43 : decode cX4_when 43 = .ok (.if_icmp .gt 22, 3) := by decide +kernel
theorem dX4_when_46 : decode cX4_when 46 = .ok (.aload_n 0, 1) := by decide +kernel
theorem dX4_when_47 : decode cX4_when 47 = .ok (.iload_n 1, 1) := by decide +kernel
theorem dX4_when_48 : decode cX4_when 48 = .ok (.invokevirtual 89, 3) := by decide +kernel
theorem dX4_when_51 : decode cX4_when 51 = .ok (.iload_n 2, 1) := by decide +kernel
theorem dX4_when_52 : decode cX4_when 52 = .ok (.if_icmp .ge 13, 3) := by decide +kernel
theorem dX4_when_55 : decode cX4_when 55 = .ok (.aload_n 0, 1) := by decide +kernel
theorem dX4_when_56 : decode cX4_when 56 = .ok (.invokevirtual 119, 3) := by decide +kernel
theorem dX4_when_59 : decode cX4_when 59 = .ok (.iinc 3 1, 3) := by decide +kernel
theorem dX4_when_62 : decode cX4_when 62 = .ok (.goto (-22), 3) := by decide +kernel
theorem dX4_when_65 : decode cX4_when 65 = .ok (.aload_n 0, 1) := by decide +kernel
theorem dX4_when_66 : decode cX4_when 66 = .ok (.getfield 19, 3) := by decide +kernel
theorem dX4_when_69 : decode cX4_when 69 = .ok (.aload_n 0, 1) := by decide +kernel
theorem dX4_when_70 : decode cX4_when 70 = .ok (.getfield 7, 3) := by decide +kernel
theorem dX4_when_73 : decode cX4_when 73 = .ok (.invokestatic 140, 3) := by decide +kernel
theorem dX4_when_76 : decode cX4_when 76 = .ok (.iload_n 3, 1) := by decide +kernel
theorem dX4_when_77 : decode cX4_when 77 = .ok (.bipush 100, 2) := by decide +kernel
theorem dX4_when_79 : decode cX4_when 79 = .ok (.if_icmp .gt 7, 3) := by decide +kernel
theorem dX4_when_82 : decode cX4_when 82 = .ok (.iload_n 3, 1) := by decide +kernel
theorem dX4_when_83 : decode cX4_when 83 = .ok (.goto 9, 3) := by decide +kernel
theorem dX4_when_86 : decode cX4_when 86 = .ok (.aload_n 0, 1) := by decide +kernel
theorem dX4_when_87 : decode cX4_when 87 = .ok (.ldc 38, 2) := by decide +kernel
theorem dX4_when_89 : decode cX4_when 89 = .ok (.invokevirtual 39, 3) := by decide +kernel
theorem dX4_when_92 : decode cX4_when 92 = .ok (.ireturn, 1) := by decide +kernel
theorem dX4_chain_0 : decode cX4_chain 0 = .ok (.iload_n 1, 1) := by decide +kernel
theorem dX4_chain_1 : decode cX4_chain 1 = .ok (.i2l, 1) := by decide +kernel
theorem dX4_chain_2 : decode cX4_chain 2 = .ok (.lconst 0, 1) := by decide +kernel
theorem dX4_chain_3 : decode cX4_chain 3 = .ok (.ldc2_w 122, 3) := by decide +kernel
theorem dX4_chain_6 : decode cX4_chain 6 = .ok (.invokestatic 49, 3) := by decide +kernel
theorem dX4_chain_9 : decode cX4_chain 9 = .ok (.ifCond .ne 10, 3) := by decide +kernel
theorem dX4_chain_12 : decode cX4_chain 12 = .ok (.aload_n 0, 1) := by decide +kernel
theorem dX4_chain_13 : decode cX4_chain 13 = .ok (.ldc 37, 2) := by decide +kernel
theorem dX4_chain_15 : decode cX4_chain 15 = .ok (.invokevirtual 39, 3) := by decide +kernel
theorem dX4_chain_18 : decode cX4_chain 18 = .ok (.ireturn, 1) := by decide +kernel
theorem dX4_chain_19 : decode cX4_chain 19 = .ok (.aload_n 0, 1) := by decide +kernel
theorem dX4_chain_20 : decode cX4_chain 20 = .ok (.getfield 7, 3) := by decide +kernel
theorem dX4_chain_23 : decode cX4_chain 23 = .ok (.aload_n 0, 1) := by decide +kernel
theorem dX4_chain_24 : decode cX4_chain 24 = .ok (.getfield 19, 3) := by decide +kernel
theorem dX4_chain_27 : decode cX4_chain 27 = .ok (.invokestatic 140, 3) := by decide +kernel
theorem dX4_chain_30 : decode cX4_chain 30 = .ok (.aload_n 0, 1) := by decide +kernel
theorem dX4_chain_31 : decode cX4_chain 31 = .ok (.iload_n 1, 1) := by decide +kernel
theorem dX4_chain_32 : decode cX4_chain 32 = .ok (.invokevirtual 125, 3) := by decide +kernel
theorem dX4_chain_35 : decode cX4_chain 35 = .ok (.iconst 0, 1) := by decide +kernel
theorem dX4_chain_36 : decode cX4_chain 36 = .ok (.istore_n 2, 1) := by decide +kernel
theorem dX4_chain_37 : decode cX4_chain 37 = .ok (.iconst 0, 1) := by decide +kernel
theorem dX4_chain_38 : decode cX4_chain 38 = .ok (.istore_n 3, 1) := by decide +kernel
theorem dX4_chain_39 : decode cX4_chain 39 = .ok (.iload_n 3, 1) := by decide +kernel
theorem dX4_chain_40 : decode cX4_chain 40 = .ok (.aload_n 0, 1) := by decide +kernel
theorem dX4_chain_41 : decode cX4_chain 41 = .ok (.getfield 7, 3) := by decide +kernel
theorem dX4_chain_44 : decode cX4_chain 44 = .ok (.iconst 0, 1) := by decide +kernel
theorem dX4_chain_45 : decode cX4_chain 45 = .ok (.iaload, 1) := by decide +kernel
theorem dX4_chain_46 : decode cX4_chain 46 = .ok (.if_icmp .ge 40, 3) := by decide +kernel
theorem dX4_chain_49 : decode cX4_chain 49 = .ok (.iload_n 2, 1) := by decide +kernel
theorem dX4_chain_50 : decode cX4_chain 50 = .ok (.aload_n 0, 1) := by decide +kernel
theorem dX4_chain_51 : decode cX4_chain 51 = .ok (.iload_n 3, 1) := by decide +kernel
theorem dX4_chain_52 : decode cX4_chain 52 = .ok (.bipush 6, 2) := by decide +kernel
theorem dX4_chain_54 : decode cX4_chain 54 = .ok (.invokevirtual 57, 3) := by decide +kernel
theorem dX4_chain_57 : decode cX4_chain 57 = .ok (.aload_n 0, 1) := by decide +kernel
theorem dX4_chain_58 : decode cX4_chain 58 = .ok (.getfield 19, 3) := by decide +kernel
theorem dX4_chain_61 : decode cX4_chain 61 = .ok (.iload_n 3, 1) := by decide +kernel
theorem dX4_chain_62 : decode cX4_chain 62 = .ok (.bipush 6, 2) := by decide +kernel
theorem dX4_chain_64 : decode cX4_chain 64 = .ok (.invokestatic 70, 3) := by decide +kernel
theorem dX4_chain_67 : decode cX4_chain 67 = .ok (.iaload, 1) := by decide +kernel
theorem dX4_chain_68 : decode cX4_chain 68 = .ok (.if_icmp .le 9, 3) := by decide +kernel
theorem dX4_chain_71 : decode cX4_chain 71 = .ok (.iconst 1, 1) := by decide +kernel
theorem dX4_chain_72 : decode cX4_chain 72 = .ok (.iload_n 3, 1) := by decide +kernel
theorem dX4_chain_73 : decode cX4_chain 73 = .ok (.ishl, 1) := by decide +kernel
theorem dX4_chain_74 : decode cX4_chain 74 = .ok (.goto 4, 3) := by decide +kernel
theorem dX4_chain_77 : decode cX4_chain 77 = .ok (.iconst 0, 1) := by decide +kernel
theorem dX4_chain_78 : decode cX4_chain 78 = .ok (.ior, 1) := by decide +kernel
theorem dX4_chain_79 : decode cX4_chain 79 = .ok (.istore_n 2, 1) := by decide +kernel
theorem dX4_chain_80 : decode cX4_chain 80 = .ok (.iinc 3 1, 3) := by decide +kernel
theorem dX4_chain_83 : decode cX4_chain 83 = .ok (.goto (-44), 3) := by decide +kernel
theorem dX4_chain_86 : decode cX4_chain 86 = .ok (.aload_n 0, 1) := by decide +kernel
theorem dX4_chain_87 : decode cX4_chain 87 = .ok (.getfield 19, 3) := by decide +kernel
theorem dX4_chain_90 : decode cX4_chain 90 = .ok (.aload_n 0, 1) := by decide +kernel
theorem dX4_chain_91 : decode cX4_chain 91 = .ok (.getfield 7, 3) := by decide +kernel
theorem dX4_chain_94 : decode cX4_chain 94 = .ok (.invokestatic 140, 3) := by decide +kernel
theorem dX4_chain_97 : decode cX4_chain 97 = .ok (.iload_n 2, 1) := by decide +kernel
theorem dX4_chain_98 : decode cX4_chain 98 = .ok (.ireturn, 1) := by decide +kernel
theorem dX4_isAsked_0 : decode cX4_isAsked 0 = .ok (.aload_n 0, 1) := by decide +kernel
theorem dX4_isAsked_1 : decode cX4_isAsked 1 = .ok (.iload_n 1, 1) := by decide +kernel
theorem dX4_isAsked_2 : decode cX4_isAsked 2 = .ok (.invokevirtual 86, 3) := by decide +kernel
theorem dX4_isAsked_5 : decode cX4_isAsked 5 = .ok (.ifCond .eq 19, 3) := by decide +kernel
theorem dX4_isAsked_8 : decode cX4_isAsked 8 = .ok (.iload_n 2, 1) := by decide +kernel
theorem dX4_isAsked_9 : decode cX4_isAsked 9 = .ok (.i2l, 1) := by decide +kernel
theorem dX4_isAsked_10 : decode cX4_isAsked 10 = .ok (.lconst 0, 1) := by decide +kernel
theorem dX4_isAsked_11 : decode cX4_isAsked 11 = .ok (.ldc2_w 159, 3) := by decide +kernel
theorem dX4_isAsked_14 : decode cX4_isAsked 14 = .ok (.invokestatic 49, 3) := by decide +kernel
theorem dX4_isAsked_17 : decode cX4_isAsked 17 = .ok (.ifCond .eq 7, 3) := by decide +kernel
theorem dX4_isAsked_20 : decode cX4_isAsked 20 = .ok (.iconst 1, 1) := by decide +kernel
theorem dX4_isAsked_21 : decode cX4_isAsked 21 = .ok (.goto 4, 3) := by decide +kernel
theorem dX4_isAsked_24 : decode cX4_isAsked 24 = .ok (.iconst 0, 1) := by decide +kernel
theorem dX4_isAsked_25 : decode cX4_isAsked 25 = .ok (.ireturn, 1) := by decide +kernel
theorem dX4_loudestBy_0 : decode cX4_loudestBy 0 = .ok (.aload_n 0, 1) := by decide +kernel
theorem dX4_loudestBy_1 : decode cX4_loudestBy 1 = .ok (.iload_n 1, 1) := by decide +kernel
theorem dX4_loudestBy_2 : decode cX4_loudestBy 2 = .ok (.iload_n 2, 1) := by decide +kernel
theorem dX4_loudestBy_3 : decode cX4_loudestBy 3 = .ok (.invokevirtual 57, 3) := by decide +kernel
theorem dX4_loudestBy_6 : decode cX4_loudestBy 6 = .ok (.istore 4, 2) := by decide +kernel
theorem dX4_loudestBy_8 : decode cX4_loudestBy 8 = .ok (.iconst 0, 1) := by decide +kernel
theorem dX4_loudestBy_9 : decode cX4_loudestBy 9 = .ok (.istore 5, 2) := by decide +kernel
theorem dX4_loudestBy_11 : decode cX4_loudestBy 11 = .ok (.iconst (-1), 1) := by decide +kernel
theorem dX4_loudestBy_12 : decode cX4_loudestBy 12 = .ok (.istore 6, 2) := by decide +kernel
theorem dX4_loudestBy_14 : decode cX4_loudestBy 14 = .ok (.iconst 0, 1) := by decide +kernel
theorem dX4_loudestBy_15 : decode cX4_loudestBy 15 = .ok (.istore 7, 2) := by decide +kernel
theorem dX4_loudestBy_17 : decode cX4_loudestBy 17 = .ok (.iload 7, 2) := by decide +kernel
theorem dX4_loudestBy_19 : decode cX4_loudestBy 19 = .ok (.iload_n 2, 1) := by decide +kernel
theorem dX4_loudestBy_20 : decode cX4_loudestBy 20 = .ok (.invokestatic 98, 3) := by decide +kernel
theorem dX4_loudestBy_23 : decode cX4_loudestBy 23 = .ok (.if_icmp .gt 56, 3) := by decide +kernel
theorem dX4_loudestBy_26 : decode cX4_loudestBy 26 = .ok (.aload_n 0, 1) := by decide +kernel
theorem dX4_loudestBy_27 : decode cX4_loudestBy 27 = .ok (.getfield 7, 3) := by decide +kernel
theorem dX4_loudestBy_30 : decode cX4_loudestBy 30 = .ok (.iload_n 1, 1) := by decide +kernel
theorem dX4_loudestBy_31 : decode cX4_loudestBy 31 = .ok (.iload_n 2, 1) := by decide +kernel
theorem dX4_loudestBy_32 : decode cX4_loudestBy 32 = .ok (.invokestatic 70, 3) := by decide +kernel
theorem dX4_loudestBy_35 : decode cX4_loudestBy 35 = .ok (.iload 7, 2) := by decide +kernel
theorem dX4_loudestBy_37 : decode cX4_loudestBy 37 = .ok (.iastore, 1) := by decide +kernel
theorem dX4_loudestBy_38 : decode cX4_loudestBy 38 = .ok (.aload_n 0, 1) := by decide +kernel
theorem dX4_loudestBy_39 : decode cX4_loudestBy 39 = .ok (.iload_n 1, 1) := by decide +kernel
theorem dX4_loudestBy_40 : decode cX4_loudestBy 40 = .ok (.bipush 7, 2) := by decide +kernel
theorem dX4_loudestBy_42 : decode cX4_loudestBy 42 = .ok (.iload_n 3, 1) := by decide +kernel
theorem dX4_loudestBy_43 : decode cX4_loudestBy 43 = .ok (.invokevirtual 150, 3) := by decide +kernel
theorem dX4_loudestBy_46 : decode cX4_loudestBy 46 = .ok (.istore 8, 2) := by decide +kernel
theorem dX4_loudestBy_48 : decode cX4_loudestBy 48 = .ok (.iload 8, 2) := by decide +kernel
theorem dX4_loudestBy_50 : decode cX4_loudestBy 50 = .ok (.iload 6, 2) := by decide +kernel
theorem dX4_loudestBy_52 : decode cX4_loudestBy 52 = .ok (.if_icmp .le 8, 3) := by decide +kernel
theorem dX4_loudestBy_55 : decode cX4_loudestBy 55 = .ok (.iload 7, 2) := by decide +kernel
theorem dX4_loudestBy_57 : decode cX4_loudestBy 57 = .ok (.goto 5, 3) := by decide +kernel
theorem dX4_loudestBy_60 : decode cX4_loudestBy 60 = .ok (.iload 5, 2) := by decide +kernel
theorem dX4_loudestBy_62 : decode cX4_loudestBy 62 = .ok (.istore 5, 2) := by decide +kernel
theorem dX4_loudestBy_64 : decode cX4_loudestBy 64 = .ok (.iload 6, 2) := by decide +kernel
theorem dX4_loudestBy_66 : decode cX4_loudestBy 66 = .ok (.iload 8, 2) := by decide +kernel
theorem dX4_loudestBy_68 : decode cX4_loudestBy 68 = .ok (.invokestatic 80, 3) := by decide +kernel
theorem dX4_loudestBy_71 : decode cX4_loudestBy 71 = .ok (.istore 6, 2) := by decide +kernel
theorem dX4_loudestBy_73 : decode cX4_loudestBy 73 = .ok (.iinc 7 1, 3) := by decide +kernel
theorem dX4_loudestBy_76 : decode cX4_loudestBy 76 = .ok (.goto (-59), 3) := by decide +kernel
theorem dX4_loudestBy_79 : decode cX4_loudestBy 79 = .ok (.aload_n 0, 1) := by decide +kernel
theorem dX4_loudestBy_80 : decode cX4_loudestBy 80 = .ok (.getfield 7, 3) := by decide +kernel
theorem dX4_loudestBy_83 : decode cX4_loudestBy 83 = .ok (.iload_n 1, 1) := by decide +kernel
theorem dX4_loudestBy_84 : decode cX4_loudestBy 84 = .ok (.iload_n 2, 1) := by decide +kernel
theorem dX4_loudestBy_85 : decode cX4_loudestBy 85 = .ok (.invokestatic 70, 3) := by decide +kernel
theorem dX4_loudestBy_88 : decode cX4_loudestBy 88 = .ok (.iload 4, 2) := by decide +kernel
theorem dX4_loudestBy_90 : decode cX4_loudestBy 90 = .ok (.iastore, 1) := by decide +kernel
theorem dX4_loudestBy_91 : decode cX4_loudestBy 91 = .ok (.iload 5, 2) := by decide +kernel
theorem dX4_loudestBy_93 : decode cX4_loudestBy 93 = .ok (.ireturn, 1) := by decide +kernel
theorem dX4_lay_0 : decode cX4_lay 0 = .ok (.aload_n 0, 1) := by decide +kernel
theorem dX4_lay_1 : decode cX4_lay 1 = .ok (.iload_n 1, 1) := by decide +kernel
theorem dX4_lay_2 : decode cX4_lay 2 = .ok (.iload_n 2, 1) := by decide +kernel
theorem dX4_lay_3 : decode cX4_lay 3 = .ok (.invokevirtual 161, 3) := by decide +kernel
theorem dX4_lay_6 : decode cX4_lay 6 = .ok (.ifCond .eq 13, 3) := by decide +kernel
theorem dX4_lay_9 : decode cX4_lay 9 = .ok (.aload_n 0, 1) := by decide +kernel
theorem dX4_lay_10 : decode cX4_lay 10 = .ok (.iload_n 1, 1) := by decide +kernel
theorem dX4_lay_11 : decode cX4_lay 11 = .ok (.iconst 1, 1) := by decide +kernel
theorem dX4_lay_12 : decode cX4_lay 12 = .ok (.iload_n 2, 1) := by decide +kernel
theorem dX4_lay_13 : decode cX4_lay 13 = .ok (.invokevirtual 165, 3) := by decide +kernel
theorem dX4_lay_16 : decode cX4_lay 16 = .ok (.goto 9, 3) := by decide +kernel
theorem dX4_lay_19 : decode cX4_lay 19 = .ok (.aload_n 0, 1) := by decide +kernel
theorem dX4_lay_20 : decode cX4_lay 20 = .ok (.ldc 37, 2) := by decide +kernel
theorem dX4_lay_22 : decode cX4_lay 22 = .ok (.invokevirtual 39, 3) := by decide +kernel
theorem dX4_lay_25 : decode cX4_lay 25 = .ok (.ireturn, 1) := by decide +kernel
theorem dX4_kindFor_0 : decode cX4_kindFor 0 = .ok (.aload_n 0, 1) := by decide +kernel
theorem dX4_kindFor_1 : decode cX4_kindFor 1 = .ok (.iload_n 1, 1) := by decide +kernel
theorem dX4_kindFor_2 : decode cX4_kindFor 2 = .ok (.iload_n 2, 1) := by decide +kernel
theorem dX4_kindFor_3 : decode cX4_kindFor 3 = .ok (.invokevirtual 161, 3) := by decide +kernel
theorem dX4_kindFor_6 : decode cX4_kindFor 6 = .ok (.ifCond .eq 13, 3) := by decide +kernel
theorem dX4_kindFor_9 : decode cX4_kindFor 9 = .ok (.aload_n 0, 1) := by decide +kernel
theorem dX4_kindFor_10 : decode cX4_kindFor 10 = .ok (.iload_n 1, 1) := by decide +kernel
theorem dX4_kindFor_11 : decode cX4_kindFor 11 = .ok (.iconst 0, 1) := by decide +kernel
theorem dX4_kindFor_12 : decode cX4_kindFor 12 = .ok (.iload_n 2, 1) := by decide +kernel
theorem dX4_kindFor_13 : decode cX4_kindFor 13 = .ok (.invokevirtual 165, 3) := by decide +kernel
theorem dX4_kindFor_16 : decode cX4_kindFor 16 = .ok (.goto 9, 3) := by decide +kernel
theorem dX4_kindFor_19 : decode cX4_kindFor 19 = .ok (.aload_n 0, 1) := by decide +kernel
theorem dX4_kindFor_20 : decode cX4_kindFor 20 = .ok (.ldc 37, 2) := by decide +kernel
theorem dX4_kindFor_22 : decode cX4_kindFor 22 = .ok (.invokevirtual 39, 3) := by decide +kernel
theorem dX4_kindFor_25 : decode cX4_kindFor 25 = .ok (.ireturn, 1) := by decide +kernel
theorem dX4_pitchFor_0 : decode cX4_pitchFor 0 = .ok (.aload_n 0, 1) := by decide +kernel
theorem dX4_pitchFor_1 : decode cX4_pitchFor 1 = .ok (.iload_n 1, 1) := by decide +kernel
theorem dX4_pitchFor_2 : decode cX4_pitchFor 2 = .ok (.iload_n 2, 1) := by decide +kernel
theorem dX4_pitchFor_3 : decode cX4_pitchFor 3 = .ok (.invokevirtual 161, 3) := by decide +kernel
theorem dX4_pitchFor_6 : decode cX4_pitchFor 6 = .ok (.ifCond .eq 13, 3) := by decide +kernel
theorem dX4_pitchFor_9 : decode cX4_pitchFor 9 = .ok (.aload_n 0, 1) := by decide +kernel
theorem dX4_pitchFor_10 : decode cX4_pitchFor 10 = .ok (.iload_n 1, 1) := by decide +kernel
theorem dX4_pitchFor_11 : decode cX4_pitchFor 11 = .ok (.iconst 3, 1) := by decide +kernel
theorem dX4_pitchFor_12 : decode cX4_pitchFor 12 = .ok (.iload_n 2, 1) := by decide +kernel
theorem dX4_pitchFor_13 : decode cX4_pitchFor 13 = .ok (.invokevirtual 165, 3) := by decide +kernel
theorem dX4_pitchFor_16 : decode cX4_pitchFor 16 = .ok (.goto 9, 3) := by decide +kernel
theorem dX4_pitchFor_19 : decode cX4_pitchFor 19 = .ok (.aload_n 0, 1) := by decide +kernel
theorem dX4_pitchFor_20 : decode cX4_pitchFor 20 = .ok (.ldc 37, 2) := by decide +kernel
theorem dX4_pitchFor_22 : decode cX4_pitchFor 22 = .ok (.invokevirtual 39, 3) := by decide +kernel
theorem dX4_pitchFor_25 : decode cX4_pitchFor 25 = .ok (.ireturn, 1) := by decide +kernel
theorem dX4_hoopsFor_0 : decode cX4_hoopsFor 0 = .ok (.aload_n 0, 1) := by decide +kernel
theorem dX4_hoopsFor_1 : decode cX4_hoopsFor 1 = .ok (.iload_n 1, 1) := by decide +kernel
theorem dX4_hoopsFor_2 : decode cX4_hoopsFor 2 = .ok (.invokevirtual 86, 3) := by decide +kernel
theorem dX4_hoopsFor_5 : decode cX4_hoopsFor 5 = .ok (.ifCond .eq 15, 3) := by decide +kernel
theorem dX4_hoopsFor_8 : decode cX4_hoopsFor 8 = .ok (.iload_n 2, 1) := by decide +kernel
theorem dX4_hoopsFor_9 : decode cX4_hoopsFor 9 = .ok (.i2l, 1) := by decide +kernel
theorem dX4_hoopsFor_10 : decode cX4_hoopsFor 10 = .ok (.lconst 0, 1) := by decide +kernel
theorem dX4_hoopsFor_11 : decode cX4_hoopsFor 11 = .ok (.ldc2_w 168, 3) := by decide +kernel
theorem dX4_hoopsFor_14 : decode cX4_hoopsFor 14 = .ok (.invokestatic 49, 3) := by decide +kernel
theorem dX4_hoopsFor_17 : decode cX4_hoopsFor 17 = .ok (.ifCond .ne 10, 3) := by decide +kernel
theorem dX4_hoopsFor_20 : decode cX4_hoopsFor 20 = .ok (.aload_n 0, 1) := by decide +kernel
theorem dX4_hoopsFor_21 : decode cX4_hoopsFor 21 = .ok (.ldc 37, 2) := by decide +kernel
theorem dX4_hoopsFor_23 : decode cX4_hoopsFor 23 = .ok (.invokevirtual 39, 3) := by decide +kernel
theorem dX4_hoopsFor_26 : decode cX4_hoopsFor 26 = .ok (.ireturn, 1) := by decide +kernel
theorem dX4_hoopsFor_27 : decode cX4_hoopsFor 27 = .ok (.aload_n 0, 1) := by decide +kernel
theorem dX4_hoopsFor_28 : decode cX4_hoopsFor 28 = .ok (.iload_n 1, 1) := by decide +kernel
theorem dX4_hoopsFor_29 : decode cX4_hoopsFor 29 = .ok (.iconst 4, 1) := by decide +kernel
theorem dX4_hoopsFor_30 : decode cX4_hoopsFor 30 = .ok (.invokevirtual 57, 3) := by decide +kernel
theorem dX4_hoopsFor_33 : decode cX4_hoopsFor 33 = .ok (.istore_n 3, 1) := by decide +kernel
theorem dX4_hoopsFor_34 : decode cX4_hoopsFor 34 = .ok (.iconst (-1), 1) := by decide +kernel
theorem dX4_hoopsFor_35 : decode cX4_hoopsFor 35 = .ok (.istore 4, 2) := by decide +kernel
theorem dX4_hoopsFor_37 : decode cX4_hoopsFor 37 = .ok (.iconst 0, 1) := by decide +kernel
theorem dX4_hoopsFor_38 : decode cX4_hoopsFor 38 = .ok (.istore 5, 2) := by decide +kernel
theorem dX4_hoopsFor_40 : decode cX4_hoopsFor 40 = .ok (.iload 5, 2) := by decide +kernel
theorem dX4_hoopsFor_42 : decode cX4_hoopsFor 42 = .ok (.sipush 200, 3) := by decide +kernel
theorem dX4_hoopsFor_45 : decode cX4_hoopsFor 45 = .ok (.if_icmp .gt 52, 3) := by decide +kernel
theorem dX4_hoopsFor_48 : decode cX4_hoopsFor 48 = .ok (.iload 4, 2) := by decide +kernel
theorem dX4_hoopsFor_50 : decode cX4_hoopsFor 50 = .ok (.ifCond .ge 47, 3) := by decide +kernel
theorem dX4_hoopsFor_53 : decode cX4_hoopsFor 53 = .ok (.aload_n 0, 1) := by decide +kernel
theorem dX4_hoopsFor_54 : decode cX4_hoopsFor 54 = .ok (.getfield 7, 3) := by decide +kernel
theorem dX4_hoopsFor_57 : decode cX4_hoopsFor 57 = .ok (.iload_n 1, 1) := by decide +kernel
theorem dX4_hoopsFor_58 : decode cX4_hoopsFor 58 = .ok (.iconst 4, 1) := by decide +kernel
theorem dX4_hoopsFor_59 : decode cX4_hoopsFor 59 = .ok (.invokestatic 70, 3) := by decide +kernel
theorem dX4_hoopsFor_62 : decode cX4_hoopsFor 62 = .ok (.iload 5, 2) := by decide +kernel
theorem dX4_hoopsFor_64 : decode cX4_hoopsFor 64 = .ok (.iastore, 1) := by decide +kernel
theorem dX4_hoopsFor_65 : decode cX4_hoopsFor 65 = .ok (.aload_n 0, 1) := by decide +kernel
theorem dX4_hoopsFor_66 : decode cX4_hoopsFor 66 = .ok (.iload_n 1, 1) := by decide +kernel
theorem dX4_hoopsFor_67 : decode cX4_hoopsFor 67 = .ok (.bipush 6, 2) := by decide +kernel
theorem dX4_hoopsFor_69 : decode cX4_hoopsFor 69 = .ok (.iload_n 2, 1) := by decide +kernel
theorem dX4_hoopsFor_70 : decode cX4_hoopsFor 70 = .ok (.invokevirtual 150, 3) := by decide +kernel
theorem dX4_hoopsFor_73 : decode cX4_hoopsFor 73 = .ok (.aload_n 0, 1) := by decide +kernel
theorem dX4_hoopsFor_74 : decode cX4_hoopsFor 74 = .ok (.iload_n 1, 1) := by decide +kernel
theorem dX4_hoopsFor_75 : decode cX4_hoopsFor 75 = .ok (.bipush 6, 2) := by decide +kernel
theorem dX4_hoopsFor_77 : decode cX4_hoopsFor 77 = .ok (.invokevirtual 57, 3) := by decide +kernel
theorem dX4_hoopsFor_80 : decode cX4_hoopsFor 80 = .ok (.if_icmp .ne 8, 3) := by decide +kernel
theorem dX4_hoopsFor_83 : decode cX4_hoopsFor 83 = .ok (.iload 5, 2) := by decide +kernel
theorem dX4_hoopsFor_85 : decode cX4_hoopsFor 85 = .ok (.goto 4, 3) := by decide +kernel
theorem dX4_hoopsFor_88 : decode cX4_hoopsFor 88 = .ok (.iconst (-1), 1) := by decide +kernel
theorem dX4_hoopsFor_89 : decode cX4_hoopsFor 89 = .ok (.istore 4, 2) := by decide +kernel
theorem dX4_hoopsFor_91 : decode cX4_hoopsFor 91 = .ok (.iinc 5 1, 3) := by decide +kernel
theorem dX4_hoopsFor_94 : decode cX4_hoopsFor 94 = .ok (.goto (-54), 3) := by decide +kernel
theorem dX4_hoopsFor_97 : decode cX4_hoopsFor 97 = .ok (.aload_n 0, 1) := by decide +kernel
theorem dX4_hoopsFor_98 : decode cX4_hoopsFor 98 = .ok (.getfield 7, 3) := by decide +kernel
theorem dX4_hoopsFor_101 : decode cX4_hoopsFor 101 = .ok (.iload_n 1, 1) := by decide +kernel
theorem dX4_hoopsFor_102 : decode cX4_hoopsFor 102 = .ok (.iconst 4, 1) := by decide +kernel
theorem dX4_hoopsFor_103 : decode cX4_hoopsFor 103 = .ok (.invokestatic 70, 3) := by decide +kernel
theorem dX4_hoopsFor_106 : decode cX4_hoopsFor 106 = .ok (.iload_n 3, 1) := by decide +kernel
theorem dX4_hoopsFor_107 : decode cX4_hoopsFor 107 = .ok (.iastore, 1) := by decide +kernel
theorem dX4_hoopsFor_108 : decode cX4_hoopsFor 108 = .ok (.aload_n 0, 1) := by decide +kernel
theorem dX4_hoopsFor_109 : decode cX4_hoopsFor 109 = .ok (.iload 4, 2) := by decide +kernel
theorem dX4_hoopsFor_111 : decode cX4_hoopsFor 111 = .ok (.invokevirtual 170, 3) := by decide +kernel
theorem dX4_hoopsFor_114 : decode cX4_hoopsFor 114 = .ok (.ireturn, 1) := by decide +kernel
theorem dX4_frostFor_0 : decode cX4_frostFor 0 = .ok (.iload_n 1, 1) := by decide +kernel
theorem dX4_frostFor_1 : decode cX4_frostFor 1 = .ok (.invokestatic 43, 3) := by decide +kernel
theorem dX4_frostFor_4 : decode cX4_frostFor 4 = .ok (.ifCond .eq 15, 3) := by decide +kernel
theorem dX4_frostFor_7 : decode cX4_frostFor 7 = .ok (.iload_n 2, 1) := by decide +kernel
theorem dX4_frostFor_8 : decode cX4_frostFor 8 = .ok (.i2l, 1) := by decide +kernel
theorem dX4_frostFor_9 : decode cX4_frostFor 9 = .ok (.lconst 0, 1) := by decide +kernel
theorem dX4_frostFor_10 : decode cX4_frostFor 10 = .ok (.ldc2_w 159, 3) := by decide +kernel
theorem dX4_frostFor_13 : decode cX4_frostFor 13 = .ok (.invokestatic 49, 3) := by decide +kernel
theorem dX4_frostFor_16 : decode cX4_frostFor 16 = .ok (.ifCond .ne 10, 3) := by decide +kernel
theorem dX4_frostFor_19 : decode cX4_frostFor 19 = .ok (.aload_n 0, 1) := by decide +kernel
theorem dX4_frostFor_20 : decode cX4_frostFor 20 = .ok (.ldc 37, 2) := by decide +kernel
theorem dX4_frostFor_22 : decode cX4_frostFor 22 = .ok (.invokevirtual 39, 3) := by decide +kernel
theorem dX4_frostFor_25 : decode cX4_frostFor 25 = .ok (.ireturn, 1) := by decide +kernel
theorem dX4_frostFor_26 : decode cX4_frostFor 26 = .ok (.aload_n 0, 1) := by decide +kernel
theorem dX4_frostFor_27 : decode cX4_frostFor 27 = .ok (.getfield 7, 3) := by decide +kernel
theorem dX4_frostFor_30 : decode cX4_frostFor 30 = .ok (.iconst 4, 1) := by decide +kernel
theorem dX4_frostFor_31 : decode cX4_frostFor 31 = .ok (.iload_n 1, 1) := by decide +kernel
theorem dX4_frostFor_32 : decode cX4_frostFor 32 = .ok (.iadd, 1) := by decide +kernel
theorem dX4_frostFor_33 : decode cX4_frostFor 33 = .ok (.iaload, 1) := by decide +kernel
theorem dX4_frostFor_34 : decode cX4_frostFor 34 = .ok (.istore_n 3, 1) := by decide +kernel
theorem dX4_frostFor_35 : decode cX4_frostFor 35 = .ok (.iconst (-1), 1) := by decide +kernel
theorem dX4_frostFor_36 : decode cX4_frostFor 36 = .ok (.istore 4, 2) := by decide +kernel
theorem dX4_frostFor_38 : decode cX4_frostFor 38 = .ok (.bipush 9, 2) := by decide +kernel
theorem dX4_frostFor_40 : decode cX4_frostFor 40 = .ok (.istore 5, 2) := by decide +kernel
theorem dX4_frostFor_42 : decode cX4_frostFor 42 = .ok (.iload 5, 2) := by decide +kernel
theorem dX4_frostFor_44 : decode cX4_frostFor 44 = .ok (.ifCond .lt 46, 3) := by decide +kernel
theorem dX4_frostFor_47 : decode cX4_frostFor 47 = .ok (.iload 4, 2) := by decide +kernel
theorem dX4_frostFor_49 : decode cX4_frostFor 49 = .ok (.ifCond .ge 41, 3) := by decide +kernel
theorem dX4_frostFor_52 : decode cX4_frostFor 52 = .ok (.aload_n 0, 1) := by decide +kernel
theorem dX4_frostFor_53 : decode cX4_frostFor 53 = .ok (.getfield 7, 3) := by decide +kernel
theorem dX4_frostFor_56 : decode cX4_frostFor 56 = .ok (.iconst 4, 1) := by decide +kernel
theorem dX4_frostFor_57 : decode cX4_frostFor 57 = .ok (.iload_n 1, 1) := by decide +kernel
theorem dX4_frostFor_58 : decode cX4_frostFor 58 = .ok (.iadd, 1) := by decide +kernel
theorem dX4_frostFor_59 : decode cX4_frostFor 59 = .ok (.iload 5, 2) := by decide +kernel
theorem dX4_frostFor_61 : decode cX4_frostFor 61 = .ok (.iastore, 1) := by decide +kernel
theorem dX4_frostFor_62 : decode cX4_frostFor 62 = .ok (.aload_n 0, 1) := by decide +kernel
theorem dX4_frostFor_63 : decode cX4_frostFor 63 = .ok (.iload_n 2, 1) := by decide +kernel
theorem dX4_frostFor_64 : decode cX4_frostFor 64 = .ok (.invokevirtual 154, 3) := by decide +kernel
theorem dX4_frostFor_67 : decode cX4_frostFor 67 = .ok (.aload_n 0, 1) := by decide +kernel
theorem dX4_frostFor_68 : decode cX4_frostFor 68 = .ok (.getfield 7, 3) := by decide +kernel
theorem dX4_frostFor_71 : decode cX4_frostFor 71 = .ok (.iconst 3, 1) := by decide +kernel
theorem dX4_frostFor_72 : decode cX4_frostFor 72 = .ok (.iaload, 1) := by decide +kernel
theorem dX4_frostFor_73 : decode cX4_frostFor 73 = .ok (.if_icmp .ne 8, 3) := by decide +kernel
theorem dX4_frostFor_76 : decode cX4_frostFor 76 = .ok (.iload 5, 2) := by decide +kernel
theorem dX4_frostFor_78 : decode cX4_frostFor 78 = .ok (.goto 4, 3) := by decide +kernel
theorem dX4_frostFor_81 : decode cX4_frostFor 81 = .ok (.iconst (-1), 1) := by decide +kernel
theorem dX4_frostFor_82 : decode cX4_frostFor 82 = .ok (.istore 4, 2) := by decide +kernel
theorem dX4_frostFor_84 : decode cX4_frostFor 84 = .ok (.iinc 5 (-1), 3) := by decide +kernel
theorem dX4_frostFor_87 : decode cX4_frostFor 87 = .ok (.goto (-45), 3) := by decide +kernel
theorem dX4_frostFor_90 : decode cX4_frostFor 90 = .ok (.aload_n 0, 1) := by decide +kernel
theorem dX4_frostFor_91 : decode cX4_frostFor 91 = .ok (.getfield 7, 3) := by decide +kernel
theorem dX4_frostFor_94 : decode cX4_frostFor 94 = .ok (.iconst 4, 1) := by decide +kernel
theorem dX4_frostFor_95 : decode cX4_frostFor 95 = .ok (.iload_n 1, 1) := by decide +kernel
theorem dX4_frostFor_96 : decode cX4_frostFor 96 = .ok (.iadd, 1) := by decide +kernel
theorem dX4_frostFor_97 : decode cX4_frostFor 97 = .ok (.iload_n 3, 1) := by decide +kernel
theorem dX4_frostFor_98 : decode cX4_frostFor 98 = .ok (.iastore, 1) := by decide +kernel
theorem dX4_frostFor_99 : decode cX4_frostFor 99 = .ok (.aload_n 0, 1) := by decide +kernel
theorem dX4_frostFor_100 : decode cX4_frostFor 100 = .ok (.iload 4, 2) := by decide +kernel
theorem dX4_frostFor_102 : decode cX4_frostFor 102 = .ok (.invokevirtual 170, 3) := by decide +kernel
theorem dX4_frostFor_105 : decode cX4_frostFor 105 = .ok (.ireturn, 1) := by decide +kernel
theorem dX4_empty_0 : decode cX4_empty 0 = .ok (.iload_n 1, 1) := by decide +kernel
theorem dX4_empty_1 : decode cX4_empty 1 = .ok (.i2l, 1) := by decide +kernel
theorem dX4_empty_2 : decode cX4_empty 2 = .ok (.lconst 0, 1) := by decide +kernel
theorem dX4_empty_3 : decode cX4_empty 3 = .ok (.ldc2_w 173, 3) := by decide +kernel
theorem dX4_empty_6 : decode cX4_empty 6 = .ok (.invokestatic 49, 3) := by decide +kernel
theorem dX4_empty_9 : decode cX4_empty 9 = .ok (.ifCond .ne 10, 3) := by decide +kernel
theorem dX4_empty_12 : decode cX4_empty 12 = .ok (.aload_n 0, 1) := by decide +kernel
theorem dX4_empty_13 : decode cX4_empty 13 = .ok (.ldc 37, 2) := by decide +kernel
theorem dX4_empty_15 : decode cX4_empty 15 = .ok (.invokevirtual 39, 3) := by decide +kernel
theorem dX4_empty_18 : decode cX4_empty 18 = .ok (.ireturn, 1) := by decide +kernel
theorem dX4_empty_19 : decode cX4_empty 19 = .ok (.aload_n 0, 1) := by decide +kernel
theorem dX4_empty_20 : decode cX4_empty 20 = .ok (.getfield 7, 3) := by decide +kernel
theorem dX4_empty_23 : decode cX4_empty 23 = .ok (.iconst 3, 1) := by decide +kernel
theorem dX4_empty_24 : decode cX4_empty 24 = .ok (.iaload, 1) := by decide +kernel
theorem dX4_empty_25 : decode cX4_empty 25 = .ok (.istore_n 2, 1) := by decide +kernel
theorem dX4_empty_26 : decode cX4_empty 26 = .ok (.iconst (-1), 1) := by decide +kernel
theorem dX4_empty_27 : decode cX4_empty 27 = .ok (.istore_n 3, 1) := by decide +kernel
theorem dX4_empty_28 : decode cX4_empty 28 = .ok (.aload_n 0, 1) := by decide +kernel
theorem dX4_empty_29 : decode cX4_empty 29 = .ok (.getfield 7, 3) := by decide +kernel
theorem dX4_empty_32 : decode cX4_empty 32 = .ok (.aload_n 0, 1) := by decide +kernel
theorem dX4_empty_33 : decode cX4_empty 33 = .ok (.getfield 19, 3) := by decide +kernel
theorem dX4_empty_36 : decode cX4_empty 36 = .ok (.invokestatic 140, 3) := by decide +kernel
theorem dX4_empty_39 : decode cX4_empty 39 = .ok (.iconst 0, 1) := by decide +kernel
theorem dX4_empty_40 : decode cX4_empty 40 = .ok (.istore 4, 2) := by decide +kernel
theorem dX4_empty_42 : decode cX4_empty 42 = .ok (.iload 4, 2) := by decide +kernel
theorem dX4_empty_44 : decode cX4_empty 44 = .ok (.iconst 1, 1) := by decide +kernel
theorem dX4_empty_45 : decode cX4_empty 45 = .ok (.aload_n 0, 1) := by decide +kernel
theorem dX4_empty_46 : decode cX4_empty 46 = .ok (.getfield 7, 3) := by decide +kernel
theorem dX4_empty_49 : decode cX4_empty 49 = .ok (.iconst 0, 1) := by decide +kernel
theorem dX4_empty_50 : decode cX4_empty 50 = .ok (.iaload, 1) := by decide +kernel
theorem dX4_empty_51 : decode cX4_empty 51 = .ok (.ishl, 1) := by decide +kernel
theorem dX4_empty_52 : decode cX4_empty 52 = .ok (.if_icmp .ge 144, 3) := by decide +kernel
theorem dX4_empty_55 : decode cX4_empty 55 = .ok (.iload_n 3, 1) := by decide +kernel
theorem dX4_empty_56 : decode cX4_empty 56 = .ok (.ifCond .lt 15, 3) := by decide +kernel
theorem dX4_empty_59 : decode cX4_empty 59 = .ok (.iload 4, 2) := by decide +kernel
theorem dX4_empty_61 : decode cX4_empty 61 = .ok (.invokestatic 83, 3) := by decide +kernel
theorem dX4_empty_64 : decode cX4_empty 64 = .ok (.iload_n 3, 1) := by decide +kernel
theorem dX4_empty_65 : decode cX4_empty 65 = .ok (.invokestatic 83, 3) := by decide +kernel
theorem dX4_empty_68 : decode cX4_empty 68 = .ok (.if_icmp .ge 122, 3) := by decide +kernel
theorem dX4_empty_71 : decode cX4_empty 71 = .ok (.iconst 0, 1) := by decide +kernel
theorem dX4_empty_72 : decode cX4_empty 72 = .ok (.istore 5, 2) := by decide +kernel
theorem dX4_empty_74 : decode cX4_empty 74 = .ok (.iload 5, 2) := by decide +kernel
theorem dX4_empty_76 : decode cX4_empty 76 = .ok (.aload_n 0, 1) := by decide +kernel
theorem dX4_empty_77 : decode cX4_empty 77 = .ok (.getfield 7, 3) := by decide +kernel
theorem dX4_empty_80 : decode cX4_empty 80 = .ok (.iconst 0, 1) := by decide +kernel
theorem dX4_empty_81 : decode cX4_empty 81 = .ok (.iaload, 1) := by decide +kernel
theorem dX4_empty_82 : decode cX4_empty 82 = .ok (.if_icmp .ge 75, 3) := by decide +kernel
theorem dX4_empty_85 : decode cX4_empty 85 = .ok (.aload_n 0, 1) := by decide +kernel
theorem dX4_empty_86 : decode cX4_empty 86 = .ok (.getfield 7, 3) := by decide +kernel
theorem dX4_empty_89 : decode cX4_empty 89 = .ok (.iload 5, 2) := by decide +kernel
theorem dX4_empty_91 : decode cX4_empty 91 = .ok (.iconst 2, 1) := by decide +kernel
theorem dX4_empty_92 : decode cX4_empty 92 = .ok (.invokestatic 70, 3) := by decide +kernel
theorem dX4_empty_95 : decode cX4_empty 95 = .ok (.iload 4, 2) := by decide +kernel
theorem dX4_empty_97 : decode cX4_empty 97 = .ok (.iload 5, 2) := by decide +kernel
theorem dX4_empty_99 : decode cX4_empty 99 = .ok (.ishr, 1) := by decide +kernel
theorem dX4_empty_100 : decode cX4_empty 100 = .ok (.iconst 1, 1) := by decide +kernel
theorem dX4_empty_101 : decode cX4_empty 101 = .ok (.iand, 1) := by decide +kernel
theorem dX4_empty_102 : decode cX4_empty 102 = .ok (.iconst 1, 1) := by decide +kernel
theorem dX4_empty_103 : decode cX4_empty 103 = .ok (.if_icmp .ne 7, 3) := by decide +kernel
theorem dX4_empty_106 : decode cX4_empty 106 = .ok (.iconst 0, 1) := by decide +kernel
theorem dX4_empty_107 : decode cX4_empty 107 = .ok (.goto 10, 3) := by decide +kernel
theorem dX4_empty_110 : decode cX4_empty 110 = .ok (.aload_n 0, 1) := by decide +kernel
theorem dX4_empty_111 : decode cX4_empty 111 = .ok (.iload 5, 2) := by decide +kernel
theorem dX4_empty_113 : decode cX4_empty 113 = .ok (.iconst 2, 1) := by decide +kernel
theorem dX4_empty_114 : decode cX4_empty 114 = .ok (.invokevirtual 57, 3) := by decide +kernel
theorem dX4_empty_117 : decode cX4_empty 117 = .ok (.iastore, 1) := by decide +kernel
theorem dX4_empty_118 : decode cX4_empty 118 = .ok (.aload_n 0, 1) := by decide +kernel
theorem dX4_empty_119 : decode cX4_empty 119 = .ok (.getfield 7, 3) := by decide +kernel
theorem dX4_empty_122 : decode cX4_empty 122 = .ok (.iload 5, 2) := by decide +kernel
theorem dX4_empty_124 : decode cX4_empty 124 = .ok (.iconst 5, 1) := by decide +kernel
theorem dX4_empty_125 : decode cX4_empty 125 = .ok (.invokestatic 70, 3) := by decide +kernel
theorem dX4_empty_128 : decode cX4_empty 128 = .ok (.iload 4, 2) := by decide +kernel
theorem dX4_empty_130 : decode cX4_empty 130 = .ok (.iload 5, 2) := by decide +kernel
theorem dX4_empty_132 : decode cX4_empty 132 = .ok (.ishr, 1) := by decide +kernel
theorem dX4_empty_133 : decode cX4_empty 133 = .ok (.iconst 1, 1) := by decide +kernel
theorem dX4_empty_134 : decode cX4_empty 134 = .ok (.iand, 1) := by decide +kernel
theorem dX4_empty_135 : decode cX4_empty 135 = .ok (.iconst 1, 1) := by decide +kernel
theorem dX4_empty_136 : decode cX4_empty 136 = .ok (.if_icmp .ne 7, 3) := by decide +kernel
theorem dX4_empty_139 : decode cX4_empty 139 = .ok (.iconst 0, 1) := by decide +kernel
theorem dX4_empty_140 : decode cX4_empty 140 = .ok (.goto 10, 3) := by decide +kernel
theorem dX4_empty_143 : decode cX4_empty 143 = .ok (.aload_n 0, 1) := by decide +kernel
theorem dX4_empty_144 : decode cX4_empty 144 = .ok (.iload 5, 2) := by decide +kernel
theorem dX4_empty_146 : decode cX4_empty 146 = .ok (.iconst 5, 1) := by decide +kernel
theorem dX4_empty_147 : decode cX4_empty 147 = .ok (.invokevirtual 57, 3) := by decide +kernel
theorem dX4_empty_150 : decode cX4_empty 150 = .ok (.iastore, 1) := by decide +kernel
theorem dX4_empty_151 : decode cX4_empty 151 = .ok (.iinc 5 1, 3) := by decide +kernel
theorem dX4_empty_154 : decode cX4_empty 154 = .ok (.goto (-80), 3) := by decide +kernel
theorem dX4_empty_157 : decode cX4_empty 157 = .ok (.aload_n 0, 1) := by decide +kernel
theorem dX4_empty_158 : decode cX4_empty 158 = .ok (.iload_n 1, 1) := by decide +kernel
theorem dX4_empty_159 : decode cX4_empty 159 = .ok (.invokevirtual 125, 3) := by decide +kernel
theorem dX4_empty_162 : decode cX4_empty 162 = .ok (.aload_n 0, 1) := by decide +kernel
theorem dX4_empty_163 : decode cX4_empty 163 = .ok (.getfield 7, 3) := by decide +kernel
theorem dX4_empty_166 : decode cX4_empty 166 = .ok (.iconst 3, 1) := by decide +kernel
theorem dX4_empty_167 : decode cX4_empty 167 = .ok (.iaload, 1) := by decide +kernel
theorem dX4_empty_168 : decode cX4_empty 168 = .ok (.iload_n 2, 1) := by decide +kernel
theorem dX4_empty_169 : decode cX4_empty 169 = .ok (.if_icmp .ne 8, 3) := by decide +kernel
theorem dX4_empty_172 : decode cX4_empty 172 = .ok (.iload 4, 2) := by decide +kernel
theorem dX4_empty_174 : decode cX4_empty 174 = .ok (.goto 4, 3) := by decide +kernel
theorem dX4_empty_177 : decode cX4_empty 177 = .ok (.iload_n 3, 1) := by decide +kernel
theorem dX4_empty_178 : decode cX4_empty 178 = .ok (.istore_n 3, 1) := by decide +kernel
theorem dX4_empty_179 : decode cX4_empty 179 = .ok (.aload_n 0, 1) := by decide +kernel
theorem dX4_empty_180 : decode cX4_empty 180 = .ok (.getfield 19, 3) := by decide +kernel
theorem dX4_empty_183 : decode cX4_empty 183 = .ok (.aload_n 0, 1) := by decide +kernel
theorem dX4_empty_184 : decode cX4_empty 184 = .ok (.getfield 7, 3) := by decide +kernel
theorem dX4_empty_187 : decode cX4_empty 187 = .ok (.invokestatic 140, 3) := by decide +kernel
theorem dX4_empty_190 : decode cX4_empty 190 = .ok (.iinc 4 1, 3) := by decide +kernel
theorem dX4_empty_193 : decode cX4_empty 193 = .ok (.goto (-151), 3) := by decide +kernel
theorem dX4_empty_196 : decode cX4_empty 196 = .ok (.aload_n 0, 1) := by decide +kernel
theorem dX4_empty_197 : decode cX4_empty 197 = .ok (.iload_n 3, 1) := by decide +kernel
theorem dX4_empty_198 : decode cX4_empty 198 = .ok (.invokevirtual 170, 3) := by decide +kernel
theorem dX4_empty_201 : decode cX4_empty 201 = .ok (.ireturn, 1) := by decide +kernel
theorem dX4_blendOf_0 : decode cX4_blendOf 0 = .ok (.iconst 0, 1) := by decide +kernel
theorem dX4_blendOf_1 : decode cX4_blendOf 1 = .ok (.istore_n 2, 1) := by decide +kernel
theorem dX4_blendOf_2 : decode cX4_blendOf 2 = .ok (.iconst 0, 1) := by decide +kernel
theorem dX4_blendOf_3 : decode cX4_blendOf 3 = .ok (.istore_n 3, 1) := by decide +kernel
theorem dX4_blendOf_4 : decode cX4_blendOf 4 = .ok (.iload_n 3, 1) := by decide +kernel
theorem dX4_blendOf_5 : decode cX4_blendOf 5 = .ok (.aload_n 0, 1) := by decide +kernel
theorem dX4_blendOf_6 : decode cX4_blendOf 6 = .ok (.getfield 7, 3) := by decide +kernel
theorem dX4_blendOf_9 : decode cX4_blendOf 9 = .ok (.iconst 0, 1) := by decide +kernel
theorem dX4_blendOf_10 : decode cX4_blendOf 10 = .ok (.iaload, 1) := by decide +kernel
theorem dX4_blendOf_11 : decode cX4_blendOf 11 = .ok (.if_icmp .ge 30, 3) := by decide +kernel
theorem dX4_blendOf_14 : decode cX4_blendOf 14 = .ok (.iload_n 2, 1) := by decide +kernel
theorem dX4_blendOf_15 : decode cX4_blendOf 15 = .ok (.iload_n 1, 1) := by decide +kernel
theorem dX4_blendOf_16 : decode cX4_blendOf 16 = .ok (.iload_n 3, 1) := by decide +kernel
theorem dX4_blendOf_17 : decode cX4_blendOf 17 = .ok (.ishr, 1) := by decide +kernel
theorem dX4_blendOf_18 : decode cX4_blendOf 18 = .ok (.iconst 1, 1) := by decide +kernel
theorem dX4_blendOf_19 : decode cX4_blendOf 19 = .ok (.iand, 1) := by decide +kernel
theorem dX4_blendOf_20 : decode cX4_blendOf 20 = .ok (.iconst 1, 1) := by decide +kernel
theorem dX4_blendOf_21 : decode cX4_blendOf 21 = .ok (.if_icmp .ne 11, 3) := by decide +kernel
theorem dX4_blendOf_24 : decode cX4_blendOf 24 = .ok (.aload_n 0, 1) := by decide +kernel
theorem dX4_blendOf_25 : decode cX4_blendOf 25 = .ok (.iload_n 3, 1) := by decide +kernel
theorem dX4_blendOf_26 : decode cX4_blendOf 26 = .ok (.invokevirtual 89, 3) := by decide +kernel
theorem dX4_blendOf_29 : decode cX4_blendOf 29 = .ok (.goto 4, 3) := by decide +kernel
theorem dX4_blendOf_32 : decode cX4_blendOf 32 = .ok (.iconst 0, 1) := by decide +kernel
theorem dX4_blendOf_33 : decode cX4_blendOf 33 = .ok (.iadd, 1) := by decide +kernel
theorem dX4_blendOf_34 : decode cX4_blendOf 34 = .ok (.istore_n 2, 1) := by decide +kernel
theorem dX4_blendOf_35 : decode cX4_blendOf 35 = .ok (.iinc 3 1, 3) := by decide +kernel
theorem dX4_blendOf_38 : decode cX4_blendOf 38 = .ok (.goto (-34), 3) := by decide +kernel
theorem dX4_blendOf_41 : decode cX4_blendOf 41 = .ok (.iload_n 2, 1) := by decide +kernel
theorem dX4_blendOf_42 : decode cX4_blendOf 42 = .ok (.ireturn, 1) := by decide +kernel
theorem dX4_blend_0 : decode cX4_blend 0 = .ok (.iload_n 1, 1) := by decide +kernel
theorem dX4_blend_1 : decode cX4_blend 1 = .ok (.i2l, 1) := by decide +kernel
theorem dX4_blend_2 : decode cX4_blend 2 = .ok (.lconst 0, 1) := by decide +kernel
theorem dX4_blend_3 : decode cX4_blend 3 = .ok (.iconst 1, 1) := by decide +kernel
theorem dX4_blend_4 : decode cX4_blend 4 = .ok (.aload_n 0, 1) := by decide +kernel
theorem dX4_blend_5 : decode cX4_blend 5 = .ok (.getfield 7, 3) := by decide +kernel
theorem dX4_blend_8 : decode cX4_blend 8 = .ok (.iconst 0, 1) := by decide +kernel
theorem dX4_blend_9 : decode cX4_blend 9 = .ok (.iaload, 1) := by decide +kernel
theorem dX4_blend_10 : decode cX4_blend 10 = .ok (.ishl, 1) := by decide +kernel
theorem dX4_blend_11 : decode cX4_blend 11 = .ok (.iconst 1, 1) := by decide +kernel
theorem dX4_blend_12 : decode cX4_blend 12 = .ok (.isub, 1) := by decide +kernel
theorem dX4_blend_13 : decode cX4_blend 13 = .ok (.i2l, 1) := by decide +kernel
theorem dX4_blend_14 : decode cX4_blend 14 = .ok (.invokestatic 49, 3) := by decide +kernel
theorem dX4_blend_17 : decode cX4_blend 17 = .ok (.ifCond .eq 11, 3) := by decide +kernel
theorem dX4_blend_20 : decode cX4_blend 20 = .ok (.aload_n 0, 1) := by decide +kernel
theorem dX4_blend_21 : decode cX4_blend 21 = .ok (.iload_n 1, 1) := by decide +kernel
theorem dX4_blend_22 : decode cX4_blend 22 = .ok (.invokevirtual 175, 3) := by decide +kernel
theorem dX4_blend_25 : decode cX4_blend 25 = .ok (.goto 9, 3) := by decide +kernel
theorem dX4_blend_28 : decode cX4_blend 28 = .ok (.aload_n 0, 1) := by decide +kernel
theorem dX4_blend_29 : decode cX4_blend 29 = .ok (.ldc 37, 2) := by decide +kernel
theorem dX4_blend_31 : decode cX4_blend 31 = .ok (.invokevirtual 39, 3) := by decide +kernel
theorem dX4_blend_34 : decode cX4_blend 34 = .ok (.ireturn, 1) := by decide +kernel
theorem dX4_order_0 : decode cX4_order 0 = .ok (.iload_n 1, 1) := by decide +kernel
theorem dX4_order_1 : decode cX4_order 1 = .ok (.i2l, 1) := by decide +kernel
theorem dX4_order_2 : decode cX4_order 2 = .ok (.lconst 0, 1) := by decide +kernel
theorem dX4_order_3 : decode cX4_order 3 = .ok (.ldc2_w 178, 3) := by decide +kernel
theorem dX4_order_6 : decode cX4_order 6 = .ok (.invokestatic 49, 3) := by decide +kernel
theorem dX4_order_9 : decode cX4_order 9 = .ok (.ifCond .ne 10, 3) := by decide +kernel
theorem dX4_order_12 : decode cX4_order 12 = .ok (.aload_n 0, 1) := by decide +kernel
theorem dX4_order_13 : decode cX4_order 13 = .ok (.ldc 37, 2) := by decide +kernel
theorem dX4_order_15 : decode cX4_order 15 = .ok (.invokevirtual 39, 3) := by decide +kernel
theorem dX4_order_18 : decode cX4_order 18 = .ok (.ireturn, 1) := by decide +kernel
theorem dX4_order_19 : decode cX4_order 19 = .ok (.iconst (-1), 1) := by decide +kernel
theorem dX4_order_20 : decode cX4_order 20 = .ok (.istore_n 2, 1) := by decide +kernel
theorem dX4_order_21 : decode cX4_order 21 = .ok (.iconst 0, 1) := by decide +kernel
theorem dX4_order_22 : decode cX4_order 22 = .ok (.istore_n 3, 1) := by decide +kernel
theorem dX4_order_23 : decode cX4_order 23 = .ok (.iload_n 3, 1) := by decide +kernel
theorem dX4_order_24 : decode cX4_order 24 = .ok (.iconst 1, 1) := by decide +kernel
theorem dX4_order_25 : decode cX4_order 25 = .ok (.aload_n 0, 1) := by decide +kernel
theorem dX4_order_26 : decode cX4_order 26 = .ok (.getfield 7, 3) := by decide +kernel
theorem dX4_order_29 : decode cX4_order 29 = .ok (.iconst 0, 1) := by decide +kernel
theorem dX4_order_30 : decode cX4_order 30 = .ok (.iaload, 1) := by decide +kernel
theorem dX4_order_31 : decode cX4_order 31 = .ok (.ishl, 1) := by decide +kernel
theorem dX4_order_32 : decode cX4_order 32 = .ok (.if_icmp .ge 39, 3) := by decide +kernel
theorem dX4_order_35 : decode cX4_order 35 = .ok (.iload_n 2, 1) := by decide +kernel
theorem dX4_order_36 : decode cX4_order 36 = .ok (.ifCond .lt 14, 3) := by decide +kernel
theorem dX4_order_39 : decode cX4_order 39 = .ok (.iload_n 3, 1) := by decide +kernel
theorem dX4_order_40 : decode cX4_order 40 = .ok (.invokestatic 83, 3) := by decide +kernel
theorem dX4_order_43 : decode cX4_order 43 = .ok (.iload_n 2, 1) := by decide +kernel
theorem dX4_order_44 : decode cX4_order 44 = .ok (.invokestatic 83, 3) := by decide +kernel
theorem dX4_order_47 : decode cX4_order 47 = .ok (.if_icmp .ge 16, 3) := by decide +kernel
theorem dX4_order_50 : decode cX4_order 50 = .ok (.aload_n 0, 1) := by decide +kernel
theorem dX4_order_51 : decode cX4_order 51 = .ok (.iload_n 3, 1) := by decide +kernel
theorem dX4_order_52 : decode cX4_order 52 = .ok (.invokevirtual 175, 3) := by decide +kernel
theorem dX4_order_55 : decode cX4_order 55 = .ok (.iload_n 1, 1) := by decide +kernel
theorem dX4_order_56 : decode cX4_order 56 = .ok (.if_icmp .ne 7, 3) := by decide +kernel
theorem dX4_order_59 : decode cX4_order 59 = .ok (.iload_n 3, 1) := by decide +kernel
theorem dX4_order_60 : decode cX4_order 60 = .ok (.goto 4, 3) := by decide +kernel
theorem dX4_order_63 : decode cX4_order 63 = .ok (.iload_n 2, 1) := by decide +kernel
theorem dX4_order_64 : decode cX4_order 64 = .ok (.istore_n 2, 1) := by decide +kernel
theorem dX4_order_65 : decode cX4_order 65 = .ok (.iinc 3 1, 3) := by decide +kernel
theorem dX4_order_68 : decode cX4_order 68 = .ok (.goto (-45), 3) := by decide +kernel
theorem dX4_order_71 : decode cX4_order 71 = .ok (.aload_n 0, 1) := by decide +kernel
theorem dX4_order_72 : decode cX4_order 72 = .ok (.iload_n 2, 1) := by decide +kernel
theorem dX4_order_73 : decode cX4_order 73 = .ok (.invokevirtual 170, 3) := by decide +kernel
theorem dX4_order_76 : decode cX4_order 76 = .ok (.ireturn, 1) := by decide +kernel
theorem dX4_blends_0 : decode cX4_blends 0 = .ok (.iload_n 1, 1) := by decide +kernel
theorem dX4_blends_1 : decode cX4_blends 1 = .ok (.i2l, 1) := by decide +kernel
theorem dX4_blends_2 : decode cX4_blends 2 = .ok (.lconst 0, 1) := by decide +kernel
theorem dX4_blends_3 : decode cX4_blends 3 = .ok (.ldc2_w 178, 3) := by decide +kernel
theorem dX4_blends_6 : decode cX4_blends 6 = .ok (.invokestatic 49, 3) := by decide +kernel
theorem dX4_blends_9 : decode cX4_blends 9 = .ok (.ifCond .eq 15, 3) := by decide +kernel
theorem dX4_blends_12 : decode cX4_blends 12 = .ok (.iload_n 2, 1) := by decide +kernel
theorem dX4_blends_13 : decode cX4_blends 13 = .ok (.i2l, 1) := by decide +kernel
theorem dX4_blends_14 : decode cX4_blends 14 = .ok (.lconst 0, 1) := by decide +kernel
theorem dX4_blends_15 : decode cX4_blends 15 = .ok (.ldc2_w 178, 3) := by decide +kernel
theorem dX4_blends_18 : decode cX4_blends 18 = .ok (.invokestatic 49, 3) := by decide +kernel
theorem dX4_blends_21 : decode cX4_blends 21 = .ok (.ifCond .ne 10, 3) := by decide +kernel
theorem dX4_blends_24 : decode cX4_blends 24 = .ok (.aload_n 0, 1) := by decide +kernel
theorem dX4_blends_25 : decode cX4_blends 25 = .ok (.ldc 37, 2) := by decide +kernel
theorem dX4_blends_27 : decode cX4_blends 27 = .ok (.invokevirtual 39, 3) := by decide +kernel
theorem dX4_blends_30 : decode cX4_blends 30 = .ok (.ireturn, 1) := by decide +kernel
theorem dX4_blends_31 : decode cX4_blends 31 = .ok (.iconst 0, 1) := by decide +kernel
theorem dX4_blends_32 : decode cX4_blends 32 = .ok (.istore_n 3, 1) := by decide +kernel
theorem dX4_blends_33 : decode cX4_blends 33 = .ok (.iconst 0, 1) := by decide +kernel
theorem dX4_blends_34 : decode cX4_blends 34 = .ok (.istore 4, 2) := by decide +kernel
theorem dX4_blends_36 : decode cX4_blends 36 = .ok (.iload 4, 2) := by decide +kernel
theorem dX4_blends_38 : decode cX4_blends 38 = .ok (.iconst 1, 1) := by decide +kernel
theorem dX4_blends_39 : decode cX4_blends 39 = .ok (.aload_n 0, 1) := by decide +kernel
theorem dX4_blends_40 : decode cX4_blends 40 = .ok (.getfield 7, 3) := by decide +kernel
theorem dX4_blends_43 : decode cX4_blends 43 = .ok (.iconst 0, 1) := by decide +kernel
theorem dX4_blends_44 : decode cX4_blends 44 = .ok (.iaload, 1) := by decide +kernel
theorem dX4_blends_45 : decode cX4_blends 45 = .ok (.ishl, 1) := by decide +kernel
theorem dX4_blends_46 : decode cX4_blends 46 = .ok (.if_icmp .ge 34, 3) := by decide +kernel
theorem dX4_blends_49 : decode cX4_blends 49 = .ok (.iload_n 3, 1) := by decide +kernel
theorem dX4_blends_50 : decode cX4_blends 50 = .ok (.aload_n 0, 1) := by decide +kernel
theorem dX4_blends_51 : decode cX4_blends 51 = .ok (.iload 4, 2) := by decide +kernel
theorem dX4_blends_53 : decode cX4_blends 53 = .ok (.invokevirtual 175, 3) := by decide +kernel
theorem dX4_blends_56 : decode cX4_blends 56 = .ok (.i2l, 1) := by decide +kernel
theorem dX4_blends_57 : decode cX4_blends 57 = .ok (.iload_n 1, 1) := by decide +kernel
theorem dX4_blends_58 : decode cX4_blends 58 = .ok (.i2l, 1) := by decide +kernel
theorem dX4_blends_59 : decode cX4_blends 59 = .ok (.iload_n 2, 1) := by decide +kernel
theorem dX4_blends_60 : decode cX4_blends 60 = .ok (.i2l, 1) := by decide +kernel
theorem dX4_blends_61 : decode cX4_blends 61 = .ok (.invokestatic 49, 3) := by decide +kernel
theorem dX4_blends_64 : decode cX4_blends 64 = .ok (.ifCond .eq 7, 3) := by decide +kernel
theorem dX4_blends_67 : decode cX4_blends 67 = .ok (.iconst 1, 1) := by decide +kernel
theorem dX4_blends_68 : decode cX4_blends 68 = .ok (.goto 4, 3) := by decide +kernel
theorem dX4_blends_71 : decode cX4_blends 71 = .ok (.iconst 0, 1) := by decide +kernel
theorem dX4_blends_72 : decode cX4_blends 72 = .ok (.iadd, 1) := by decide +kernel
theorem dX4_blends_73 : decode cX4_blends 73 = .ok (.istore_n 3, 1) := by decide +kernel
theorem dX4_blends_74 : decode cX4_blends 74 = .ok (.iinc 4 1, 3) := by decide +kernel
theorem dX4_blends_77 : decode cX4_blends 77 = .ok (.goto (-41), 3) := by decide +kernel
theorem dX4_blends_80 : decode cX4_blends 80 = .ok (.iload_n 3, 1) := by decide +kernel
theorem dX4_blends_81 : decode cX4_blends 81 = .ok (.ireturn, 1) := by decide +kernel
theorem dX4_isTold_0 : decode cX4_isTold 0 = .ok (.aload_n 0, 1) := by decide +kernel
theorem dX4_isTold_1 : decode cX4_isTold 1 = .ok (.getfield 7, 3) := by decide +kernel
theorem dX4_isTold_4 : decode cX4_isTold 4 = .ok (.aload_n 0, 1) := by decide +kernel
theorem dX4_isTold_5 : decode cX4_isTold 5 = .ok (.getfield 19, 3) := by decide +kernel
theorem dX4_isTold_8 : decode cX4_isTold 8 = .ok (.invokestatic 140, 3) := by decide +kernel
theorem dX4_isTold_11 : decode cX4_isTold 11 = .ok (.iconst 1, 1) := by decide +kernel
theorem dX4_isTold_12 : decode cX4_isTold 12 = .ok (.istore_n 3, 1) := by decide +kernel
theorem dX4_isTold_13 : decode cX4_isTold 13 = .ok (.iconst 0, 1) := by decide +kernel
theorem dX4_isTold_14 : decode cX4_isTold 14 = .ok (.istore 4, 2) := by decide +kernel
theorem dX4_isTold_16 : decode cX4_isTold 16 = .ok (.iload 4, 2) := by decide +kernel
theorem dX4_isTold_18 : decode cX4_isTold 18 = .ok (.aload_n 0, 1) := by decide +kernel
theorem dX4_isTold_19 : decode cX4_isTold 19 = .ok (.getfield 31, 3) := by decide +kernel
theorem dX4_isTold_22 : decode cX4_isTold 22 = .ok (.iload_n 1, 1) := by decide +kernel
theorem dX4_isTold_23 : decode cX4_isTold 23 = .ok (.iaload, 1) := by decide +kernel
theorem dX4_isTold_24 : decode cX4_isTold 24 = .ok (.if_icmp .ge 54, 3) := by decide +kernel
theorem dX4_isTold_27 : decode cX4_isTold 27 = .ok (.iload_n 3, 1) := by decide +kernel
theorem dX4_isTold_28 : decode cX4_isTold 28 = .ok (.ifCond .eq 50, 3) := by decide +kernel
theorem dX4_isTold_31 : decode cX4_isTold 31 = .ok (.aload_n 0, 1) := by decide +kernel
theorem dX4_isTold_32 : decode cX4_isTold 32 = .ok (.getfield 34, 3) := by decide +kernel
theorem dX4_isTold_35 : decode cX4_isTold 35 = .ok (.bipush 40, 2) := by decide +kernel
theorem dX4_isTold_37 : decode cX4_isTold 37 = .ok (.iload_n 1, 1) := by decide +kernel
theorem dX4_isTold_38 : decode cX4_isTold 38 = .ok (.imul, 1) := by decide +kernel
theorem dX4_isTold_39 : decode cX4_isTold 39 = .ok (.iload 4, 2) := by decide +kernel
theorem dX4_isTold_41 : decode cX4_isTold 41 = .ok (.iadd, 1) := by decide +kernel
theorem dX4_isTold_42 : decode cX4_isTold 42 = .ok (.iaload, 1) := by decide +kernel
theorem dX4_isTold_43 : decode cX4_isTold 43 = .ok (.istore 5, 2) := by decide +kernel
theorem dX4_isTold_45 : decode cX4_isTold 45 = .ok (.iload 5, 2) := by decide +kernel
theorem dX4_isTold_47 : decode cX4_isTold 47 = .ok (.iconst (-1), 1) := by decide +kernel
theorem dX4_isTold_48 : decode cX4_isTold 48 = .ok (.if_icmp .eq 14, 3) := by decide +kernel
theorem dX4_isTold_51 : decode cX4_isTold 51 = .ok (.iload 5, 2) := by decide +kernel
theorem dX4_isTold_53 : decode cX4_isTold 53 = .ok (.aload_n 0, 1) := by decide +kernel
theorem dX4_isTold_54 : decode cX4_isTold 54 = .ok (.getfield 7, 3) := by decide +kernel
theorem dX4_isTold_57 : decode cX4_isTold 57 = .ok (.iload_n 2, 1) := by decide +kernel
theorem dX4_isTold_58 : decode cX4_isTold 58 = .ok (.iaload, 1) := by decide +kernel
theorem dX4_isTold_59 : decode cX4_isTold 59 = .ok (.if_icmp .ne 7, 3) := by decide +kernel
theorem dX4_isTold_62 : decode cX4_isTold 62 = .ok (.iconst 1, 1) := by decide +kernel
theorem dX4_isTold_63 : decode cX4_isTold 63 = .ok (.goto 4, 3) := by decide +kernel
theorem dX4_isTold_66 : decode cX4_isTold 66 = .ok (.iconst 0, 1) := by decide +kernel
theorem dX4_isTold_67 : decode cX4_isTold 67 = .ok (.istore_n 3, 1) := by decide +kernel
theorem dX4_isTold_68 : decode cX4_isTold 68 = .ok (.aload_n 0, 1) := by decide +kernel
theorem dX4_isTold_69 : decode cX4_isTold 69 = .ok (.invokevirtual 119, 3) := by decide +kernel
theorem dX4_isTold_72 : decode cX4_isTold 72 = .ok (.iinc 4 1, 3) := by decide +kernel
theorem dX4_isTold_75 : decode cX4_isTold 75 = .ok (.goto (-59), 3) := by decide +kernel
theorem dX4_isTold_78 : decode cX4_isTold 78 = .ok (.aload_n 0, 1) := by decide +kernel
theorem dX4_isTold_79 : decode cX4_isTold 79 = .ok (.getfield 19, 3) := by decide +kernel
theorem dX4_isTold_82 : decode cX4_isTold 82 = .ok (.aload_n 0, 1) := by decide +kernel
theorem dX4_isTold_83 : decode cX4_isTold 83 = .ok (.getfield 7, 3) := by decide +kernel
theorem dX4_isTold_86 : decode cX4_isTold 86 = .ok (.invokestatic 140, 3) := by decide +kernel
theorem dX4_isTold_89 : decode cX4_isTold 89 = .ok (.iload_n 3, 1) := by decide +kernel
theorem dX4_isTold_90 : decode cX4_isTold 90 = .ok (.ireturn, 1) := by decide +kernel
theorem dX4_findsFits_0 : decode cX4_findsFits 0 = .ok (.aload_n 0, 1) := by decide +kernel
theorem dX4_findsFits_1 : decode cX4_findsFits 1 = .ok (.iload_n 2, 1) := by decide +kernel
theorem dX4_findsFits_2 : decode cX4_findsFits 2 = .ok (.iconst 2, 1) := by decide +kernel
theorem dX4_findsFits_3 : decode cX4_findsFits 3 = .ok (.invokevirtual 57, 3) := by decide +kernel
theorem dX4_findsFits_6 : decode cX4_findsFits 6 = .ok (.istore_n 3, 1) := by decide +kernel
theorem dX4_findsFits_7 : decode cX4_findsFits 7 = .ok (.aload_n 0, 1) := by decide +kernel
theorem dX4_findsFits_8 : decode cX4_findsFits 8 = .ok (.iconst 0, 1) := by decide +kernel
theorem dX4_findsFits_9 : decode cX4_findsFits 9 = .ok (.putfield 180, 3) := by decide +kernel
theorem dX4_findsFits_12 : decode cX4_findsFits 12 = .ok (.bipush 100, 2) := by decide +kernel
theorem dX4_findsFits_14 : decode cX4_findsFits 14 = .ok (.istore 4, 2) := by decide +kernel
theorem dX4_findsFits_16 : decode cX4_findsFits 16 = .ok (.iload 4, 2) := by decide +kernel
theorem dX4_findsFits_18 : decode cX4_findsFits 18 = .ok (.ifCond .lt 46, 3) := by decide +kernel
theorem dX4_findsFits_21 : decode cX4_findsFits 21 = .ok (.aload_n 0, 1) := by decide +kernel
theorem dX4_findsFits_22 : decode cX4_findsFits 22 = .ok (.getfield 7, 3) := by decide +kernel
theorem dX4_findsFits_25 : decode cX4_findsFits 25 = .ok (.iload_n 2, 1) := by decide +kernel
theorem dX4_findsFits_26 : decode cX4_findsFits 26 = .ok (.iconst 2, 1) := by decide +kernel
theorem dX4_findsFits_27 : decode cX4_findsFits 27 = .ok (.invokestatic 70, 3) := by decide +kernel
theorem dX4_findsFits_30 : decode cX4_findsFits 30 = .ok (.iload 4, 2) := by decide +kernel
theorem dX4_findsFits_32 : decode cX4_findsFits 32 = .ok (.iastore, 1) := by decide +kernel
theorem dX4_findsFits_33 : decode cX4_findsFits 33 = .ok (.aload_n 0, 1) := by decide +kernel
theorem dX4_findsFits_34 : decode cX4_findsFits 34 = .ok (.iload_n 1, 1) := by decide +kernel
theorem dX4_findsFits_35 : decode cX4_findsFits 35 = .ok (.iconst 3, 1) := by decide +kernel
theorem dX4_findsFits_36 : decode cX4_findsFits 36 = .ok (.invokevirtual 184, 3) := by decide +kernel
theorem dX4_findsFits_39 : decode cX4_findsFits 39 = .ok (.ifCond .eq 19, 3) := by decide +kernel
theorem dX4_findsFits_42 : decode cX4_findsFits 42 = .ok (.aload_n 0, 1) := by decide +kernel
theorem dX4_findsFits_43 : decode cX4_findsFits 43 = .ok (.dup, 1) := by decide +kernel
theorem dX4_findsFits_44 : decode cX4_findsFits 44 = .ok (.getfield 180, 3) := by decide +kernel
theorem dX4_findsFits_47 : decode cX4_findsFits 47 = .ok (.iconst 1, 1) := by decide +kernel
theorem dX4_findsFits_48 : decode cX4_findsFits 48 = .ok (.iadd, 1) := by decide +kernel
theorem dX4_findsFits_49 : decode cX4_findsFits 49 = .ok (.putfield 180, 3) := by decide +kernel
theorem dX4_findsFits_52 : decode cX4_findsFits 52 = .ok (.aload_n 0, 1) := by decide +kernel
theorem dX4_findsFits_53 : decode cX4_findsFits 53 = .ok (.iload 4, 2) := by decide +kernel
theorem dX4_findsFits_55 : decode cX4_findsFits 55 = .ok (.putfield 187, 3) := by decide +kernel
theorem dX4_findsFits_58 : decode cX4_findsFits 58 = .ok (.iinc 4 (-1), 3) := by decide +kernel
theorem dX4_findsFits_61 : decode cX4_findsFits 61 = .ok (.goto (-45), 3) := by decide +kernel
theorem dX4_findsFits_64 : decode cX4_findsFits 64 = .ok (.aload_n 0, 1) := by decide +kernel
theorem dX4_findsFits_65 : decode cX4_findsFits 65 = .ok (.getfield 7, 3) := by decide +kernel
theorem dX4_findsFits_68 : decode cX4_findsFits 68 = .ok (.iload_n 2, 1) := by decide +kernel
theorem dX4_findsFits_69 : decode cX4_findsFits 69 = .ok (.iconst 2, 1) := by decide +kernel
theorem dX4_findsFits_70 : decode cX4_findsFits 70 = .ok (.invokestatic 70, 3) := by decide +kernel
theorem dX4_findsFits_73 : decode cX4_findsFits 73 = .ok (.iload_n 3, 1) := by decide +kernel
theorem dX4_findsFits_74 : decode cX4_findsFits 74 = .ok (.iastore, 1) := by decide +kernel
theorem dX4_findsFits_75 : decode cX4_findsFits 75 = .ok (.return_, 1) := by decide +kernel
theorem dX4_wantsFor_0 : decode cX4_wantsFor 0 = .ok (.aload_n 0, 1) := by decide +kernel
theorem dX4_wantsFor_1 : decode cX4_wantsFor 1 = .ok (.iload_n 1, 1) := by decide +kernel
theorem dX4_wantsFor_2 : decode cX4_wantsFor 2 = .ok (.invokevirtual 190, 3) := by decide +kernel
theorem dX4_wantsFor_5 : decode cX4_wantsFor 5 = .ok (.ifCond .eq 11, 3) := by decide +kernel
theorem dX4_wantsFor_8 : decode cX4_wantsFor 8 = .ok (.aload_n 0, 1) := by decide +kernel
theorem dX4_wantsFor_9 : decode cX4_wantsFor 9 = .ok (.iload_n 1, 1) := by decide +kernel
theorem dX4_wantsFor_10 : decode cX4_wantsFor 10 = .ok (.invokevirtual 190, 3) := by decide +kernel
theorem dX4_wantsFor_13 : decode cX4_wantsFor 13 = .ok (.goto 17, 3) := by decide +kernel
theorem dX4_wantsFor_16 : decode cX4_wantsFor 16 = .ok (.aload_n 0, 1) := by decide +kernel
theorem dX4_wantsFor_17 : decode cX4_wantsFor 17 = .ok (.iload_n 2, 1) := by decide +kernel
theorem dX4_wantsFor_18 : decode cX4_wantsFor 18 = .ok (.invokevirtual 86, 3) := by decide +kernel
theorem dX4_wantsFor_21 : decode cX4_wantsFor 21 = .ok (.ifCond .eq 7, 3) := by decide +kernel
theorem dX4_wantsFor_24 : decode cX4_wantsFor 24 = .ok (.iconst 0, 1) := by decide +kernel
theorem dX4_wantsFor_25 : decode cX4_wantsFor 25 = .ok (.goto 5, 3) := by decide +kernel
theorem dX4_wantsFor_28 : decode cX4_wantsFor 28 = .ok (.ldc 37, 2) := by decide +kernel
theorem dX4_wantsFor_30 : decode cX4_wantsFor 30 = .ok (.ireturn, 1) := by decide +kernel
theorem dX4_fits_0 : decode cX4_fits 0 = .ok (.aload_n 0, 1) := by decide +kernel
theorem dX4_fits_1 : decode cX4_fits 1 = .ok (.iload_n 1, 1) := by decide +kernel
theorem dX4_fits_2 : decode cX4_fits 2 = .ok (.iload_n 2, 1) := by decide +kernel
theorem dX4_fits_3 : decode cX4_fits 3 = .ok (.invokevirtual 193, 3) := by decide +kernel
theorem dX4_fits_6 : decode cX4_fits 6 = .ok (.istore_n 3, 1) := by decide +kernel
theorem dX4_fits_7 : decode cX4_fits 7 = .ok (.iload_n 3, 1) := by decide +kernel
theorem dX4_fits_8 : decode cX4_fits 8 = .ok (.ifCond .eq 9, 3) := by decide +kernel
theorem dX4_fits_11 : decode cX4_fits 11 = .ok (.aload_n 0, 1) := by decide +kernel
theorem dX4_fits_12 : decode cX4_fits 12 = .ok (.iload_n 3, 1) := by decide +kernel
theorem dX4_fits_13 : decode cX4_fits 13 = .ok (.invokevirtual 39, 3) := by decide +kernel
theorem dX4_fits_16 : decode cX4_fits 16 = .ok (.ireturn, 1) := by decide +kernel
theorem dX4_fits_17 : decode cX4_fits 17 = .ok (.aload_n 0, 1) := by decide +kernel
theorem dX4_fits_18 : decode cX4_fits 18 = .ok (.iload_n 1, 1) := by decide +kernel
theorem dX4_fits_19 : decode cX4_fits 19 = .ok (.iload_n 2, 1) := by decide +kernel
theorem dX4_fits_20 : decode cX4_fits 20 = .ok (.invokevirtual 196, 3) := by decide +kernel
theorem dX4_fits_23 : decode cX4_fits 23 = .ok (.aload_n 0, 1) := by decide +kernel
theorem dX4_fits_24 : decode cX4_fits 24 = .ok (.getfield 180, 3) := by decide +kernel
theorem dX4_fits_27 : decode cX4_fits 27 = .ok (.ireturn, 1) := by decide +kernel
theorem dX4_pealed_0 : decode cX4_pealed 0 = .ok (.aload_n 0, 1) := by decide +kernel
theorem dX4_pealed_1 : decode cX4_pealed 1 = .ok (.iload_n 1, 1) := by decide +kernel
theorem dX4_pealed_2 : decode cX4_pealed 2 = .ok (.iload_n 2, 1) := by decide +kernel
theorem dX4_pealed_3 : decode cX4_pealed 3 = .ok (.invokevirtual 193, 3) := by decide +kernel
theorem dX4_pealed_6 : decode cX4_pealed 6 = .ok (.istore_n 3, 1) := by decide +kernel
theorem dX4_pealed_7 : decode cX4_pealed 7 = .ok (.iload_n 3, 1) := by decide +kernel
theorem dX4_pealed_8 : decode cX4_pealed 8 = .ok (.ifCond .eq 9, 3) := by decide +kernel
theorem dX4_pealed_11 : decode cX4_pealed 11 = .ok (.aload_n 0, 1) := by decide +kernel
theorem dX4_pealed_12 : decode cX4_pealed 12 = .ok (.iload_n 3, 1) := by decide +kernel
theorem dX4_pealed_13 : decode cX4_pealed 13 = .ok (.invokevirtual 39, 3) := by decide +kernel
theorem dX4_pealed_16 : decode cX4_pealed 16 = .ok (.ireturn, 1) := by decide +kernel
theorem dX4_pealed_17 : decode cX4_pealed 17 = .ok (.aload_n 0, 1) := by decide +kernel
theorem dX4_pealed_18 : decode cX4_pealed 18 = .ok (.iload_n 1, 1) := by decide +kernel
theorem dX4_pealed_19 : decode cX4_pealed 19 = .ok (.iload_n 2, 1) := by decide +kernel
theorem dX4_pealed_20 : decode cX4_pealed 20 = .ok (.invokevirtual 196, 3) := by decide +kernel
theorem dX4_pealed_23 : decode cX4_pealed 23 = .ok (.aload_n 0, 1) := by decide +kernel
theorem dX4_pealed_24 : decode cX4_pealed 24 = .ok (.getfield 180, 3) := by decide +kernel
theorem dX4_pealed_27 : decode cX4_pealed 27 = .ok (.ifCond .le 10, 3) := by decide +kernel
theorem dX4_pealed_30 : decode cX4_pealed 30 = .ok (.aload_n 0, 1) := by decide +kernel
theorem dX4_pealed_31 : decode cX4_pealed 31 = .ok (.getfield 187, 3) := by decide +kernel
theorem dX4_pealed_34 : decode cX4_pealed 34 = .ok (.goto 9, 3) := by decide +kernel
theorem dX4_pealed_37 : decode cX4_pealed 37 = .ok (.aload_n 0, 1) := by decide +kernel
theorem dX4_pealed_38 : decode cX4_pealed 38 = .ok (.ldc 38, 2) := by decide +kernel
theorem dX4_pealed_40 : decode cX4_pealed 40 = .ok (.invokevirtual 39, 3) := by decide +kernel
theorem dX4_pealed_43 : decode cX4_pealed 43 = .ok (.ireturn, 1) := by decide +kernel
theorem dX4_kinds_0 : decode cX4_kinds 0 = .ok (.aload_n 0, 1) := by decide +kernel
theorem dX4_kinds_1 : decode cX4_kinds 1 = .ok (.iload_n 1, 1) := by decide +kernel
theorem dX4_kinds_2 : decode cX4_kinds 2 = .ok (.iload_n 2, 1) := by decide +kernel
theorem dX4_kinds_3 : decode cX4_kinds 3 = .ok (.invokevirtual 193, 3) := by decide +kernel
theorem dX4_kinds_6 : decode cX4_kinds 6 = .ok (.istore_n 3, 1) := by decide +kernel
theorem dX4_kinds_7 : decode cX4_kinds 7 = .ok (.iload_n 3, 1) := by decide +kernel
theorem dX4_kinds_8 : decode cX4_kinds 8 = .ok (.ifCond .eq 9, 3) := by decide +kernel
theorem dX4_kinds_11 : decode cX4_kinds 11 = .ok (.aload_n 0, 1) := by decide +kernel
theorem dX4_kinds_12 : decode cX4_kinds 12 = .ok (.iload_n 3, 1) := by decide +kernel
theorem dX4_kinds_13 : decode cX4_kinds 13 = .ok (.invokevirtual 39, 3) := by decide +kernel
theorem dX4_kinds_16 : decode cX4_kinds 16 = .ok (.ireturn, 1) := by decide +kernel
theorem dX4_kinds_17 : decode cX4_kinds 17 = .ok (.aload_n 0, 1) := by decide +kernel
theorem dX4_kinds_18 : decode cX4_kinds 18 = .ok (.iload_n 2, 1) := by decide +kernel
theorem dX4_kinds_19 : decode cX4_kinds 19 = .ok (.iconst 0, 1) := by decide +kernel
theorem dX4_kinds_20 : decode cX4_kinds 20 = .ok (.invokevirtual 57, 3) := by decide +kernel
theorem dX4_kinds_23 : decode cX4_kinds 23 = .ok (.istore 4, 2) := by decide +kernel
theorem dX4_kinds_25 : decode cX4_kinds 25 = .ok (.iconst 0, 1) := by decide +kernel
theorem dX4_kinds_26 : decode cX4_kinds 26 = .ok (.istore 5, 2) := by decide +kernel
theorem dX4_kinds_28 : decode cX4_kinds 28 = .ok (.iconst 0, 1) := by decide +kernel
theorem dX4_kinds_29 : decode cX4_kinds 29 = .ok (.istore 6, 2) := by decide +kernel
theorem dX4_kinds_31 : decode cX4_kinds 31 = .ok (.iload 6, 2) := by decide +kernel
theorem dX4_kinds_33 : decode cX4_kinds 33 = .ok (.bipush 6, 2) := by decide +kernel
theorem dX4_kinds_35 : decode cX4_kinds 35 = .ok (.if_icmp .gt 47, 3) := by decide +kernel
theorem dX4_kinds_38 : decode cX4_kinds 38 = .ok (.aload_n 0, 1) := by decide +kernel
theorem dX4_kinds_39 : decode cX4_kinds 39 = .ok (.getfield 7, 3) := by decide +kernel
theorem dX4_kinds_42 : decode cX4_kinds 42 = .ok (.iload_n 2, 1) := by decide +kernel
theorem dX4_kinds_43 : decode cX4_kinds 43 = .ok (.iconst 0, 1) := by decide +kernel
theorem dX4_kinds_44 : decode cX4_kinds 44 = .ok (.invokestatic 70, 3) := by decide +kernel
theorem dX4_kinds_47 : decode cX4_kinds 47 = .ok (.iload 6, 2) := by decide +kernel
theorem dX4_kinds_49 : decode cX4_kinds 49 = .ok (.iastore, 1) := by decide +kernel
theorem dX4_kinds_50 : decode cX4_kinds 50 = .ok (.iload 5, 2) := by decide +kernel
theorem dX4_kinds_52 : decode cX4_kinds 52 = .ok (.aload_n 0, 1) := by decide +kernel
theorem dX4_kinds_53 : decode cX4_kinds 53 = .ok (.iload_n 1, 1) := by decide +kernel
theorem dX4_kinds_54 : decode cX4_kinds 54 = .ok (.iload_n 2, 1) := by decide +kernel
theorem dX4_kinds_55 : decode cX4_kinds 55 = .ok (.iconst 2, 1) := by decide +kernel
theorem dX4_kinds_56 : decode cX4_kinds 56 = .ok (.invokestatic 70, 3) := by decide +kernel
theorem dX4_kinds_59 : decode cX4_kinds 59 = .ok (.invokevirtual 184, 3) := by decide +kernel
theorem dX4_kinds_62 : decode cX4_kinds 62 = .ok (.ifCond .eq 10, 3) := by decide +kernel
theorem dX4_kinds_65 : decode cX4_kinds 65 = .ok (.iconst 1, 1) := by decide +kernel
theorem dX4_kinds_66 : decode cX4_kinds 66 = .ok (.iload 6, 2) := by decide +kernel
theorem dX4_kinds_68 : decode cX4_kinds 68 = .ok (.ishl, 1) := by decide +kernel
theorem dX4_kinds_69 : decode cX4_kinds 69 = .ok (.goto 4, 3) := by decide +kernel
theorem dX4_kinds_72 : decode cX4_kinds 72 = .ok (.iconst 0, 1) := by decide +kernel
theorem dX4_kinds_73 : decode cX4_kinds 73 = .ok (.ior, 1) := by decide +kernel
theorem dX4_kinds_74 : decode cX4_kinds 74 = .ok (.istore 5, 2) := by decide +kernel
theorem dX4_kinds_76 : decode cX4_kinds 76 = .ok (.iinc 6 1, 3) := by decide +kernel
theorem dX4_kinds_79 : decode cX4_kinds 79 = .ok (.goto (-48), 3) := by decide +kernel
theorem dX4_kinds_82 : decode cX4_kinds 82 = .ok (.aload_n 0, 1) := by decide +kernel
theorem dX4_kinds_83 : decode cX4_kinds 83 = .ok (.getfield 7, 3) := by decide +kernel
theorem dX4_kinds_86 : decode cX4_kinds 86 = .ok (.iload_n 2, 1) := by decide +kernel
theorem dX4_kinds_87 : decode cX4_kinds 87 = .ok (.iconst 0, 1) := by decide +kernel
theorem dX4_kinds_88 : decode cX4_kinds 88 = .ok (.invokestatic 70, 3) := by decide +kernel
theorem dX4_kinds_91 : decode cX4_kinds 91 = .ok (.iload 4, 2) := by decide +kernel
theorem dX4_kinds_93 : decode cX4_kinds 93 = .ok (.iastore, 1) := by decide +kernel
theorem dX4_kinds_94 : decode cX4_kinds 94 = .ok (.iload 5, 2) := by decide +kernel
theorem dX4_kinds_96 : decode cX4_kinds 96 = .ok (.ireturn, 1) := by decide +kernel
theorem dX4_draw_0 : decode cX4_draw 0 = .ok (.aload_n 0, 1) := by decide +kernel
theorem dX4_draw_1 : decode cX4_draw 1 = .ok (.getfield 7, 3) := by decide +kernel
theorem dX4_draw_4 : decode cX4_draw 4 = .ok (.iconst 2, 1) := by decide +kernel
theorem dX4_draw_5 : decode cX4_draw 5 = .ok (.aload_n 0, 1) := by decide +kernel
theorem dX4_draw_6 : decode cX4_draw 6 = .ok (.getfield 7, 3) := by decide +kernel
theorem dX4_draw_9 : decode cX4_draw 9 = .ok (.iconst 2, 1) := by decide +kernel
theorem dX4_draw_10 : decode cX4_draw 10 = .ok (.iaload, 1) := by decide +kernel
theorem dX4_draw_11 : decode cX4_draw 11 = .ok (.ldc 199, 2) := by decide +kernel
theorem dX4_draw_13 : decode cX4_draw 13 = .ok (.imul, 1) := by decide +kernel
theorem dX4_draw_14 : decode cX4_draw 14 = .ok (.sipush 12345, 3) := by decide +kernel
theorem dX4_draw_17 : decode cX4_draw 17 = .ok (.iadd, 1) := by decide +kernel
theorem dX4_draw_18 : decode cX4_draw 18 = .ok (.iastore, 1) := by decide +kernel
theorem dX4_draw_19 : decode cX4_draw 19 = .ok (.aload_n 0, 1) := by decide +kernel
theorem dX4_draw_20 : decode cX4_draw 20 = .ok (.getfield 7, 3) := by decide +kernel
theorem dX4_draw_23 : decode cX4_draw 23 = .ok (.iconst 2, 1) := by decide +kernel
theorem dX4_draw_24 : decode cX4_draw 24 = .ok (.iaload, 1) := by decide +kernel
theorem dX4_draw_25 : decode cX4_draw 25 = .ok (.bipush 8, 2) := by decide +kernel
theorem dX4_draw_27 : decode cX4_draw 27 = .ok (.iushr, 1) := by decide +kernel
theorem dX4_draw_28 : decode cX4_draw 28 = .ok (.ireturn, 1) := by decide +kernel
theorem dX4_storms_0 : decode cX4_storms 0 = .ok (.iload_n 1, 1) := by decide +kernel
theorem dX4_storms_1 : decode cX4_storms 1 = .ok (.i2l, 1) := by decide +kernel
theorem dX4_storms_2 : decode cX4_storms 2 = .ok (.lconst 1, 1) := by decide +kernel
theorem dX4_storms_3 : decode cX4_storms 3 = .ok (.ldc2_w 168, 3) := by decide +kernel
theorem dX4_storms_6 : decode cX4_storms 6 = .ok (.invokestatic 49, 3) := by decide +kernel
theorem dX4_storms_9 : decode cX4_storms 9 = .ok (.ifCond .ne 10, 3) := by decide +kernel
theorem dX4_storms_12 : decode cX4_storms 12 = .ok (.aload_n 0, 1) := by decide +kernel
theorem dX4_storms_13 : decode cX4_storms 13 = .ok (.ldc 37, 2) := by decide +kernel
theorem dX4_storms_15 : decode cX4_storms 15 = .ok (.invokevirtual 39, 3) := by decide +kernel
theorem dX4_storms_18 : decode cX4_storms 18 = .ok (.ireturn, 1) := by decide +kernel
theorem dX4_storms_19 : decode cX4_storms 19 = .ok (.aload_n 0, 1) := by decide +kernel
theorem dX4_storms_20 : decode cX4_storms 20 = .ok (.getfield 7, 3) := by decide +kernel
theorem dX4_storms_23 : decode cX4_storms 23 = .ok (.iconst 1, 1) := by decide +kernel
theorem dX4_storms_24 : decode cX4_storms 24 = .ok (.iaload, 1) := by decide +kernel
theorem dX4_storms_25 : decode cX4_storms 25 = .ok (.iload_n 1, 1) := by decide +kernel
theorem dX4_storms_26 : decode cX4_storms 26 = .ok (.iadd, 1) := by decide +kernel
theorem dX4_storms_27 : decode cX4_storms 27 = .ok (.ldc 107, 2) := by decide +kernel
theorem dX4_storms_29 : decode cX4_storms 29 = .ok (.if_icmp .le 10, 3) := by decide +kernel
theorem dX4_storms_32 : decode cX4_storms 32 = .ok (.aload_n 0, 1) := by decide +kernel
theorem dX4_storms_33 : decode cX4_storms 33 = .ok (.ldc 124, 2) := by decide +kernel
theorem dX4_storms_35 : decode cX4_storms 35 = .ok (.invokevirtual 39, 3) := by decide +kernel
theorem dX4_storms_38 : decode cX4_storms 38 = .ok (.ireturn, 1) := by decide +kernel
theorem dX4_storms_39 : decode cX4_storms 39 = .ok (.iconst 0, 1) := by decide +kernel
theorem dX4_storms_40 : decode cX4_storms 40 = .ok (.istore_n 2, 1) := by decide +kernel
theorem dX4_storms_41 : decode cX4_storms 41 = .ok (.iload_n 2, 1) := by decide +kernel
theorem dX4_storms_42 : decode cX4_storms 42 = .ok (.iload_n 1, 1) := by decide +kernel
theorem dX4_storms_43 : decode cX4_storms 43 = .ok (.if_icmp .ge 37, 3) := by decide +kernel
theorem dX4_storms_46 : decode cX4_storms 46 = .ok (.aload_n 0, 1) := by decide +kernel
theorem dX4_storms_47 : decode cX4_storms 47 = .ok (.invokevirtual 200, 3) := by decide +kernel
theorem dX4_storms_50 : decode cX4_storms 50 = .ok (.bipush 6, 2) := by decide +kernel
theorem dX4_storms_52 : decode cX4_storms 52 = .ok (.irem, 1) := by decide +kernel
theorem dX4_storms_53 : decode cX4_storms 53 = .ok (.istore_n 3, 1) := by decide +kernel
theorem dX4_storms_54 : decode cX4_storms 54 = .ok (.aload_n 0, 1) := by decide +kernel
theorem dX4_storms_55 : decode cX4_storms 55 = .ok (.getfield 7, 3) := by decide +kernel
theorem dX4_storms_58 : decode cX4_storms 58 = .ok (.bipush 10, 2) := by decide +kernel
theorem dX4_storms_60 : decode cX4_storms 60 = .ok (.iload_n 3, 1) := by decide +kernel
theorem dX4_storms_61 : decode cX4_storms 61 = .ok (.iadd, 1) := by decide +kernel
theorem dX4_storms_62 : decode cX4_storms 62 = .ok (.aload_n 0, 1) := by decide +kernel
theorem dX4_storms_63 : decode cX4_storms 63 = .ok (.invokevirtual 200, 3) := by decide +kernel
theorem dX4_storms_66 : decode cX4_storms 66 = .ok (.bipush 100, 2) := by decide +kernel
theorem dX4_storms_68 : decode cX4_storms 68 = .ok (.irem, 1) := by decide +kernel
theorem dX4_storms_69 : decode cX4_storms 69 = .ok (.iastore, 1) := by decide +kernel
theorem dX4_storms_70 : decode cX4_storms 70 = .ok (.aload_n 0, 1) := by decide +kernel
theorem dX4_storms_71 : decode cX4_storms 71 = .ok (.invokevirtual 119, 3) := by decide +kernel
theorem dX4_storms_74 : decode cX4_storms 74 = .ok (.iinc 2 1, 3) := by decide +kernel
theorem dX4_storms_77 : decode cX4_storms 77 = .ok (.goto (-36), 3) := by decide +kernel
theorem dX4_storms_80 : decode cX4_storms 80 = .ok (.aload_n 0, 1) := by decide +kernel
theorem dX4_storms_81 : decode cX4_storms 81 = .ok (.getfield 7, 3) := by decide +kernel
theorem dX4_storms_84 : decode cX4_storms 84 = .ok (.iconst 3, 1) := by decide +kernel
theorem dX4_storms_85 : decode cX4_storms 85 = .ok (.iaload, 1) := by decide +kernel
theorem dX4_storms_86 : decode cX4_storms 86 = .ok (.ireturn, 1) := by decide +kernel
theorem dX4_odds_0 : decode cX4_odds 0 = .ok (.iload_n 1, 1) := by decide +kernel
theorem dX4_odds_1 : decode cX4_odds 1 = .ok (.i2l, 1) := by decide +kernel
theorem dX4_odds_2 : decode cX4_odds 2 = .ok (.lconst 0, 1) := by decide +kernel
theorem dX4_odds_3 : decode cX4_odds 3 = .ok (.ldc2_w 203, 3) := by decide +kernel
theorem dX4_odds_6 : decode cX4_odds 6 = .ok (.invokestatic 49, 3) := by decide +kernel
theorem dX4_odds_9 : decode cX4_odds 9 = .ok (.ifCond .eq 13, 3) := by decide +kernel
theorem dX4_odds_12 : decode cX4_odds 12 = .ok (.iload_n 2, 1) := by decide +kernel
theorem dX4_odds_13 : decode cX4_odds 13 = .ok (.i2l, 1) := by decide +kernel
theorem dX4_odds_14 : decode cX4_odds 14 = .ok (.lconst 0, 1) := by decide +kernel
theorem dX4_odds_15 : decode cX4_odds 15 = .ok (.lconst 1, 1) := by decide +kernel
theorem dX4_odds_16 : decode cX4_odds 16 = .ok (.invokestatic 49, 3) := by decide +kernel
theorem dX4_odds_19 : decode cX4_odds 19 = .ok (.ifCond .ne 11, 3) := by decide +kernel
theorem dX4_odds_22 : decode cX4_odds 22 = .ok (.aload_n 0, 1) := by decide +kernel
theorem dX4_odds_23 : decode cX4_odds 23 = .ok (.ldc 37, 2) := by decide +kernel
theorem dX4_odds_25 : decode cX4_odds 25 = .ok (.invokevirtual 39, 3) := by decide +kernel
theorem dX4_odds_28 : decode cX4_odds 28 = .ok (.i2l, 1) := by decide +kernel
theorem dX4_odds_29 : decode cX4_odds 29 = .ok (.lreturn, 1) := by decide +kernel
theorem dX4_odds_30 : decode cX4_odds 30 = .ok (.lconst 1, 1) := by decide +kernel
theorem dX4_odds_31 : decode cX4_odds 31 = .ok (.lstore_n 3, 1) := by decide +kernel
theorem dX4_odds_32 : decode cX4_odds 32 = .ok (.lconst 1, 1) := by decide +kernel
theorem dX4_odds_33 : decode cX4_odds 33 = .ok (.lstore 5, 2) := by decide +kernel
theorem dX4_odds_35 : decode cX4_odds 35 = .ok (.bipush 6, 2) := by decide +kernel
theorem dX4_odds_37 : decode cX4_odds 37 = .ok (.aload_n 0, 1) := by decide +kernel
theorem dX4_odds_38 : decode cX4_odds 38 = .ok (.invokevirtual 137, 3) := by decide +kernel
theorem dX4_odds_41 : decode cX4_odds 41 = .ok (.invokestatic 83, 3) := by decide +kernel
theorem dX4_odds_44 : decode cX4_odds 44 = .ok (.isub, 1) := by decide +kernel
theorem dX4_odds_45 : decode cX4_odds 45 = .ok (.istore 7, 2) := by decide +kernel
theorem dX4_odds_47 : decode cX4_odds 47 = .ok (.iconst 0, 1) := by decide +kernel
theorem dX4_odds_48 : decode cX4_odds 48 = .ok (.istore 8, 2) := by decide +kernel
theorem dX4_odds_50 : decode cX4_odds 50 = .ok (.iload 8, 2) := by decide +kernel
theorem dX4_odds_52 : decode cX4_odds 52 = .ok (.iload_n 1, 1) := by decide +kernel
theorem dX4_odds_53 : decode cX4_odds 53 = .ok (.if_icmp .ge 23, 3) := by decide +kernel
theorem dX4_odds_56 : decode cX4_odds 56 = .ok (.lload_n 3, 1) := by decide +kernel
theorem dX4_odds_57 : decode cX4_odds 57 = .ok (.iload 7, 2) := by decide +kernel
theorem dX4_odds_59 : decode cX4_odds 59 = .ok (.i2l, 1) := by decide +kernel
theorem dX4_odds_60 : decode cX4_odds 60 = .ok (.lmul, 1) := by decide +kernel
theorem dX4_odds_61 : decode cX4_odds 61 = .ok (.lstore_n 3, 1) := by decide +kernel
theorem dX4_odds_62 : decode cX4_odds 62 = .ok (.lload 5, 2) := by decide +kernel
theorem dX4_odds_64 : decode cX4_odds 64 = .ok (.ldc2_w 73, 3) := by decide +kernel
theorem dX4_odds_67 : decode cX4_odds 67 = .ok (.lmul, 1) := by decide +kernel
theorem dX4_odds_68 : decode cX4_odds 68 = .ok (.lstore 5, 2) := by decide +kernel
theorem dX4_odds_70 : decode cX4_odds 70 = .ok (.iinc 8 1, 3) := by decide +kernel
theorem dX4_odds_73 : decode cX4_odds 73 = .ok (.goto (-23), 3) := by decide +kernel
theorem dX4_odds_76 : decode cX4_odds 76 = .ok (.lload 5, 2) := by decide +kernel
theorem dX4_odds_78 : decode cX4_odds 78 = .ok (.lstore 8, 2) := by decide +kernel
theorem dX4_odds_80 : decode cX4_odds 80 = .ok (.lload_n 3, 1) := by decide +kernel
theorem dX4_odds_81 : decode cX4_odds 81 = .ok (.lstore 10, 2) := by decide +kernel
theorem dX4_odds_83 : decode cX4_odds 83 = .ok (.lload 10, 2) := by decide +kernel
theorem dX4_odds_85 : decode cX4_odds 85 = .ok (.lconst 0, 1) := by decide +kernel
theorem dX4_odds_86 : decode cX4_odds 86 = .ok (.lcmp, 1) := by decide +kernel
theorem dX4_odds_87 : decode cX4_odds 87 = .ok (.ifCond .eq 21, 3) := by decide +kernel
theorem dX4_odds_90 : decode cX4_odds 90 = .ok (.lload 8, 2) := by decide +kernel
theorem dX4_odds_92 : decode cX4_odds 92 = .ok (.lload 10, 2) := by decide +kernel
theorem dX4_odds_94 : decode cX4_odds 94 = .ok (.lrem, 1) := by decide +kernel
theorem dX4_odds_95 : decode cX4_odds 95 = .ok (.lstore 12, 2) := by decide +kernel
theorem dX4_odds_97 : decode cX4_odds 97 = .ok (.lload 10, 2) := by decide +kernel
theorem dX4_odds_99 : decode cX4_odds 99 = .ok (.lstore 8, 2) := by decide +kernel
theorem dX4_odds_101 : decode cX4_odds 101 = .ok (.lload 12, 2) := by decide +kernel
theorem dX4_odds_103 : decode cX4_odds 103 = .ok (.lstore 10, 2) := by decide +kernel
theorem dX4_odds_105 : decode cX4_odds 105 = .ok (.goto (-22), 3) := by decide +kernel
theorem dX4_odds_108 : decode cX4_odds 108 = .ok (.iload_n 2, 1) := by decide +kernel
theorem dX4_odds_109 : decode cX4_odds 109 = .ok (.ifCond .ne 10, 3) := by decide +kernel
theorem dX4_odds_112 : decode cX4_odds 112 = .ok (.lload_n 3, 1) := by decide +kernel
theorem dX4_odds_113 : decode cX4_odds 113 = .ok (.lload 8, 2) := by decide +kernel
theorem dX4_odds_115 : decode cX4_odds 115 = .ok (.ldiv, 1) := by decide +kernel
theorem dX4_odds_116 : decode cX4_odds 116 = .ok (.goto 8, 3) := by decide +kernel
theorem dX4_odds_119 : decode cX4_odds 119 = .ok (.lload 5, 2) := by decide +kernel
theorem dX4_odds_121 : decode cX4_odds 121 = .ok (.lload 8, 2) := by decide +kernel
theorem dX4_odds_123 : decode cX4_odds 123 = .ok (.ldiv, 1) := by decide +kernel
theorem dX4_odds_124 : decode cX4_odds 124 = .ok (.lreturn, 1) := by decide +kernel
theorem dX4_seed_0 : decode cX4_seed 0 = .ok (.aload_n 0, 1) := by decide +kernel
theorem dX4_seed_1 : decode cX4_seed 1 = .ok (.iconst 2, 1) := by decide +kernel
theorem dX4_seed_2 : decode cX4_seed 2 = .ok (.iload_n 1, 1) := by decide +kernel
theorem dX4_seed_3 : decode cX4_seed 3 = .ok (.invokevirtual 53, 3) := by decide +kernel
theorem dX4_seed_6 : decode cX4_seed 6 = .ok (.ireturn, 1) := by decide +kernel
theorem dX4_feed_0 : decode cX4_feed 0 = .ok (.iload_n 2, 1) := by decide +kernel
theorem dX4_feed_1 : decode cX4_feed 1 = .ok (.i2l, 1) := by decide +kernel
theorem dX4_feed_2 : decode cX4_feed 2 = .ok (.lconst 1, 1) := by decide +kernel
theorem dX4_feed_3 : decode cX4_feed 3 = .ok (.ldc2_w 205, 3) := by decide +kernel
theorem dX4_feed_6 : decode cX4_feed 6 = .ok (.invokestatic 49, 3) := by decide +kernel
theorem dX4_feed_9 : decode cX4_feed 9 = .ok (.ifCond .ne 10, 3) := by decide +kernel
theorem dX4_feed_12 : decode cX4_feed 12 = .ok (.aload_n 0, 1) := by decide +kernel
theorem dX4_feed_13 : decode cX4_feed 13 = .ok (.ldc 37, 2) := by decide +kernel
theorem dX4_feed_15 : decode cX4_feed 15 = .ok (.invokevirtual 39, 3) := by decide +kernel
theorem dX4_feed_18 : decode cX4_feed 18 = .ok (.ireturn, 1) := by decide +kernel
theorem dX4_feed_19 : decode cX4_feed 19 = .ok (.aload_n 0, 1) := by decide +kernel
theorem dX4_feed_20 : decode cX4_feed 20 = .ok (.getfield 207, 3) := by decide +kernel
theorem dX4_feed_23 : decode cX4_feed 23 = .ok (.iload_n 2, 1) := by decide +kernel
theorem dX4_feed_24 : decode cX4_feed 24 = .ok (.iadd, 1) := by decide +kernel
theorem dX4_feed_25 : decode cX4_feed 25 = .ok (.bipush 120, 2) := by decide +kernel
theorem dX4_feed_27 : decode cX4_feed 27 = .ok (.if_icmp .le 10, 3) := by decide +kernel
theorem dX4_feed_30 : decode cX4_feed 30 = .ok (.aload_n 0, 1) := by decide +kernel
theorem dX4_feed_31 : decode cX4_feed 31 = .ok (.ldc 75, 2) := by decide +kernel
theorem dX4_feed_33 : decode cX4_feed 33 = .ok (.invokevirtual 39, 3) := by decide +kernel
theorem dX4_feed_36 : decode cX4_feed 36 = .ok (.ireturn, 1) := by decide +kernel
theorem dX4_feed_37 : decode cX4_feed 37 = .ok (.iload_n 2, 1) := by decide +kernel
theorem dX4_feed_38 : decode cX4_feed 38 = .ok (.iconst 1, 1) := by decide +kernel
theorem dX4_feed_39 : decode cX4_feed 39 = .ok (.isub, 1) := by decide +kernel
theorem dX4_feed_40 : decode cX4_feed 40 = .ok (.istore_n 3, 1) := by decide +kernel
theorem dX4_feed_41 : decode cX4_feed 41 = .ok (.iload_n 3, 1) := by decide +kernel
theorem dX4_feed_42 : decode cX4_feed 42 = .ok (.ifCond .lt 38, 3) := by decide +kernel
theorem dX4_feed_45 : decode cX4_feed 45 = .ok (.aload_n 0, 1) := by decide +kernel
theorem dX4_feed_46 : decode cX4_feed 46 = .ok (.getfield 25, 3) := by decide +kernel
theorem dX4_feed_49 : decode cX4_feed 49 = .ok (.aload_n 0, 1) := by decide +kernel
theorem dX4_feed_50 : decode cX4_feed 50 = .ok (.getfield 207, 3) := by decide +kernel
theorem dX4_feed_53 : decode cX4_feed 53 = .ok (.iload_n 1, 1) := by decide +kernel
theorem dX4_feed_54 : decode cX4_feed 54 = .ok (.bipush 8, 2) := by decide +kernel
theorem dX4_feed_56 : decode cX4_feed 56 = .ok (.iload_n 3, 1) := by decide +kernel
theorem dX4_feed_57 : decode cX4_feed 57 = .ok (.imul, 1) := by decide +kernel
theorem dX4_feed_58 : decode cX4_feed 58 = .ok (.ishr, 1) := by decide +kernel
theorem dX4_feed_59 : decode cX4_feed 59 = .ok (.sipush 255, 3) := by decide +kernel
theorem dX4_feed_62 : decode cX4_feed 62 = .ok (.iand, 1) := by decide +kernel
theorem dX4_feed_63 : decode cX4_feed 63 = .ok (.iastore, 1) := by decide +kernel
theorem dX4_feed_64 : decode cX4_feed 64 = .ok (.aload_n 0, 1) := by decide +kernel
theorem dX4_feed_65 : decode cX4_feed 65 = .ok (.dup, 1) := by decide +kernel
theorem dX4_feed_66 : decode cX4_feed 66 = .ok (.getfield 207, 3) := by decide +kernel
theorem dX4_feed_69 : decode cX4_feed 69 = .ok (.iconst 1, 1) := by decide +kernel
theorem dX4_feed_70 : decode cX4_feed 70 = .ok (.iadd, 1) := by decide +kernel
theorem dX4_feed_71 : decode cX4_feed 71 = .ok (.putfield 207, 3) := by decide +kernel
theorem dX4_feed_74 : decode cX4_feed 74 = .ok (.iinc 3 (-1), 3) := by decide +kernel
theorem dX4_feed_77 : decode cX4_feed 77 = .ok (.goto (-36), 3) := by decide +kernel
theorem dX4_feed_80 : decode cX4_feed 80 = .ok (.aload_n 0, 1) := by decide +kernel
theorem dX4_feed_81 : decode cX4_feed 81 = .ok (.getfield 207, 3) := by decide +kernel
theorem dX4_feed_84 : decode cX4_feed 84 = .ok (.ireturn, 1) := by decide +kernel
theorem dX4_wipe_0 : decode cX4_wipe 0 = .ok (.aload_n 0, 1) := by decide +kernel
theorem dX4_wipe_1 : decode cX4_wipe 1 = .ok (.getfield 207, 3) := by decide +kernel
theorem dX4_wipe_4 : decode cX4_wipe 4 = .ok (.istore_n 1, 1) := by decide +kernel
theorem dX4_wipe_5 : decode cX4_wipe 5 = .ok (.aload_n 0, 1) := by decide +kernel
theorem dX4_wipe_6 : decode cX4_wipe 6 = .ok (.iconst 0, 1) := by decide +kernel
theorem dX4_wipe_7 : decode cX4_wipe 7 = .ok (.putfield 207, 3) := by decide +kernel
theorem dX4_wipe_10 : decode cX4_wipe 10 = .ok (.iload_n 1, 1) := by decide +kernel
theorem dX4_wipe_11 : decode cX4_wipe 11 = .ok (.ireturn, 1) := by decide +kernel
theorem dX4_isLetter_0 : decode cX4_isLetter 0 = .ok (.iload_n 0, 1) := by decide +kernel
theorem dX4_isLetter_1 : decode cX4_isLetter 1 = .ok (.bipush 97, 2) := by decide +kernel
theorem dX4_isLetter_3 : decode cX4_isLetter 3 = .ok (.if_icmp .lt 13, 3) := by decide +kernel
theorem dX4_isLetter_6 : decode cX4_isLetter 6 = .ok (.iload_n 0, 1) := by decide +kernel
theorem dX4_isLetter_7 : decode cX4_isLetter 7 = .ok (.bipush 122, 2) := by decide +kernel
theorem dX4_isLetter_9 : decode cX4_isLetter 9 = .ok (.if_icmp .gt 7, 3) := by decide +kernel
theorem dX4_isLetter_12 : decode cX4_isLetter 12 = .ok (.iconst 1, 1) := by decide +kernel
theorem dX4_isLetter_13 : decode cX4_isLetter 13 = .ok (.goto 4, 3) := by decide +kernel
theorem dX4_isLetter_16 : decode cX4_isLetter 16 = .ok (.iconst 0, 1) := by decide +kernel
theorem dX4_isLetter_17 : decode cX4_isLetter 17 = .ok (.ireturn, 1) := by decide +kernel
theorem dX4_isDigit_0 : decode cX4_isDigit 0 = .ok (.iload_n 0, 1) := by decide +kernel
theorem dX4_isDigit_1 : decode cX4_isDigit 1 = .ok (.bipush 48, 2) := by decide +kernel
theorem dX4_isDigit_3 : decode cX4_isDigit 3 = .ok (.if_icmp .lt 13, 3) := by decide +kernel
theorem dX4_isDigit_6 : decode cX4_isDigit 6 = .ok (.iload_n 0, 1) := by decide +kernel
theorem dX4_isDigit_7 : decode cX4_isDigit 7 = .ok (.bipush 57, 2) := by decide +kernel
theorem dX4_isDigit_9 : decode cX4_isDigit 9 = .ok (.if_icmp .gt 7, 3) := by decide +kernel
theorem dX4_isDigit_12 : decode cX4_isDigit 12 = .ok (.iconst 1, 1) := by decide +kernel
theorem dX4_isDigit_13 : decode cX4_isDigit 13 = .ok (.goto 4, 3) := by decide +kernel
theorem dX4_isDigit_16 : decode cX4_isDigit 16 = .ok (.iconst 0, 1) := by decide +kernel
theorem dX4_isDigit_17 : decode cX4_isDigit 17 = .ok (.ireturn, 1) := by decide +kernel
theorem dX4_byteAt_0 : decode cX4_byteAt 0 = .ok (.iload_n 1, 1) := by decide +kernel
theorem dX4_byteAt_1 : decode cX4_byteAt 1 = .ok (.aload_n 0, 1) := by decide +kernel
theorem dX4_byteAt_2 : decode cX4_byteAt 2 = .ok (.getfield 207, 3) := by decide +kernel
theorem dX4_byteAt_5 : decode cX4_byteAt 5 = .ok (.if_icmp .ge 12, 3) := by decide +kernel
theorem dX4_byteAt_8 : decode cX4_byteAt 8 = .ok (.aload_n 0, 1) := by decide +kernel
theorem dX4_byteAt_9 : decode cX4_byteAt 9 = .ok (.getfield 25, 3) := by decide +kernel
theorem dX4_byteAt_12 : decode cX4_byteAt 12 = .ok (.iload_n 1, 1) := by decide +kernel
theorem dX4_byteAt_13 : decode cX4_byteAt 13 = .ok (.iaload, 1) := by decide +kernel
theorem dX4_byteAt_14 : decode cX4_byteAt 14 = .ok (.goto 4, 3) := by decide +kernel
theorem dX4_byteAt_17 : decode cX4_byteAt 17 = .ok (.iconst (-1), 1) := by decide +kernel
theorem dX4_byteAt_18 : decode cX4_byteAt 18 = .ok (.ireturn, 1) := by decide +kernel
theorem dX4_nextToken_0 : decode cX4_nextToken 0 = .ok (.aload_n 0, 1) := by decide +kernel
theorem dX4_nextToken_1 : decode cX4_nextToken 1 = .ok (.aload_n 0, 1) := by decide +kernel
theorem dX4_nextToken_2 : decode cX4_nextToken 2 = .ok (.getfield 210, 3) := by decide +kernel
theorem dX4_nextToken_5 : decode cX4_nextToken 5 = .ok (.putfield 213, 3) := by decide +kernel
theorem dX4_nextToken_8 : decode cX4_nextToken 8 = .ok (.aload_n 0, 1) := by decide +kernel
theorem dX4_nextToken_9 : decode cX4_nextToken 9 = .ok (.aload_n 0, 1) := by decide +kernel
theorem dX4_nextToken_10 : decode cX4_nextToken 10 = .ok (.getfield 213, 3) := by decide +kernel
theorem dX4_nextToken_13 : decode cX4_nextToken 13 = .ok (.invokevirtual 216, 3) := by decide +kernel
theorem dX4_nextToken_16 : decode cX4_nextToken 16 = .ok (.bipush 32, 2) := by decide +kernel
theorem dX4_nextToken_18 : decode cX4_nextToken 18 = .ok (.if_icmp .ne 16, 3) := by decide +kernel
theorem dX4_nextToken_21 : decode cX4_nextToken 21 = .ok (.aload_n 0, 1) := by decide +kernel
theorem dX4_nextToken_22 : decode cX4_nextToken 22 = .ok (.dup, 1) := by decide +kernel
theorem dX4_nextToken_23 : decode cX4_nextToken 23 = .ok (.getfield 213, 3) := by decide +kernel
theorem dX4_nextToken_26 : decode cX4_nextToken 26 = .ok (.iconst 1, 1) := by decide +kernel
theorem dX4_nextToken_27 : decode cX4_nextToken 27 = .ok (.iadd, 1) := by decide +kernel
theorem dX4_nextToken_28 : decode cX4_nextToken 28 = .ok (.putfield 213, 3) := by decide +kernel
theorem dX4_nextToken_31 : decode cX4_nextToken 31 = .ok (.goto (-23), 3) := by decide +kernel
theorem dX4_nextToken_34 : decode cX4_nextToken 34 = .ok (.aload_n 0, 1) := by decide +kernel
theorem dX4_nextToken_35 : decode cX4_nextToken 35 = .ok (.aload_n 0, 1) := by decide +kernel
theorem dX4_nextToken_36 : decode cX4_nextToken 36 = .ok (.getfield 213, 3) := by decide +kernel
theorem dX4_nextToken_39 : decode cX4_nextToken 39 = .ok (.putfield 210, 3) := by decide +kernel
theorem dX4_nextToken_42 : decode cX4_nextToken 42 = .ok (.aload_n 0, 1) := by decide +kernel
theorem dX4_nextToken_43 : decode cX4_nextToken 43 = .ok (.aload_n 0, 1) := by decide +kernel
theorem dX4_nextToken_44 : decode cX4_nextToken 44 = .ok (.getfield 213, 3) := by decide +kernel
theorem dX4_nextToken_47 : decode cX4_nextToken 47 = .ok (.invokevirtual 216, 3) := by decide +kernel
theorem dX4_nextToken_50 : decode cX4_nextToken 50 = .ok (.istore_n 1, 1) := by decide +kernel
theorem dX4_nextToken_51 : decode cX4_nextToken 51 = .ok (.aload_n 0, 1) := by decide +kernel
theorem dX4_nextToken_52 : decode cX4_nextToken 52 = .ok (.iload_n 1, 1) := by decide +kernel
theorem dX4_nextToken_53 : decode cX4_nextToken 53 = .ok (.ifCond .ge 7, 3) := by decide +kernel
theorem dX4_nextToken_56 : decode cX4_nextToken 56 = .ok (.iconst 0, 1) := by decide +kernel
theorem dX4_nextToken_57 : decode cX4_nextToken 57 = .ok (.goto 36, 3) := by decide +kernel
theorem dX4_nextToken_60 : decode cX4_nextToken 60 = .ok (.iload_n 1, 1) := by decide +kernel
theorem dX4_nextToken_61 : decode cX4_nextToken 61 = .ok (.invokestatic 219, 3) := by decide +kernel
theorem dX4_nextToken_64 : decode cX4_nextToken 64 = .ok (.ifCond .eq 7, 3) := by decide +kernel
theorem dX4_nextToken_67 : decode cX4_nextToken 67 = .ok (.iconst 1, 1) := by decide +kernel
theorem dX4_nextToken_68 : decode cX4_nextToken 68 = .ok (.goto 25, 3) := by decide +kernel
theorem dX4_nextToken_71 : decode cX4_nextToken 71 = .ok (.iload_n 1, 1) := by decide +kernel
theorem dX4_nextToken_72 : decode cX4_nextToken 72 = .ok (.invokestatic 222, 3) := by decide +kernel
theorem dX4_nextToken_75 : decode cX4_nextToken 75 = .ok (.ifCond .eq 7, 3) := by decide +kernel
theorem dX4_nextToken_78 : decode cX4_nextToken 78 = .ok (.iconst 2, 1) := by decide +kernel
theorem dX4_nextToken_79 : decode cX4_nextToken 79 = .ok (.goto 14, 3) := by decide +kernel
theorem dX4_nextToken_82 : decode cX4_nextToken 82 = .ok (.iload_n 1, 1) := by decide +kernel
theorem dX4_nextToken_83 : decode cX4_nextToken 83 = .ok (.bipush 59, 2) := by decide +kernel
theorem dX4_nextToken_85 : decode cX4_nextToken 85 = .ok (.if_icmp .ne 7, 3) := by decide +kernel
theorem dX4_nextToken_88 : decode cX4_nextToken 88 = .ok (.iconst 3, 1) := by decide +kernel
theorem dX4_nextToken_89 : decode cX4_nextToken 89 = .ok (.goto 4, 3) := by decide +kernel
theorem dX4_nextToken_92 : decode cX4_nextToken 92 = .ok (.iconst 4, 1) := by decide +kernel
theorem dX4_nextToken_93 : decode cX4_nextToken 93 = .ok (.putfield 225, 3) := by decide +kernel
theorem dX4_nextToken_96 : decode cX4_nextToken 96 = .ok (.aload_n 0, 1) := by decide +kernel
theorem dX4_nextToken_97 : decode cX4_nextToken 97 = .ok (.iconst 0, 1) := by decide +kernel
theorem dX4_nextToken_98 : decode cX4_nextToken 98 = .ok (.putfield 228, 3) := by decide +kernel
theorem dX4_nextToken_101 : decode cX4_nextToken 101 = .ok (.aload_n 0, 1) := by decide +kernel
theorem dX4_nextToken_102 : decode cX4_nextToken 102 = .ok (.getfield 225, 3) := by decide +kernel
theorem dX4_nextToken_105 : decode cX4_nextToken 105 = .ok (.iconst 1, 1) := by decide +kernel
theorem dX4_nextToken_106 : decode cX4_nextToken 106 = .ok (.if_icmp .ne 30, 3) := by decide +kernel
theorem dX4_nextToken_109 : decode cX4_nextToken 109 = .ok (.aload_n 0, 1) := by decide +kernel
theorem dX4_nextToken_110 : decode cX4_nextToken 110 = .ok (.aload_n 0, 1) := by decide +kernel
theorem dX4_nextToken_111 : decode cX4_nextToken 111 = .ok (.getfield 210, 3) := by decide +kernel
theorem dX4_nextToken_114 : decode cX4_nextToken 114 = .ok (.invokevirtual 216, 3) := by decide +kernel
theorem dX4_nextToken_117 : decode cX4_nextToken 117 = .ok (.invokestatic 219, 3) := by decide +kernel
theorem dX4_nextToken_120 : decode cX4_nextToken 120 = .ok (.ifCond .eq 16, 3) := by decide +kernel
theorem dX4_nextToken_123 : decode cX4_nextToken 123 = .ok (.aload_n 0, 1) := by decide +kernel
theorem dX4_nextToken_124 : decode cX4_nextToken 124 = .ok (.dup, 1) := by decide +kernel
theorem dX4_nextToken_125 : decode cX4_nextToken 125 = .ok (.getfield 210, 3) := by decide +kernel
theorem dX4_nextToken_128 : decode cX4_nextToken 128 = .ok (.iconst 1, 1) := by decide +kernel
theorem dX4_nextToken_129 : decode cX4_nextToken 129 = .ok (.iadd, 1) := by decide +kernel
theorem dX4_nextToken_130 : decode cX4_nextToken 130 = .ok (.putfield 210, 3) := by decide +kernel
theorem dX4_nextToken_133 : decode cX4_nextToken 133 = .ok (.goto (-32), 3) := by decide +kernel
theorem dX4_nextToken_136 : decode cX4_nextToken 136 = .ok (.aload_n 0, 1) := by decide +kernel
theorem dX4_nextToken_137 : decode cX4_nextToken 137 = .ok (.getfield 225, 3) := by decide +kernel
theorem dX4_nextToken_140 : decode cX4_nextToken 140 = .ok (.iconst 2, 1) := by decide +kernel
theorem dX4_nextToken_141 : decode cX4_nextToken 141 = .ok (.if_icmp .ne 70, 3) := by decide +kernel
theorem dX4_nextToken_144 : decode cX4_nextToken 144 = .ok (.aload_n 0, 1) := by decide +kernel
theorem dX4_nextToken_145 : decode cX4_nextToken 145 = .ok (.aload_n 0, 1) := by decide +kernel
theorem dX4_nextToken_146 : decode cX4_nextToken 146 = .ok (.getfield 210, 3) := by decide +kernel
theorem dX4_nextToken_149 : decode cX4_nextToken 149 = .ok (.invokevirtual 216, 3) := by decide +kernel
theorem dX4_nextToken_152 : decode cX4_nextToken 152 = .ok (.invokestatic 222, 3) := by decide +kernel
theorem dX4_nextToken_155 : decode cX4_nextToken 155 = .ok (.ifCond .eq 56, 3) := by decide +kernel
theorem dX4_nextToken_158 : decode cX4_nextToken 158 = .ok (.aload_n 0, 1) := by decide +kernel
theorem dX4_nextToken_159 : decode cX4_nextToken 159 = .ok (.aload_n 0, 1) := by decide +kernel
theorem dX4_nextToken_160 : decode cX4_nextToken 160 = .ok (.getfield 228, 3) := by decide +kernel
theorem dX4_nextToken_163 : decode cX4_nextToken 163 = .ok (.sipush 999, 3) := by decide +kernel
theorem dX4_nextToken_166 : decode cX4_nextToken 166 = .ok (.if_icmp .le 10, 3) := by decide +kernel
theorem dX4_nextToken_169 : decode cX4_nextToken 169 = .ok (.aload_n 0, 1) := by decide +kernel
theorem dX4_nextToken_170 : decode cX4_nextToken 170 = .ok (.getfield 228, 3) := by decide +kernel
theorem dX4_nextToken_173 : decode cX4_nextToken 173 = .ok (.goto 22, 3) := by decide +kernel
theorem dX4_nextToken_176 : decode cX4_nextToken 176 = .ok (.bipush 10, 2) := by decide +kernel
theorem dX4_nextToken_178 : decode cX4_nextToken 178 = .ok (.aload_n 0, 1) := by decide +kernel
theorem dX4_nextToken_179 : decode cX4_nextToken 179 = .ok (.getfield 228, 3) := by decide +kernel
theorem dX4_nextToken_182 : decode cX4_nextToken 182 = .ok (.imul, 1) := by decide +kernel
theorem dX4_nextToken_183 : decode cX4_nextToken 183 = .ok (.aload_n 0, 1) := by decide +kernel
theorem dX4_nextToken_184 : decode cX4_nextToken 184 = .ok (.aload_n 0, 1) := by decide +kernel
theorem dX4_nextToken_185 : decode cX4_nextToken 185 = .ok (.getfield 210, 3) := by decide +kernel
theorem dX4_nextToken_188 : decode cX4_nextToken 188 = .ok (.invokevirtual 216, 3) := by decide +kernel
theorem dX4_nextToken_191 : decode cX4_nextToken 191 = .ok (.iadd, 1) := by decide +kernel
theorem dX4_nextToken_192 : decode cX4_nextToken 192 = .ok (.bipush 48, 2) := by decide +kernel
theorem dX4_nextToken_194 : decode cX4_nextToken 194 = .ok (.isub, 1) := by decide +kernel
theorem dX4_nextToken_195 : decode cX4_nextToken 195 = .ok (.putfield 228, 3) := by decide +kernel
theorem dX4_nextToken_198 : decode cX4_nextToken 198 = .ok (.aload_n 0, 1) := by decide +kernel
theorem dX4_nextToken_199 : decode cX4_nextToken 199 = .ok (.dup, 1) := by decide +kernel
theorem dX4_nextToken_200 : decode cX4_nextToken 200 = .ok (.getfield 210, 3) := by decide +kernel
theorem dX4_nextToken_203 : decode cX4_nextToken 203 = .ok (.iconst 1, 1) := by decide +kernel
theorem dX4_nextToken_204 : decode cX4_nextToken 204 = .ok (.iadd, 1) := by decide +kernel
theorem dX4_nextToken_205 : decode cX4_nextToken 205 = .ok (.putfield 210, 3) := by decide +kernel
theorem dX4_nextToken_208 : decode cX4_nextToken 208 = .ok (.goto (-72), 3) := by decide +kernel
theorem dX4_nextToken_211 : decode cX4_nextToken 211 = .ok (.aload_n 0, 1) := by decide +kernel
theorem dX4_nextToken_212 : decode cX4_nextToken 212 = .ok (.dup, 1) := by decide +kernel
theorem dX4_nextToken_213 : decode cX4_nextToken 213 = .ok (.getfield 210, 3) := by decide +kernel
theorem dX4_nextToken_216 : decode cX4_nextToken 216 = .ok (.aload_n 0, 1) := by decide +kernel
theorem dX4_nextToken_217 : decode cX4_nextToken 217 = .ok (.getfield 225, 3) := by decide +kernel
theorem dX4_nextToken_220 : decode cX4_nextToken 220 = .ok (.iconst 2, 1) := by decide +kernel
theorem dX4_nextToken_221 : decode cX4_nextToken 221 = .ok (.if_icmp .le 7, 3) := by decide +kernel
theorem dX4_nextToken_224 : decode cX4_nextToken 224 = .ok (.iconst 1, 1) := by decide +kernel
theorem dX4_nextToken_225 : decode cX4_nextToken 225 = .ok (.goto 4, 3) := by decide +kernel
theorem dX4_nextToken_228 : decode cX4_nextToken 228 = .ok (.iconst 0, 1) := by decide +kernel
theorem dX4_nextToken_229 : decode cX4_nextToken 229 = .ok (.iadd, 1) := by decide +kernel
theorem dX4_nextToken_230 : decode cX4_nextToken 230 = .ok (.putfield 210, 3) := by decide +kernel
theorem dX4_nextToken_233 : decode cX4_nextToken 233 = .ok (.return_, 1) := by decide +kernel
theorem dX4_has3_0 : decode cX4_has3 0 = .ok (.aload_n 0, 1) := by decide +kernel
theorem dX4_has3_1 : decode cX4_has3 1 = .ok (.aload_n 0, 1) := by decide +kernel
theorem dX4_has3_2 : decode cX4_has3 2 = .ok (.getfield 213, 3) := by decide +kernel
theorem dX4_has3_5 : decode cX4_has3 5 = .ok (.iload_n 1, 1) := by decide +kernel
theorem dX4_has3_6 : decode cX4_has3 6 = .ok (.iadd, 1) := by decide +kernel
theorem dX4_has3_7 : decode cX4_has3 7 = .ok (.invokevirtual 216, 3) := by decide +kernel
theorem dX4_has3_10 : decode cX4_has3 10 = .ok (.iload_n 2, 1) := by decide +kernel
theorem dX4_has3_11 : decode cX4_has3 11 = .ok (.if_icmp .ne 40, 3) := by decide +kernel
theorem dX4_has3_14 : decode cX4_has3 14 = .ok (.aload_n 0, 1) := by decide +kernel
theorem dX4_has3_15 : decode cX4_has3 15 = .ok (.aload_n 0, 1) := by decide +kernel
theorem dX4_has3_16 : decode cX4_has3 16 = .ok (.getfield 213, 3) := by decide +kernel
theorem dX4_has3_19 : decode cX4_has3 19 = .ok (.iload_n 1, 1) := by decide +kernel
theorem dX4_has3_20 : decode cX4_has3 20 = .ok (.iadd, 1) := by decide +kernel
theorem dX4_has3_21 : decode cX4_has3 21 = .ok (.iconst 1, 1) := by decide +kernel
theorem dX4_has3_22 : decode cX4_has3 22 = .ok (.iadd, 1) := by decide +kernel
theorem dX4_has3_23 : decode cX4_has3 23 = .ok (.invokevirtual 216, 3) := by decide +kernel
theorem dX4_has3_26 : decode cX4_has3 26 = .ok (.iload_n 3, 1) := by decide +kernel
theorem dX4_has3_27 : decode cX4_has3 27 = .ok (.if_icmp .ne 24, 3) := by decide +kernel
theorem dX4_has3_30 : decode cX4_has3 30 = .ok (.aload_n 0, 1) := by decide +kernel
theorem dX4_has3_31 : decode cX4_has3 31 = .ok (.aload_n 0, 1) := by decide +kernel
theorem dX4_has3_32 : decode cX4_has3 32 = .ok (.getfield 213, 3) := by decide +kernel
theorem dX4_has3_35 : decode cX4_has3 35 = .ok (.iload_n 1, 1) := by decide +kernel
theorem dX4_has3_36 : decode cX4_has3 36 = .ok (.iadd, 1) := by decide +kernel
theorem dX4_has3_37 : decode cX4_has3 37 = .ok (.iconst 2, 1) := by decide +kernel
theorem dX4_has3_38 : decode cX4_has3 38 = .ok (.iadd, 1) := by decide +kernel
theorem dX4_has3_39 : decode cX4_has3 39 = .ok (.invokevirtual 216, 3) := by decide +kernel
theorem dX4_has3_42 : decode cX4_has3 42 = .ok (.iload 4, 2) := by decide +kernel
theorem dX4_has3_44 : decode cX4_has3 44 = .ok (.if_icmp .ne 7, 3) := by decide +kernel
theorem dX4_has3_47 : decode cX4_has3 47 = .ok (.iconst 1, 1) := by decide +kernel
theorem dX4_has3_48 : decode cX4_has3 48 = .ok (.goto 4, 3) := by decide +kernel
theorem dX4_has3_51 : decode cX4_has3 51 = .ok (.iconst 0, 1) := by decide +kernel
theorem dX4_has3_52 : decode cX4_has3 52 = .ok (.ireturn, 1) := by decide +kernel
theorem dX4_isWord_0 : decode cX4_isWord 0 = .ok (.aload_n 0, 1) := by decide +kernel
theorem dX4_isWord_1 : decode cX4_isWord 1 = .ok (.getfield 225, 3) := by decide +kernel
theorem dX4_isWord_4 : decode cX4_isWord 4 = .ok (.iconst 1, 1) := by decide +kernel
theorem dX4_isWord_5 : decode cX4_isWord 5 = .ok (.if_icmp .ne 20, 3) := by decide +kernel
theorem dX4_isWord_8 : decode cX4_isWord 8 = .ok (.aload_n 0, 1) := by decide +kernel
theorem dX4_isWord_9 : decode cX4_isWord 9 = .ok (.getfield 210, 3) := by decide +kernel
theorem dX4_isWord_12 : decode cX4_isWord 12 = .ok (.aload_n 0, 1) := by decide +kernel
theorem dX4_isWord_13 : decode cX4_isWord 13 = .ok (.getfield 213, 3) := by decide +kernel
theorem dX4_isWord_16 : decode cX4_isWord 16 = .ok (.isub, 1) := by decide +kernel
theorem dX4_isWord_17 : decode cX4_isWord 17 = .ok (.iload_n 1, 1) := by decide +kernel
theorem dX4_isWord_18 : decode cX4_isWord 18 = .ok (.if_icmp .ne 7, 3) := by decide +kernel
theorem dX4_isWord_21 : decode cX4_isWord 21 = .ok (.iconst 1, 1) := by decide +kernel
theorem dX4_isWord_22 : decode cX4_isWord 22 = .ok (.goto 4, 3) := by decide +kernel
theorem dX4_isWord_25 : decode cX4_isWord 25 = .ok (.iconst 0, 1) := by decide +kernel
theorem dX4_isWord_26 : decode cX4_isWord 26 = .ok (.ireturn, 1) := by decide +kernel
theorem dX4_fails_0 : decode cX4_fails 0 = .ok (.aload_n 0, 1) := by decide +kernel
theorem dX4_fails_1 : decode cX4_fails 1 = .ok (.aload_n 0, 1) := by decide +kernel
theorem dX4_fails_2 : decode cX4_fails 2 = .ok (.getfield 213, 3) := by decide +kernel
theorem dX4_fails_5 : decode cX4_fails 5 = .ok (.putfield 231, 3) := by decide +kernel
theorem dX4_fails_8 : decode cX4_fails 8 = .ok (.iconst 0, 1) := by decide +kernel
theorem dX4_fails_9 : decode cX4_fails 9 = .ok (.ireturn, 1) := by decide +kernel
theorem dX4_isFour_0 : decode cX4_isFour 0 = .ok (.aload_n 0, 1) := by decide +kernel
theorem dX4_isFour_1 : decode cX4_isFour 1 = .ok (.iconst 4, 1) := by decide +kernel
theorem dX4_isFour_2 : decode cX4_isFour 2 = .ok (.invokevirtual 234, 3) := by decide +kernel
theorem dX4_isFour_5 : decode cX4_isFour 5 = .ok (.ifCond .eq 30, 3) := by decide +kernel
theorem dX4_isFour_8 : decode cX4_isFour 8 = .ok (.aload_n 0, 1) := by decide +kernel
theorem dX4_isFour_9 : decode cX4_isFour 9 = .ok (.iconst 0, 1) := by decide +kernel
theorem dX4_isFour_10 : decode cX4_isFour 10 = .ok (.iload_n 1, 1) := by decide +kernel
theorem dX4_isFour_11 : decode cX4_isFour 11 = .ok (.iload_n 2, 1) := by decide +kernel
theorem dX4_isFour_12 : decode cX4_isFour 12 = .ok (.iload_n 3, 1) := by decide +kernel
theorem dX4_isFour_13 : decode cX4_isFour 13 = .ok (.invokevirtual 237, 3) := by decide +kernel
theorem dX4_isFour_16 : decode cX4_isFour 16 = .ok (.ifCond .eq 19, 3) := by decide +kernel
theorem dX4_isFour_19 : decode cX4_isFour 19 = .ok (.aload_n 0, 1) := by decide +kernel
theorem dX4_isFour_20 : decode cX4_isFour 20 = .ok (.iconst 1, 1) := by decide +kernel
theorem dX4_isFour_21 : decode cX4_isFour 21 = .ok (.iload_n 2, 1) := by decide +kernel
theorem dX4_isFour_22 : decode cX4_isFour 22 = .ok (.iload_n 3, 1) := by decide +kernel
theorem dX4_isFour_23 : decode cX4_isFour 23 = .ok (.iload 4, 2) := by decide +kernel
theorem dX4_isFour_25 : decode cX4_isFour 25 = .ok (.invokevirtual 237, 3) := by decide +kernel
theorem dX4_isFour_28 : decode cX4_isFour 28 = .ok (.ifCond .eq 7, 3) := by decide +kernel
theorem dX4_isFour_31 : decode cX4_isFour 31 = .ok (.iconst 1, 1) := by decide +kernel
theorem dX4_isFour_32 : decode cX4_isFour 32 = .ok (.goto 4, 3) := by decide +kernel
theorem dX4_isFour_35 : decode cX4_isFour 35 = .ok (.iconst 0, 1) := by decide +kernel
theorem dX4_isFour_36 : decode cX4_isFour 36 = .ok (.ireturn, 1) := by decide +kernel
theorem dX4_isFive_0 : decode cX4_isFive 0 = .ok (.aload_n 0, 1) := by decide +kernel
theorem dX4_isFive_1 : decode cX4_isFive 1 = .ok (.iconst 5, 1) := by decide +kernel
theorem dX4_isFive_2 : decode cX4_isFive 2 = .ok (.invokevirtual 234, 3) := by decide +kernel
theorem dX4_isFive_5 : decode cX4_isFive 5 = .ok (.ifCond .eq 31, 3) := by decide +kernel
theorem dX4_isFive_8 : decode cX4_isFive 8 = .ok (.aload_n 0, 1) := by decide +kernel
theorem dX4_isFive_9 : decode cX4_isFive 9 = .ok (.iconst 0, 1) := by decide +kernel
theorem dX4_isFive_10 : decode cX4_isFive 10 = .ok (.iload_n 1, 1) := by decide +kernel
theorem dX4_isFive_11 : decode cX4_isFive 11 = .ok (.iload_n 2, 1) := by decide +kernel
theorem dX4_isFive_12 : decode cX4_isFive 12 = .ok (.iload_n 3, 1) := by decide +kernel
theorem dX4_isFive_13 : decode cX4_isFive 13 = .ok (.invokevirtual 237, 3) := by decide +kernel
theorem dX4_isFive_16 : decode cX4_isFive 16 = .ok (.ifCond .eq 20, 3) := by decide +kernel
theorem dX4_isFive_19 : decode cX4_isFive 19 = .ok (.aload_n 0, 1) := by decide +kernel
theorem dX4_isFive_20 : decode cX4_isFive 20 = .ok (.iconst 2, 1) := by decide +kernel
theorem dX4_isFive_21 : decode cX4_isFive 21 = .ok (.iload_n 3, 1) := by decide +kernel
theorem dX4_isFive_22 : decode cX4_isFive 22 = .ok (.iload 4, 2) := by decide +kernel
theorem dX4_isFive_24 : decode cX4_isFive 24 = .ok (.iload 5, 2) := by decide +kernel
theorem dX4_isFive_26 : decode cX4_isFive 26 = .ok (.invokevirtual 237, 3) := by decide +kernel
theorem dX4_isFive_29 : decode cX4_isFive 29 = .ok (.ifCond .eq 7, 3) := by decide +kernel
theorem dX4_isFive_32 : decode cX4_isFive 32 = .ok (.iconst 1, 1) := by decide +kernel
theorem dX4_isFive_33 : decode cX4_isFive 33 = .ok (.goto 4, 3) := by decide +kernel
theorem dX4_isFive_36 : decode cX4_isFive 36 = .ok (.iconst 0, 1) := by decide +kernel
theorem dX4_isFive_37 : decode cX4_isFive 37 = .ok (.ireturn, 1) := by decide +kernel
theorem dX4_isSix_0 : decode cX4_isSix 0 = .ok (.aload_n 0, 1) := by decide +kernel
theorem dX4_isSix_1 : decode cX4_isSix 1 = .ok (.bipush 6, 2) := by decide +kernel
theorem dX4_isSix_3 : decode cX4_isSix 3 = .ok (.invokevirtual 234, 3) := by decide +kernel
theorem dX4_isSix_6 : decode cX4_isSix 6 = .ok (.ifCond .eq 32, 3) := by decide +kernel
theorem dX4_isSix_9 : decode cX4_isSix 9 = .ok (.aload_n 0, 1) := by decide +kernel
theorem dX4_isSix_10 : decode cX4_isSix 10 = .ok (.iconst 0, 1) := by decide +kernel
theorem dX4_isSix_11 : decode cX4_isSix 11 = .ok (.iload_n 1, 1) := by decide +kernel
theorem dX4_isSix_12 : decode cX4_isSix 12 = .ok (.iload_n 2, 1) := by decide +kernel
theorem dX4_isSix_13 : decode cX4_isSix 13 = .ok (.iload_n 3, 1) := by decide +kernel
theorem dX4_isSix_14 : decode cX4_isSix 14 = .ok (.invokevirtual 237, 3) := by decide +kernel
theorem dX4_isSix_17 : decode cX4_isSix 17 = .ok (.ifCond .eq 21, 3) := by decide +kernel
theorem dX4_isSix_20 : decode cX4_isSix 20 = .ok (.aload_n 0, 1) := by decide +kernel
theorem dX4_isSix_21 : decode cX4_isSix 21 = .ok (.iconst 3, 1) := by decide +kernel
theorem dX4_isSix_22 : decode cX4_isSix 22 = .ok (.iload 4, 2) := by decide +kernel
theorem dX4_isSix_24 : decode cX4_isSix 24 = .ok (.iload 5, 2) := by decide +kernel
theorem dX4_isSix_26 : decode cX4_isSix 26 = .ok (.iload 6, 2) := by decide +kernel
theorem dX4_isSix_28 : decode cX4_isSix 28 = .ok (.invokevirtual 237, 3) := by decide +kernel
theorem dX4_isSix_31 : decode cX4_isSix 31 = .ok (.ifCond .eq 7, 3) := by decide +kernel
theorem dX4_isSix_34 : decode cX4_isSix 34 = .ok (.iconst 1, 1) := by decide +kernel
theorem dX4_isSix_35 : decode cX4_isSix 35 = .ok (.goto 4, 3) := by decide +kernel
theorem dX4_isSix_38 : decode cX4_isSix 38 = .ok (.iconst 0, 1) := by decide +kernel
theorem dX4_isSix_39 : decode cX4_isSix 39 = .ok (.ireturn, 1) := by decide +kernel
theorem dX4_isNumber_0 : decode cX4_isNumber 0 = .ok (.aload_n 0, 1) := by decide +kernel
theorem dX4_isNumber_1 : decode cX4_isNumber 1 = .ok (.getfield 225, 3) := by decide +kernel
theorem dX4_isNumber_4 : decode cX4_isNumber 4 = .ok (.iconst 2, 1) := by decide +kernel
theorem dX4_isNumber_5 : decode cX4_isNumber 5 = .ok (.if_icmp .ne 18, 3) := by decide +kernel
theorem dX4_isNumber_8 : decode cX4_isNumber 8 = .ok (.aload_n 0, 1) := by decide +kernel
theorem dX4_isNumber_9 : decode cX4_isNumber 9 = .ok (.getfield 228, 3) := by decide +kernel
theorem dX4_isNumber_12 : decode cX4_isNumber 12 = .ok (.i2l, 1) := by decide +kernel
theorem dX4_isNumber_13 : decode cX4_isNumber 13 = .ok (.iload_n 1, 1) := by decide +kernel
theorem dX4_isNumber_14 : decode cX4_isNumber 14 = .ok (.i2l, 1) := by decide +kernel
theorem dX4_isNumber_15 : decode cX4_isNumber 15 = .ok (.iload_n 2, 1) := by decide +kernel
theorem dX4_isNumber_16 : decode cX4_isNumber 16 = .ok (.i2l, 1) := by decide +kernel
theorem dX4_isNumber_17 : decode cX4_isNumber 17 = .ok (.invokestatic 49, 3) := by decide +kernel
theorem dX4_isNumber_20 : decode cX4_isNumber 20 = .ok (.ifCond .ne 10, 3) := by decide +kernel
theorem dX4_isNumber_23 : decode cX4_isNumber 23 = .ok (.aload_n 0, 1) := by decide +kernel
theorem dX4_isNumber_24 : decode cX4_isNumber 24 = .ok (.invokevirtual 241, 3) := by decide +kernel
theorem dX4_isNumber_27 : decode cX4_isNumber 27 = .ok (.ifCond .eq 7, 3) := by decide +kernel
theorem dX4_isNumber_30 : decode cX4_isNumber 30 = .ok (.iconst 1, 1) := by decide +kernel
theorem dX4_isNumber_31 : decode cX4_isNumber 31 = .ok (.goto 4, 3) := by decide +kernel
theorem dX4_isNumber_34 : decode cX4_isNumber 34 = .ok (.iconst 0, 1) := by decide +kernel
theorem dX4_isNumber_35 : decode cX4_isNumber 35 = .ok (.ireturn, 1) := by decide +kernel
theorem dX4_kindHere_0 : decode cX4_kindHere 0 = .ok (.aload_n 0, 1) := by decide +kernel
theorem dX4_kindHere_1 : decode cX4_kindHere 1 = .ok (.bipush 99, 2) := by decide +kernel
theorem dX4_kindHere_3 : decode cX4_kindHere 3 = .ok (.bipush 97, 2) := by decide +kernel
theorem dX4_kindHere_5 : decode cX4_kindHere 5 = .ok (.bipush 115, 2) := by decide +kernel
theorem dX4_kindHere_7 : decode cX4_kindHere 7 = .ok (.bipush 107, 2) := by decide +kernel
theorem dX4_kindHere_9 : decode cX4_kindHere 9 = .ok (.invokevirtual 245, 3) := by decide +kernel
theorem dX4_kindHere_12 : decode cX4_kindHere 12 = .ok (.ifCond .eq 5, 3) := by decide +kernel
theorem dX4_kindHere_15 : decode cX4_kindHere 15 = .ok (.iconst 0, 1) := by decide +kernel
theorem dX4_kindHere_16 : decode cX4_kindHere 16 = .ok (.ireturn, 1) := by decide +kernel
theorem dX4_kindHere_17 : decode cX4_kindHere 17 = .ok (.aload_n 0, 1) := by decide +kernel
theorem dX4_kindHere_18 : decode cX4_kindHere 18 = .ok (.bipush 99, 2) := by decide +kernel
theorem dX4_kindHere_20 : decode cX4_kindHere 20 = .ok (.bipush 114, 2) := by decide +kernel
theorem dX4_kindHere_22 : decode cX4_kindHere 22 = .ok (.bipush 97, 2) := by decide +kernel
theorem dX4_kindHere_24 : decode cX4_kindHere 24 = .ok (.bipush 99, 2) := by decide +kernel
theorem dX4_kindHere_26 : decode cX4_kindHere 26 = .ok (.bipush 107, 2) := by decide +kernel
theorem dX4_kindHere_28 : decode cX4_kindHere 28 = .ok (.invokevirtual 248, 3) := by decide +kernel
theorem dX4_kindHere_31 : decode cX4_kindHere 31 = .ok (.ifCond .eq 5, 3) := by decide +kernel
theorem dX4_kindHere_34 : decode cX4_kindHere 34 = .ok (.iconst 1, 1) := by decide +kernel
theorem dX4_kindHere_35 : decode cX4_kindHere 35 = .ok (.ireturn, 1) := by decide +kernel
theorem dX4_kindHere_36 : decode cX4_kindHere 36 = .ok (.aload_n 0, 1) := by decide +kernel
theorem dX4_kindHere_37 : decode cX4_kindHere 37 = .ok (.bipush 114, 2) := by decide +kernel
theorem dX4_kindHere_39 : decode cX4_kindHere 39 = .ok (.bipush 111, 2) := by decide +kernel
theorem dX4_kindHere_41 : decode cX4_kindHere 41 = .ok (.bipush 108, 2) := by decide +kernel
theorem dX4_kindHere_43 : decode cX4_kindHere 43 = .ok (.bipush 108, 2) := by decide +kernel
theorem dX4_kindHere_45 : decode cX4_kindHere 45 = .ok (.invokevirtual 245, 3) := by decide +kernel
theorem dX4_kindHere_48 : decode cX4_kindHere 48 = .ok (.ifCond .eq 5, 3) := by decide +kernel
theorem dX4_kindHere_51 : decode cX4_kindHere 51 = .ok (.iconst 2, 1) := by decide +kernel
theorem dX4_kindHere_52 : decode cX4_kindHere 52 = .ok (.ireturn, 1) := by decide +kernel
theorem dX4_kindHere_53 : decode cX4_kindHere 53 = .ok (.aload_n 0, 1) := by decide +kernel
theorem dX4_kindHere_54 : decode cX4_kindHere 54 = .ok (.bipush 109, 2) := by decide +kernel
theorem dX4_kindHere_56 : decode cX4_kindHere 56 = .ok (.bipush 101, 2) := by decide +kernel
theorem dX4_kindHere_58 : decode cX4_kindHere 58 = .ok (.bipush 108, 2) := by decide +kernel
theorem dX4_kindHere_60 : decode cX4_kindHere 60 = .ok (.bipush 108, 2) := by decide +kernel
theorem dX4_kindHere_62 : decode cX4_kindHere 62 = .ok (.bipush 111, 2) := by decide +kernel
theorem dX4_kindHere_64 : decode cX4_kindHere 64 = .ok (.bipush 119, 2) := by decide +kernel
theorem dX4_kindHere_66 : decode cX4_kindHere 66 = .ok (.invokevirtual 252, 3) := by decide +kernel
theorem dX4_kindHere_69 : decode cX4_kindHere 69 = .ok (.ifCond .eq 5, 3) := by decide +kernel
theorem dX4_kindHere_72 : decode cX4_kindHere 72 = .ok (.iconst 3, 1) := by decide +kernel
theorem dX4_kindHere_73 : decode cX4_kindHere 73 = .ok (.ireturn, 1) := by decide +kernel
theorem dX4_kindHere_74 : decode cX4_kindHere 74 = .ok (.aload_n 0, 1) := by decide +kernel
theorem dX4_kindHere_75 : decode cX4_kindHere 75 = .ok (.bipush 101, 2) := by decide +kernel
theorem dX4_kindHere_77 : decode cX4_kindHere 77 = .ok (.bipush 99, 2) := by decide +kernel
theorem dX4_kindHere_79 : decode cX4_kindHere 79 = .ok (.bipush 104, 2) := by decide +kernel
theorem dX4_kindHere_81 : decode cX4_kindHere 81 = .ok (.bipush 111, 2) := by decide +kernel
theorem dX4_kindHere_83 : decode cX4_kindHere 83 = .ok (.invokevirtual 245, 3) := by decide +kernel
theorem dX4_kindHere_86 : decode cX4_kindHere 86 = .ok (.ifCond .eq 5, 3) := by decide +kernel
theorem dX4_kindHere_89 : decode cX4_kindHere 89 = .ok (.iconst 4, 1) := by decide +kernel
theorem dX4_kindHere_90 : decode cX4_kindHere 90 = .ok (.ireturn, 1) := by decide +kernel
theorem dX4_kindHere_91 : decode cX4_kindHere 91 = .ok (.aload_n 0, 1) := by decide +kernel
theorem dX4_kindHere_92 : decode cX4_kindHere 92 = .ok (.bipush 104, 2) := by decide +kernel
theorem dX4_kindHere_94 : decode cX4_kindHere 94 = .ok (.bipush 101, 2) := by decide +kernel
theorem dX4_kindHere_96 : decode cX4_kindHere 96 = .ok (.bipush 97, 2) := by decide +kernel
theorem dX4_kindHere_98 : decode cX4_kindHere 98 = .ok (.bipush 116, 2) := by decide +kernel
theorem dX4_kindHere_100 : decode cX4_kindHere 100 = .ok (.invokevirtual 245, 3) := by decide +kernel
theorem dX4_kindHere_103 : decode cX4_kindHere 103 = .ok (.ifCond .eq 5, 3) := by decide +kernel
theorem dX4_kindHere_106 : decode cX4_kindHere 106 = .ok (.iconst 5, 1) := by decide +kernel
theorem dX4_kindHere_107 : decode cX4_kindHere 107 = .ok (.ireturn, 1) := by decide +kernel
theorem dX4_kindHere_108 : decode cX4_kindHere 108 = .ok (.aload_n 0, 1) := by decide +kernel
theorem dX4_kindHere_109 : decode cX4_kindHere 109 = .ok (.bipush 102, 2) := by decide +kernel
theorem dX4_kindHere_111 : decode cX4_kindHere 111 = .ok (.bipush 111, 2) := by decide +kernel
theorem dX4_kindHere_113 : decode cX4_kindHere 113 = .ok (.bipush 114, 2) := by decide +kernel
theorem dX4_kindHere_115 : decode cX4_kindHere 115 = .ok (.bipush 103, 2) := by decide +kernel
theorem dX4_kindHere_117 : decode cX4_kindHere 117 = .ok (.bipush 101, 2) := by decide +kernel
theorem dX4_kindHere_119 : decode cX4_kindHere 119 = .ok (.bipush 100, 2) := by decide +kernel
theorem dX4_kindHere_121 : decode cX4_kindHere 121 = .ok (.invokevirtual 252, 3) := by decide +kernel
theorem dX4_kindHere_124 : decode cX4_kindHere 124 = .ok (.ifCond .eq 8, 3) := by decide +kernel
theorem dX4_kindHere_127 : decode cX4_kindHere 127 = .ok (.bipush 6, 2) := by decide +kernel
theorem dX4_kindHere_129 : decode cX4_kindHere 129 = .ok (.goto 4, 3) := by decide +kernel
theorem dX4_kindHere_132 : decode cX4_kindHere 132 = .ok (.iconst (-1), 1) := by decide +kernel
theorem dX4_kindHere_133 : decode cX4_kindHere 133 = .ok (.ireturn, 1) := by decide +kernel
theorem dX4_perhaps_0 : decode cX4_perhaps 0 = .ok (.iload_n 1, 1) := by decide +kernel
theorem dX4_perhaps_1 : decode cX4_perhaps 1 = .ok (.ifCond .ne 5, 3) := by decide +kernel
theorem dX4_perhaps_4 : decode cX4_perhaps 4 = .ok (.iconst 1, 1) := by decide +kernel
theorem dX4_perhaps_5 : decode cX4_perhaps 5 = .ok (.ireturn, 1) := by decide +kernel
theorem dX4_perhaps_6 : decode cX4_perhaps 6 = .ok (.aload_n 0, 1) := by decide +kernel
theorem dX4_perhaps_7 : decode cX4_perhaps 7 = .ok (.invokevirtual 256, 3) := by decide +kernel
theorem dX4_perhaps_10 : decode cX4_perhaps 10 = .ok (.aload_n 0, 1) := by decide +kernel
theorem dX4_perhaps_11 : decode cX4_perhaps 11 = .ok (.iconst 0, 1) := by decide +kernel
theorem dX4_perhaps_12 : decode cX4_perhaps 12 = .ok (.iload_n 3, 1) := by decide +kernel
theorem dX4_perhaps_13 : decode cX4_perhaps 13 = .ok (.invokevirtual 259, 3) := by decide +kernel
theorem dX4_perhaps_16 : decode cX4_perhaps 16 = .ok (.ifCond .ne 5, 3) := by decide +kernel
theorem dX4_perhaps_19 : decode cX4_perhaps 19 = .ok (.iconst 0, 1) := by decide +kernel
theorem dX4_perhaps_20 : decode cX4_perhaps 20 = .ok (.ireturn, 1) := by decide +kernel
theorem dX4_perhaps_21 : decode cX4_perhaps 21 = .ok (.aload_n 0, 1) := by decide +kernel
theorem dX4_perhaps_22 : decode cX4_perhaps 22 = .ok (.getfield 7, 3) := by decide +kernel
theorem dX4_perhaps_25 : decode cX4_perhaps 25 = .ok (.iload_n 2, 1) := by decide +kernel
theorem dX4_perhaps_26 : decode cX4_perhaps 26 = .ok (.aload_n 0, 1) := by decide +kernel
theorem dX4_perhaps_27 : decode cX4_perhaps 27 = .ok (.getfield 228, 3) := by decide +kernel
theorem dX4_perhaps_30 : decode cX4_perhaps 30 = .ok (.iastore, 1) := by decide +kernel
theorem dX4_perhaps_31 : decode cX4_perhaps 31 = .ok (.aload_n 0, 1) := by decide +kernel
theorem dX4_perhaps_32 : decode cX4_perhaps 32 = .ok (.invokevirtual 256, 3) := by decide +kernel
theorem dX4_perhaps_35 : decode cX4_perhaps 35 = .ok (.iconst 1, 1) := by decide +kernel
theorem dX4_perhaps_36 : decode cX4_perhaps 36 = .ok (.ireturn, 1) := by decide +kernel
theorem dX4_caskHere_0 : decode cX4_caskHere 0 = .ok (.aload_n 0, 1) := by decide +kernel
theorem dX4_caskHere_1 : decode cX4_caskHere 1 = .ok (.getfield 7, 3) := by decide +kernel
theorem dX4_caskHere_4 : decode cX4_caskHere 4 = .ok (.iconst 0, 1) := by decide +kernel
theorem dX4_caskHere_5 : decode cX4_caskHere 5 = .ok (.iaload, 1) := by decide +kernel
theorem dX4_caskHere_6 : decode cX4_caskHere 6 = .ok (.bipush 8, 2) := by decide +kernel
theorem dX4_caskHere_8 : decode cX4_caskHere 8 = .ok (.if_icmp .ne 8, 3) := by decide +kernel
theorem dX4_caskHere_11 : decode cX4_caskHere 11 = .ok (.aload_n 0, 1) := by decide +kernel
theorem dX4_caskHere_12 : decode cX4_caskHere 12 = .ok (.invokevirtual 241, 3) := by decide +kernel
theorem dX4_caskHere_15 : decode cX4_caskHere 15 = .ok (.ireturn, 1) := by decide +kernel
theorem dX4_caskHere_16 : decode cX4_caskHere 16 = .ok (.aload_n 0, 1) := by decide +kernel
theorem dX4_caskHere_17 : decode cX4_caskHere 17 = .ok (.iload_n 1, 1) := by decide +kernel
theorem dX4_caskHere_18 : decode cX4_caskHere 18 = .ok (.iconst 0, 1) := by decide +kernel
theorem dX4_caskHere_19 : decode cX4_caskHere 19 = .ok (.invokevirtual 76, 3) := by decide +kernel
theorem dX4_caskHere_22 : decode cX4_caskHere 22 = .ok (.aload_n 0, 1) := by decide +kernel
theorem dX4_caskHere_23 : decode cX4_caskHere 23 = .ok (.getfield 7, 3) := by decide +kernel
theorem dX4_caskHere_26 : decode cX4_caskHere 26 = .ok (.iconst 0, 1) := by decide +kernel
theorem dX4_caskHere_27 : decode cX4_caskHere 27 = .ok (.iaload, 1) := by decide +kernel
theorem dX4_caskHere_28 : decode cX4_caskHere 28 = .ok (.iconst 1, 1) := by decide +kernel
theorem dX4_caskHere_29 : decode cX4_caskHere 29 = .ok (.isub, 1) := by decide +kernel
theorem dX4_caskHere_30 : decode cX4_caskHere 30 = .ok (.istore_n 2, 1) := by decide +kernel
theorem dX4_caskHere_31 : decode cX4_caskHere 31 = .ok (.aload_n 0, 1) := by decide +kernel
theorem dX4_caskHere_32 : decode cX4_caskHere 32 = .ok (.invokevirtual 256, 3) := by decide +kernel
theorem dX4_caskHere_35 : decode cX4_caskHere 35 = .ok (.aload_n 0, 1) := by decide +kernel
theorem dX4_caskHere_36 : decode cX4_caskHere 36 = .ok (.aload_n 0, 1) := by decide +kernel
theorem dX4_caskHere_37 : decode cX4_caskHere 37 = .ok (.iconst 2, 1) := by decide +kernel
theorem dX4_caskHere_38 : decode cX4_caskHere 38 = .ok (.invokevirtual 234, 3) := by decide +kernel
theorem dX4_caskHere_41 : decode cX4_caskHere 41 = .ok (.ifCond .eq 35, 3) := by decide +kernel
theorem dX4_caskHere_44 : decode cX4_caskHere 44 = .ok (.aload_n 0, 1) := by decide +kernel
theorem dX4_caskHere_45 : decode cX4_caskHere 45 = .ok (.aload_n 0, 1) := by decide +kernel
theorem dX4_caskHere_46 : decode cX4_caskHere 46 = .ok (.getfield 213, 3) := by decide +kernel
theorem dX4_caskHere_49 : decode cX4_caskHere 49 = .ok (.invokevirtual 216, 3) := by decide +kernel
theorem dX4_caskHere_52 : decode cX4_caskHere 52 = .ok (.bipush 105, 2) := by decide +kernel
theorem dX4_caskHere_54 : decode cX4_caskHere 54 = .ok (.if_icmp .ne 22, 3) := by decide +kernel
theorem dX4_caskHere_57 : decode cX4_caskHere 57 = .ok (.aload_n 0, 1) := by decide +kernel
theorem dX4_caskHere_58 : decode cX4_caskHere 58 = .ok (.aload_n 0, 1) := by decide +kernel
theorem dX4_caskHere_59 : decode cX4_caskHere 59 = .ok (.getfield 213, 3) := by decide +kernel
theorem dX4_caskHere_62 : decode cX4_caskHere 62 = .ok (.iconst 1, 1) := by decide +kernel
theorem dX4_caskHere_63 : decode cX4_caskHere 63 = .ok (.iadd, 1) := by decide +kernel
theorem dX4_caskHere_64 : decode cX4_caskHere 64 = .ok (.invokevirtual 216, 3) := by decide +kernel
theorem dX4_caskHere_67 : decode cX4_caskHere 67 = .ok (.bipush 110, 2) := by decide +kernel
theorem dX4_caskHere_69 : decode cX4_caskHere 69 = .ok (.if_icmp .ne 7, 3) := by decide +kernel
theorem dX4_caskHere_72 : decode cX4_caskHere 72 = .ok (.iconst 1, 1) := by decide +kernel
theorem dX4_caskHere_73 : decode cX4_caskHere 73 = .ok (.goto 4, 3) := by decide +kernel
theorem dX4_caskHere_76 : decode cX4_caskHere 76 = .ok (.iconst 0, 1) := by decide +kernel
theorem dX4_caskHere_77 : decode cX4_caskHere 77 = .ok (.iload_n 2, 1) := by decide +kernel
theorem dX4_caskHere_78 : decode cX4_caskHere 78 = .ok (.iconst 1, 1) := by decide +kernel
theorem dX4_caskHere_79 : decode cX4_caskHere 79 = .ok (.invokestatic 70, 3) := by decide +kernel
theorem dX4_caskHere_82 : decode cX4_caskHere 82 = .ok (.iconst 5, 1) := by decide +kernel
theorem dX4_caskHere_83 : decode cX4_caskHere 83 = .ok (.invokevirtual 262, 3) := by decide +kernel
theorem dX4_caskHere_86 : decode cX4_caskHere 86 = .ok (.ifCond .eq 91, 3) := by decide +kernel
theorem dX4_caskHere_89 : decode cX4_caskHere 89 = .ok (.aload_n 0, 1) := by decide +kernel
theorem dX4_caskHere_90 : decode cX4_caskHere 90 = .ok (.aload_n 0, 1) := by decide +kernel
theorem dX4_caskHere_91 : decode cX4_caskHere 91 = .ok (.bipush 112, 2) := by decide +kernel
theorem dX4_caskHere_93 : decode cX4_caskHere 93 = .ok (.bipush 101, 2) := by decide +kernel
theorem dX4_caskHere_95 : decode cX4_caskHere 95 = .ok (.bipush 97, 2) := by decide +kernel
theorem dX4_caskHere_97 : decode cX4_caskHere 97 = .ok (.bipush 108, 2) := by decide +kernel
theorem dX4_caskHere_99 : decode cX4_caskHere 99 = .ok (.invokevirtual 245, 3) := by decide +kernel
theorem dX4_caskHere_102 : decode cX4_caskHere 102 = .ok (.iload_n 2, 1) := by decide +kernel
theorem dX4_caskHere_103 : decode cX4_caskHere 103 = .ok (.iconst 2, 1) := by decide +kernel
theorem dX4_caskHere_104 : decode cX4_caskHere 104 = .ok (.invokestatic 70, 3) := by decide +kernel
theorem dX4_caskHere_107 : decode cX4_caskHere 107 = .ok (.sipush 999, 3) := by decide +kernel
theorem dX4_caskHere_110 : decode cX4_caskHere 110 = .ok (.invokevirtual 262, 3) := by decide +kernel
theorem dX4_caskHere_113 : decode cX4_caskHere 113 = .ok (.ifCond .eq 64, 3) := by decide +kernel
theorem dX4_caskHere_116 : decode cX4_caskHere 116 = .ok (.aload_n 0, 1) := by decide +kernel
theorem dX4_caskHere_117 : decode cX4_caskHere 117 = .ok (.aload_n 0, 1) := by decide +kernel
theorem dX4_caskHere_118 : decode cX4_caskHere 118 = .ok (.bipush 112, 2) := by decide +kernel
theorem dX4_caskHere_120 : decode cX4_caskHere 120 = .ok (.bipush 105, 2) := by decide +kernel
theorem dX4_caskHere_122 : decode cX4_caskHere 122 = .ok (.bipush 116, 2) := by decide +kernel
theorem dX4_caskHere_124 : decode cX4_caskHere 124 = .ok (.bipush 99, 2) := by decide +kernel
theorem dX4_caskHere_126 : decode cX4_caskHere 126 = .ok (.bipush 104, 2) := by decide +kernel
theorem dX4_caskHere_128 : decode cX4_caskHere 128 = .ok (.invokevirtual 248, 3) := by decide +kernel
theorem dX4_caskHere_131 : decode cX4_caskHere 131 = .ok (.iload_n 2, 1) := by decide +kernel
theorem dX4_caskHere_132 : decode cX4_caskHere 132 = .ok (.iconst 3, 1) := by decide +kernel
theorem dX4_caskHere_133 : decode cX4_caskHere 133 = .ok (.invokestatic 70, 3) := by decide +kernel
theorem dX4_caskHere_136 : decode cX4_caskHere 136 = .ok (.bipush 11, 2) := by decide +kernel
theorem dX4_caskHere_138 : decode cX4_caskHere 138 = .ok (.invokevirtual 262, 3) := by decide +kernel
theorem dX4_caskHere_141 : decode cX4_caskHere 141 = .ok (.ifCond .eq 36, 3) := by decide +kernel
theorem dX4_caskHere_144 : decode cX4_caskHere 144 = .ok (.aload_n 0, 1) := by decide +kernel
theorem dX4_caskHere_145 : decode cX4_caskHere 145 = .ok (.aload_n 0, 1) := by decide +kernel
theorem dX4_caskHere_146 : decode cX4_caskHere 146 = .ok (.bipush 104, 2) := by decide +kernel
theorem dX4_caskHere_148 : decode cX4_caskHere 148 = .ok (.bipush 111, 2) := by decide +kernel
theorem dX4_caskHere_150 : decode cX4_caskHere 150 = .ok (.bipush 111, 2) := by decide +kernel
theorem dX4_caskHere_152 : decode cX4_caskHere 152 = .ok (.bipush 112, 2) := by decide +kernel
theorem dX4_caskHere_154 : decode cX4_caskHere 154 = .ok (.bipush 115, 2) := by decide +kernel
theorem dX4_caskHere_156 : decode cX4_caskHere 156 = .ok (.invokevirtual 248, 3) := by decide +kernel
theorem dX4_caskHere_159 : decode cX4_caskHere 159 = .ok (.iload_n 2, 1) := by decide +kernel
theorem dX4_caskHere_160 : decode cX4_caskHere 160 = .ok (.iconst 4, 1) := by decide +kernel
theorem dX4_caskHere_161 : decode cX4_caskHere 161 = .ok (.invokestatic 70, 3) := by decide +kernel
theorem dX4_caskHere_164 : decode cX4_caskHere 164 = .ok (.sipush 999, 3) := by decide +kernel
theorem dX4_caskHere_167 : decode cX4_caskHere 167 = .ok (.invokevirtual 262, 3) := by decide +kernel
theorem dX4_caskHere_170 : decode cX4_caskHere 170 = .ok (.ifCond .eq 7, 3) := by decide +kernel
theorem dX4_caskHere_173 : decode cX4_caskHere 173 = .ok (.iconst 1, 1) := by decide +kernel
theorem dX4_caskHere_174 : decode cX4_caskHere 174 = .ok (.goto 4, 3) := by decide +kernel
theorem dX4_caskHere_177 : decode cX4_caskHere 177 = .ok (.iconst 0, 1) := by decide +kernel
theorem dX4_caskHere_178 : decode cX4_caskHere 178 = .ok (.ireturn, 1) := by decide +kernel
theorem dX4_cellarHere_0 : decode cX4_cellarHere 0 = .ok (.aload_n 0, 1) := by decide +kernel
theorem dX4_cellarHere_1 : decode cX4_cellarHere 1 = .ok (.invokevirtual 256, 3) := by decide +kernel
theorem dX4_cellarHere_4 : decode cX4_cellarHere 4 = .ok (.aload_n 0, 1) := by decide +kernel
theorem dX4_cellarHere_5 : decode cX4_cellarHere 5 = .ok (.iconst 0, 1) := by decide +kernel
theorem dX4_cellarHere_6 : decode cX4_cellarHere 6 = .ok (.iconst 5, 1) := by decide +kernel
theorem dX4_cellarHere_7 : decode cX4_cellarHere 7 = .ok (.invokevirtual 259, 3) := by decide +kernel
theorem dX4_cellarHere_10 : decode cX4_cellarHere 10 = .ok (.ifCond .eq 22, 3) := by decide +kernel
theorem dX4_cellarHere_13 : decode cX4_cellarHere 13 = .ok (.aload_n 0, 1) := by decide +kernel
theorem dX4_cellarHere_14 : decode cX4_cellarHere 14 = .ok (.iconst 1, 1) := by decide +kernel
theorem dX4_cellarHere_15 : decode cX4_cellarHere 15 = .ok (.iload_n 1, 1) := by decide +kernel
theorem dX4_cellarHere_16 : decode cX4_cellarHere 16 = .ok (.aload_n 0, 1) := by decide +kernel
theorem dX4_cellarHere_17 : decode cX4_cellarHere 17 = .ok (.getfield 228, 3) := by decide +kernel
theorem dX4_cellarHere_20 : decode cX4_cellarHere 20 = .ok (.iadd, 1) := by decide +kernel
theorem dX4_cellarHere_21 : decode cX4_cellarHere 21 = .ok (.iload_n 2, 1) := by decide +kernel
theorem dX4_cellarHere_22 : decode cX4_cellarHere 22 = .ok (.invokevirtual 262, 3) := by decide +kernel
theorem dX4_cellarHere_25 : decode cX4_cellarHere 25 = .ok (.ifCond .eq 7, 3) := by decide +kernel
theorem dX4_cellarHere_28 : decode cX4_cellarHere 28 = .ok (.iconst 1, 1) := by decide +kernel
theorem dX4_cellarHere_29 : decode cX4_cellarHere 29 = .ok (.goto 4, 3) := by decide +kernel
theorem dX4_cellarHere_32 : decode cX4_cellarHere 32 = .ok (.iconst 0, 1) := by decide +kernel
theorem dX4_cellarHere_33 : decode cX4_cellarHere 33 = .ok (.ireturn, 1) := by decide +kernel
theorem dX4_itemHere_0 : decode cX4_itemHere 0 = .ok (.aload_n 0, 1) := by decide +kernel
theorem dX4_itemHere_1 : decode cX4_itemHere 1 = .ok (.invokevirtual 266, 3) := by decide +kernel
theorem dX4_itemHere_4 : decode cX4_itemHere 4 = .ok (.istore_n 1, 1) := by decide +kernel
theorem dX4_itemHere_5 : decode cX4_itemHere 5 = .ok (.iload_n 1, 1) := by decide +kernel
theorem dX4_itemHere_6 : decode cX4_itemHere 6 = .ok (.ifCond .lt 9, 3) := by decide +kernel
theorem dX4_itemHere_9 : decode cX4_itemHere 9 = .ok (.aload_n 0, 1) := by decide +kernel
theorem dX4_itemHere_10 : decode cX4_itemHere 10 = .ok (.iload_n 1, 1) := by decide +kernel
theorem dX4_itemHere_11 : decode cX4_itemHere 11 = .ok (.invokevirtual 269, 3) := by decide +kernel
theorem dX4_itemHere_14 : decode cX4_itemHere 14 = .ok (.ireturn, 1) := by decide +kernel
theorem dX4_itemHere_15 : decode cX4_itemHere 15 = .ok (.aload_n 0, 1) := by decide +kernel
theorem dX4_itemHere_16 : decode cX4_itemHere 16 = .ok (.bipush 115, 2) := by decide +kernel
theorem dX4_itemHere_18 : decode cX4_itemHere 18 = .ok (.bipush 116, 2) := by decide +kernel
theorem dX4_itemHere_20 : decode cX4_itemHere 20 = .ok (.bipush 111, 2) := by decide +kernel
theorem dX4_itemHere_22 : decode cX4_itemHere 22 = .ok (.bipush 114, 2) := by decide +kernel
theorem dX4_itemHere_24 : decode cX4_itemHere 24 = .ok (.bipush 109, 2) := by decide +kernel
theorem dX4_itemHere_26 : decode cX4_itemHere 26 = .ok (.invokevirtual 248, 3) := by decide +kernel
theorem dX4_itemHere_29 : decode cX4_itemHere 29 = .ok (.ifCond .eq 12, 3) := by decide +kernel
theorem dX4_itemHere_32 : decode cX4_itemHere 32 = .ok (.aload_n 0, 1) := by decide +kernel
theorem dX4_itemHere_33 : decode cX4_itemHere 33 = .ok (.bipush 10, 2) := by decide +kernel
theorem dX4_itemHere_35 : decode cX4_itemHere 35 = .ok (.bipush 99, 2) := by decide +kernel
theorem dX4_itemHere_37 : decode cX4_itemHere 37 = .ok (.invokevirtual 272, 3) := by decide +kernel
theorem dX4_itemHere_40 : decode cX4_itemHere 40 = .ok (.ireturn, 1) := by decide +kernel
theorem dX4_itemHere_41 : decode cX4_itemHere 41 = .ok (.aload_n 0, 1) := by decide +kernel
theorem dX4_itemHere_42 : decode cX4_itemHere 42 = .ok (.bipush 102, 2) := by decide +kernel
theorem dX4_itemHere_44 : decode cX4_itemHere 44 = .ok (.bipush 114, 2) := by decide +kernel
theorem dX4_itemHere_46 : decode cX4_itemHere 46 = .ok (.bipush 111, 2) := by decide +kernel
theorem dX4_itemHere_48 : decode cX4_itemHere 48 = .ok (.bipush 115, 2) := by decide +kernel
theorem dX4_itemHere_50 : decode cX4_itemHere 50 = .ok (.bipush 116, 2) := by decide +kernel
theorem dX4_itemHere_52 : decode cX4_itemHere 52 = .ok (.invokevirtual 248, 3) := by decide +kernel
theorem dX4_itemHere_55 : decode cX4_itemHere 55 = .ok (.ifCond .eq 13, 3) := by decide +kernel
theorem dX4_itemHere_58 : decode cX4_itemHere 58 = .ok (.aload_n 0, 1) := by decide +kernel
theorem dX4_itemHere_59 : decode cX4_itemHere 59 = .ok (.iconst 4, 1) := by decide +kernel
theorem dX4_itemHere_60 : decode cX4_itemHere 60 = .ok (.bipush 9, 2) := by decide +kernel
theorem dX4_itemHere_62 : decode cX4_itemHere 62 = .ok (.invokevirtual 272, 3) := by decide +kernel
theorem dX4_itemHere_65 : decode cX4_itemHere 65 = .ok (.goto 7, 3) := by decide +kernel
theorem dX4_itemHere_68 : decode cX4_itemHere 68 = .ok (.aload_n 0, 1) := by decide +kernel
theorem dX4_itemHere_69 : decode cX4_itemHere 69 = .ok (.invokevirtual 241, 3) := by decide +kernel
theorem dX4_itemHere_72 : decode cX4_itemHere 72 = .ok (.ireturn, 1) := by decide +kernel
theorem dX4_text_0 : decode cX4_text 0 = .ok (.aload_n 0, 1) := by decide +kernel
theorem dX4_text_1 : decode cX4_text 1 = .ok (.getfield 7, 3) := by decide +kernel
theorem dX4_text_4 : decode cX4_text 4 = .ok (.aload_n 0, 1) := by decide +kernel
theorem dX4_text_5 : decode cX4_text 5 = .ok (.getfield 16, 3) := by decide +kernel
theorem dX4_text_8 : decode cX4_text 8 = .ok (.invokestatic 140, 3) := by decide +kernel
theorem dX4_text_11 : decode cX4_text 11 = .ok (.aload_n 0, 1) := by decide +kernel
theorem dX4_text_12 : decode cX4_text 12 = .ok (.iconst 0, 1) := by decide +kernel
theorem dX4_text_13 : decode cX4_text 13 = .ok (.putfield 210, 3) := by decide +kernel
theorem dX4_text_16 : decode cX4_text 16 = .ok (.aload_n 0, 1) := by decide +kernel
theorem dX4_text_17 : decode cX4_text 17 = .ok (.invokevirtual 256, 3) := by decide +kernel
theorem dX4_text_20 : decode cX4_text 20 = .ok (.iconst 1, 1) := by decide +kernel
theorem dX4_text_21 : decode cX4_text 21 = .ok (.istore_n 1, 1) := by decide +kernel
theorem dX4_text_22 : decode cX4_text 22 = .ok (.aload_n 0, 1) := by decide +kernel
theorem dX4_text_23 : decode cX4_text 23 = .ok (.invokevirtual 275, 3) := by decide +kernel
theorem dX4_text_26 : decode cX4_text 26 = .ok (.istore_n 2, 1) := by decide +kernel
theorem dX4_text_27 : decode cX4_text 27 = .ok (.iload_n 2, 1) := by decide +kernel
theorem dX4_text_28 : decode cX4_text 28 = .ok (.ifCond .eq 26, 3) := by decide +kernel
theorem dX4_text_31 : decode cX4_text 31 = .ok (.aload_n 0, 1) := by decide +kernel
theorem dX4_text_32 : decode cX4_text 32 = .ok (.getfield 225, 3) := by decide +kernel
theorem dX4_text_35 : decode cX4_text 35 = .ok (.iconst 3, 1) := by decide +kernel
theorem dX4_text_36 : decode cX4_text 36 = .ok (.if_icmp .ne 18, 3) := by decide +kernel
theorem dX4_text_39 : decode cX4_text 39 = .ok (.aload_n 0, 1) := by decide +kernel
theorem dX4_text_40 : decode cX4_text 40 = .ok (.invokevirtual 256, 3) := by decide +kernel
theorem dX4_text_43 : decode cX4_text 43 = .ok (.aload_n 0, 1) := by decide +kernel
theorem dX4_text_44 : decode cX4_text 44 = .ok (.invokevirtual 275, 3) := by decide +kernel
theorem dX4_text_47 : decode cX4_text 47 = .ok (.istore_n 2, 1) := by decide +kernel
theorem dX4_text_48 : decode cX4_text 48 = .ok (.iinc 1 1, 3) := by decide +kernel
theorem dX4_text_51 : decode cX4_text 51 = .ok (.goto (-24), 3) := by decide +kernel
theorem dX4_text_54 : decode cX4_text 54 = .ok (.iload_n 2, 1) := by decide +kernel
theorem dX4_text_55 : decode cX4_text 55 = .ok (.ifCond .eq 21, 3) := by decide +kernel
theorem dX4_text_58 : decode cX4_text 58 = .ok (.aload_n 0, 1) := by decide +kernel
theorem dX4_text_59 : decode cX4_text 59 = .ok (.getfield 225, 3) := by decide +kernel
theorem dX4_text_62 : decode cX4_text 62 = .ok (.ifCond .eq 10, 3) := by decide +kernel
theorem dX4_text_65 : decode cX4_text 65 = .ok (.aload_n 0, 1) := by decide +kernel
theorem dX4_text_66 : decode cX4_text 66 = .ok (.invokevirtual 241, 3) := by decide +kernel
theorem dX4_text_69 : decode cX4_text 69 = .ok (.ifCond .eq 7, 3) := by decide +kernel
theorem dX4_text_72 : decode cX4_text 72 = .ok (.iconst 1, 1) := by decide +kernel
theorem dX4_text_73 : decode cX4_text 73 = .ok (.goto 4, 3) := by decide +kernel
theorem dX4_text_76 : decode cX4_text 76 = .ok (.iconst 0, 1) := by decide +kernel
theorem dX4_text_77 : decode cX4_text 77 = .ok (.istore_n 2, 1) := by decide +kernel
theorem dX4_text_78 : decode cX4_text 78 = .ok (.aload_n 0, 1) := by decide +kernel
theorem dX4_text_79 : decode cX4_text 79 = .ok (.iconst 0, 1) := by decide +kernel
theorem dX4_text_80 : decode cX4_text 80 = .ok (.putfield 207, 3) := by decide +kernel
theorem dX4_text_83 : decode cX4_text 83 = .ok (.iload_n 2, 1) := by decide +kernel
theorem dX4_text_84 : decode cX4_text 84 = .ok (.ifCond .ne 14, 3) := by decide +kernel
theorem dX4_text_87 : decode cX4_text 87 = .ok (.aload_n 0, 1) := by decide +kernel
theorem dX4_text_88 : decode cX4_text 88 = .ok (.getfield 16, 3) := by decide +kernel
theorem dX4_text_91 : decode cX4_text 91 = .ok (.aload_n 0, 1) := by decide +kernel
theorem dX4_text_92 : decode cX4_text 92 = .ok (.getfield 7, 3) := by decide +kernel
theorem dX4_text_95 : decode cX4_text 95 = .ok (.invokestatic 140, 3) := by decide +kernel
theorem dX4_text_98 : decode cX4_text 98 = .ok (.iload_n 2, 1) := by decide +kernel
theorem dX4_text_99 : decode cX4_text 99 = .ok (.ifCond .eq 7, 3) := by decide +kernel
theorem dX4_text_102 : decode cX4_text 102 = .ok (.iload_n 1, 1) := by decide +kernel
theorem dX4_text_103 : decode cX4_text 103 = .ok (.goto 9, 3) := by decide +kernel
theorem dX4_text_106 : decode cX4_text 106 = .ok (.iconst (-1), 1) := by decide +kernel
theorem dX4_text_107 : decode cX4_text 107 = .ok (.aload_n 0, 1) := by decide +kernel
theorem dX4_text_108 : decode cX4_text 108 = .ok (.getfield 231, 3) := by decide +kernel
theorem dX4_text_111 : decode cX4_text 111 = .ok (.isub, 1) := by decide +kernel
theorem dX4_text_112 : decode cX4_text 112 = .ok (.ireturn, 1) := by decide +kernel
theorem dX4_hold_0 : decode cX4_hold 0 = .ok (.iload_n 1, 1) := by decide +kernel
theorem dX4_hold_1 : decode cX4_hold 1 = .ok (.i2l, 1) := by decide +kernel
theorem dX4_hold_2 : decode cX4_hold 2 = .ok (.lconst 0, 1) := by decide +kernel
theorem dX4_hold_3 : decode cX4_hold 3 = .ok (.ldc2_w 47, 3) := by decide +kernel
theorem dX4_hold_6 : decode cX4_hold 6 = .ok (.invokestatic 49, 3) := by decide +kernel
theorem dX4_hold_9 : decode cX4_hold 9 = .ok (.ifCond .eq 16, 3) := by decide +kernel
theorem dX4_hold_12 : decode cX4_hold 12 = .ok (.iload_n 2, 1) := by decide +kernel
theorem dX4_hold_13 : decode cX4_hold 13 = .ok (.iconst (-1), 1) := by decide +kernel
theorem dX4_hold_14 : decode cX4_hold 14 = .ok (.if_icmp .eq 18, 3) := by decide +kernel
theorem dX4_hold_17 : decode cX4_hold 17 = .ok (.aload_n 0, 1) := by decide +kernel
theorem dX4_hold_18 : decode cX4_hold 18 = .ok (.iload_n 2, 1) := by decide +kernel
theorem dX4_hold_19 : decode cX4_hold 19 = .ok (.invokevirtual 86, 3) := by decide +kernel
theorem dX4_hold_22 : decode cX4_hold 22 = .ok (.ifCond .ne 10, 3) := by decide +kernel
theorem dX4_hold_25 : decode cX4_hold 25 = .ok (.aload_n 0, 1) := by decide +kernel
theorem dX4_hold_26 : decode cX4_hold 26 = .ok (.ldc 37, 2) := by decide +kernel
theorem dX4_hold_28 : decode cX4_hold 28 = .ok (.invokevirtual 39, 3) := by decide +kernel
theorem dX4_hold_31 : decode cX4_hold 31 = .ok (.ireturn, 1) := by decide +kernel
theorem dX4_hold_32 : decode cX4_hold 32 = .ok (.aload_n 0, 1) := by decide +kernel
theorem dX4_hold_33 : decode cX4_hold 33 = .ok (.getfield 7, 3) := by decide +kernel
theorem dX4_hold_36 : decode cX4_hold 36 = .ok (.bipush 72, 2) := by decide +kernel
theorem dX4_hold_38 : decode cX4_hold 38 = .ok (.iload_n 1, 1) := by decide +kernel
theorem dX4_hold_39 : decode cX4_hold 39 = .ok (.iadd, 1) := by decide +kernel
theorem dX4_hold_40 : decode cX4_hold 40 = .ok (.iload_n 2, 1) := by decide +kernel
theorem dX4_hold_41 : decode cX4_hold 41 = .ok (.iastore, 1) := by decide +kernel
theorem dX4_hold_42 : decode cX4_hold 42 = .ok (.iconst 1, 1) := by decide +kernel
theorem dX4_hold_43 : decode cX4_hold 43 = .ok (.ireturn, 1) := by decide +kernel
theorem dX4_isUnder_0 : decode cX4_isUnder 0 = .ok (.iload_n 1, 1) := by decide +kernel
theorem dX4_isUnder_1 : decode cX4_isUnder 1 = .ok (.ifCond .eq 44, 3) := by decide +kernel
theorem dX4_isUnder_4 : decode cX4_isUnder 4 = .ok (.iload_n 0, 1) := by decide +kernel
theorem dX4_isUnder_5 : decode cX4_isUnder 5 = .ok (.iload_n 1, 1) := by decide +kernel
theorem dX4_isUnder_6 : decode cX4_isUnder 6 = .ok (.if_icmp .eq 39, 3) := by decide +kernel
theorem dX4_isUnder_9 : decode cX4_isUnder 9 = .ok (.iload_n 1, 1) := by decide +kernel
theorem dX4_isUnder_10 : decode cX4_isUnder 10 = .ok (.iconst 2, 1) := by decide +kernel
theorem dX4_isUnder_11 : decode cX4_isUnder 11 = .ok (.if_icmp .ne 13, 3) := by decide +kernel
theorem dX4_isUnder_14 : decode cX4_isUnder 14 = .ok (.iload_n 0, 1) := by decide +kernel
theorem dX4_isUnder_15 : decode cX4_isUnder 15 = .ok (.iconst 3, 1) := by decide +kernel
theorem dX4_isUnder_16 : decode cX4_isUnder 16 = .ok (.if_icmp .eq 29, 3) := by decide +kernel
theorem dX4_isUnder_19 : decode cX4_isUnder 19 = .ok (.iload_n 0, 1) := by decide +kernel
theorem dX4_isUnder_20 : decode cX4_isUnder 20 = .ok (.iconst 4, 1) := by decide +kernel
theorem dX4_isUnder_21 : decode cX4_isUnder 21 = .ok (.if_icmp .eq 24, 3) := by decide +kernel
theorem dX4_isUnder_24 : decode cX4_isUnder 24 = .ok (.iload_n 1, 1) := by decide +kernel
theorem dX4_isUnder_25 : decode cX4_isUnder 25 = .ok (.iconst 3, 1) := by decide +kernel
theorem dX4_isUnder_26 : decode cX4_isUnder 26 = .ok (.if_icmp .ne 8, 3) := by decide +kernel
theorem dX4_isUnder_29 : decode cX4_isUnder 29 = .ok (.iload_n 0, 1) := by decide +kernel
theorem dX4_isUnder_30 : decode cX4_isUnder 30 = .ok (.iconst 4, 1) := by decide +kernel
theorem dX4_isUnder_31 : decode cX4_isUnder 31 = .ok (.if_icmp .eq 14, 3) := by decide +kernel
theorem dX4_isUnder_34 : decode cX4_isUnder 34 = .ok (.iload_n 1, 1) := by decide +kernel
theorem dX4_isUnder_35 : decode cX4_isUnder 35 = .ok (.iconst 1, 1) := by decide +kernel
theorem dX4_isUnder_36 : decode cX4_isUnder 36 = .ok (.if_icmp .ne 13, 3) := by decide +kernel
theorem dX4_isUnder_39 : decode cX4_isUnder 39 = .ok (.iload_n 0, 1) := by decide +kernel
theorem dX4_isUnder_40 : decode cX4_isUnder 40 = .ok (.bipush 6, 2) := by decide +kernel
theorem dX4_isUnder_42 : decode cX4_isUnder 42 = .ok (.if_icmp .ne 7, 3) := by decide +kernel
theorem dX4_isUnder_45 : decode cX4_isUnder 45 = .ok (.iconst 1, 1) := by decide +kernel
theorem dX4_isUnder_46 : decode cX4_isUnder 46 = .ok (.goto 4, 3) := by decide +kernel
theorem dX4_isUnder_49 : decode cX4_isUnder 49 = .ok (.iconst 0, 1) := by decide +kernel
theorem dX4_isUnder_50 : decode cX4_isUnder 50 = .ok (.ireturn, 1) := by decide +kernel
theorem dX4_as_0 : decode cX4_as 0 = .ok (.iload_n 1, 1) := by decide +kernel
theorem dX4_as_1 : decode cX4_as 1 = .ok (.i2l, 1) := by decide +kernel
theorem dX4_as_2 : decode cX4_as 2 = .ok (.lconst 0, 1) := by decide +kernel
theorem dX4_as_3 : decode cX4_as 3 = .ok (.ldc2_w 47, 3) := by decide +kernel
theorem dX4_as_6 : decode cX4_as 6 = .ok (.invokestatic 49, 3) := by decide +kernel
theorem dX4_as_9 : decode cX4_as 9 = .ok (.ifCond .eq 15, 3) := by decide +kernel
theorem dX4_as_12 : decode cX4_as 12 = .ok (.iload_n 2, 1) := by decide +kernel
theorem dX4_as_13 : decode cX4_as 13 = .ok (.i2l, 1) := by decide +kernel
theorem dX4_as_14 : decode cX4_as 14 = .ok (.lconst 0, 1) := by decide +kernel
theorem dX4_as_15 : decode cX4_as 15 = .ok (.ldc2_w 73, 3) := by decide +kernel
theorem dX4_as_18 : decode cX4_as 18 = .ok (.invokestatic 49, 3) := by decide +kernel
theorem dX4_as_21 : decode cX4_as 21 = .ok (.ifCond .ne 10, 3) := by decide +kernel
theorem dX4_as_24 : decode cX4_as 24 = .ok (.aload_n 0, 1) := by decide +kernel
theorem dX4_as_25 : decode cX4_as 25 = .ok (.ldc 37, 2) := by decide +kernel
theorem dX4_as_27 : decode cX4_as 27 = .ok (.invokevirtual 39, 3) := by decide +kernel
theorem dX4_as_30 : decode cX4_as 30 = .ok (.ireturn, 1) := by decide +kernel
theorem dX4_as_31 : decode cX4_as 31 = .ok (.aload_n 0, 1) := by decide +kernel
theorem dX4_as_32 : decode cX4_as 32 = .ok (.getfield 7, 3) := by decide +kernel
theorem dX4_as_35 : decode cX4_as 35 = .ok (.bipush 72, 2) := by decide +kernel
theorem dX4_as_37 : decode cX4_as 37 = .ok (.iload_n 1, 1) := by decide +kernel
theorem dX4_as_38 : decode cX4_as 38 = .ok (.iadd, 1) := by decide +kernel
theorem dX4_as_39 : decode cX4_as 39 = .ok (.iaload, 1) := by decide +kernel
theorem dX4_as_40 : decode cX4_as 40 = .ok (.istore_n 3, 1) := by decide +kernel
theorem dX4_as_41 : decode cX4_as 41 = .ok (.iload_n 3, 1) := by decide +kernel
theorem dX4_as_42 : decode cX4_as 42 = .ok (.ifCond .ge 11, 3) := by decide +kernel
theorem dX4_as_45 : decode cX4_as 45 = .ok (.aload_n 0, 1) := by decide +kernel
theorem dX4_as_46 : decode cX4_as 46 = .ok (.ldc_w 278, 3) := by decide +kernel
theorem dX4_as_49 : decode cX4_as 49 = .ok (.invokevirtual 39, 3) := by decide +kernel
theorem dX4_as_52 : decode cX4_as 52 = .ok (.ireturn, 1) := by decide +kernel
theorem dX4_as_53 : decode cX4_as 53 = .ok (.aload_n 0, 1) := by decide +kernel
theorem dX4_as_54 : decode cX4_as 54 = .ok (.iload_n 3, 1) := by decide +kernel
theorem dX4_as_55 : decode cX4_as 55 = .ok (.iconst 0, 1) := by decide +kernel
theorem dX4_as_56 : decode cX4_as 56 = .ok (.invokevirtual 57, 3) := by decide +kernel
theorem dX4_as_59 : decode cX4_as 59 = .ok (.iload_n 2, 1) := by decide +kernel
theorem dX4_as_60 : decode cX4_as 60 = .ok (.invokestatic 279, 3) := by decide +kernel
theorem dX4_as_63 : decode cX4_as 63 = .ok (.ifCond .eq 7, 3) := by decide +kernel
theorem dX4_as_66 : decode cX4_as 66 = .ok (.iload_n 3, 1) := by decide +kernel
theorem dX4_as_67 : decode cX4_as 67 = .ok (.goto 10, 3) := by decide +kernel
theorem dX4_as_70 : decode cX4_as 70 = .ok (.aload_n 0, 1) := by decide +kernel
theorem dX4_as_71 : decode cX4_as 71 = .ok (.ldc_w 282, 3) := by decide +kernel
theorem dX4_as_74 : decode cX4_as 74 = .ok (.invokevirtual 39, 3) := by decide +kernel
theorem dX4_as_77 : decode cX4_as 77 = .ok (.ireturn, 1) := by decide +kernel
theorem dX4_isSheet_0 : decode cX4_isSheet 0 = .ok (.iload_n 0, 1) := by decide +kernel
theorem dX4_isSheet_1 : decode cX4_isSheet 1 = .ok (.ifCond .lt 12, 3) := by decide +kernel
theorem dX4_isSheet_4 : decode cX4_isSheet 4 = .ok (.iload_n 0, 1) := by decide +kernel
theorem dX4_isSheet_5 : decode cX4_isSheet 5 = .ok (.iconst 4, 1) := by decide +kernel
theorem dX4_isSheet_6 : decode cX4_isSheet 6 = .ok (.if_icmp .ge 7, 3) := by decide +kernel
theorem dX4_isSheet_9 : decode cX4_isSheet 9 = .ok (.iconst 1, 1) := by decide +kernel
theorem dX4_isSheet_10 : decode cX4_isSheet 10 = .ok (.goto 4, 3) := by decide +kernel
theorem dX4_isSheet_13 : decode cX4_isSheet 13 = .ok (.iconst 0, 1) := by decide +kernel
theorem dX4_isSheet_14 : decode cX4_isSheet 14 = .ok (.ireturn, 1) := by decide +kernel
theorem dX4_sheet_0 : decode cX4_sheet 0 = .ok (.iload_n 1, 1) := by decide +kernel
theorem dX4_sheet_1 : decode cX4_sheet 1 = .ok (.invokestatic 283, 3) := by decide +kernel
theorem dX4_sheet_4 : decode cX4_sheet 4 = .ok (.ifCond .eq 25, 3) := by decide +kernel
theorem dX4_sheet_7 : decode cX4_sheet 7 = .ok (.iload_n 2, 1) := by decide +kernel
theorem dX4_sheet_8 : decode cX4_sheet 8 = .ok (.ifCond .eq 28, 3) := by decide +kernel
theorem dX4_sheet_11 : decode cX4_sheet 11 = .ok (.iload_n 2, 1) := by decide +kernel
theorem dX4_sheet_12 : decode cX4_sheet 12 = .ok (.bipush 8, 2) := by decide +kernel
theorem dX4_sheet_14 : decode cX4_sheet 14 = .ok (.if_icmp .eq 22, 3) := by decide +kernel
theorem dX4_sheet_17 : decode cX4_sheet 17 = .ok (.iload_n 2, 1) := by decide +kernel
theorem dX4_sheet_18 : decode cX4_sheet 18 = .ok (.bipush 16, 2) := by decide +kernel
theorem dX4_sheet_20 : decode cX4_sheet 20 = .ok (.if_icmp .eq 16, 3) := by decide +kernel
theorem dX4_sheet_23 : decode cX4_sheet 23 = .ok (.iload_n 2, 1) := by decide +kernel
theorem dX4_sheet_24 : decode cX4_sheet 24 = .ok (.bipush 32, 2) := by decide +kernel
theorem dX4_sheet_26 : decode cX4_sheet 26 = .ok (.if_icmp .eq 10, 3) := by decide +kernel
theorem dX4_sheet_29 : decode cX4_sheet 29 = .ok (.aload_n 0, 1) := by decide +kernel
theorem dX4_sheet_30 : decode cX4_sheet 30 = .ok (.ldc 37, 2) := by decide +kernel
theorem dX4_sheet_32 : decode cX4_sheet 32 = .ok (.invokevirtual 39, 3) := by decide +kernel
theorem dX4_sheet_35 : decode cX4_sheet 35 = .ok (.ireturn, 1) := by decide +kernel
theorem dX4_sheet_36 : decode cX4_sheet 36 = .ok (.iload_n 3, 1) := by decide +kernel
theorem dX4_sheet_37 : decode cX4_sheet 37 = .ok (.ifCond .ge 11, 3) := by decide +kernel
theorem dX4_sheet_40 : decode cX4_sheet 40 = .ok (.aload_n 0, 1) := by decide +kernel
theorem dX4_sheet_41 : decode cX4_sheet 41 = .ok (.ldc_w 286, 3) := by decide +kernel
theorem dX4_sheet_44 : decode cX4_sheet 44 = .ok (.invokevirtual 39, 3) := by decide +kernel
theorem dX4_sheet_47 : decode cX4_sheet 47 = .ok (.ireturn, 1) := by decide +kernel
theorem dX4_sheet_48 : decode cX4_sheet 48 = .ok (.iload_n 3, 1) := by decide +kernel
theorem dX4_sheet_49 : decode cX4_sheet 49 = .ok (.bipush 40, 2) := by decide +kernel
theorem dX4_sheet_51 : decode cX4_sheet 51 = .ok (.if_icmp .le 10, 3) := by decide +kernel
theorem dX4_sheet_54 : decode cX4_sheet 54 = .ok (.aload_n 0, 1) := by decide +kernel
theorem dX4_sheet_55 : decode cX4_sheet 55 = .ok (.ldc 37, 2) := by decide +kernel
theorem dX4_sheet_57 : decode cX4_sheet 57 = .ok (.invokevirtual 39, 3) := by decide +kernel
theorem dX4_sheet_60 : decode cX4_sheet 60 = .ok (.ireturn, 1) := by decide +kernel
theorem dX4_sheet_61 : decode cX4_sheet 61 = .ok (.aload_n 0, 1) := by decide +kernel
theorem dX4_sheet_62 : decode cX4_sheet 62 = .ok (.getfield 28, 3) := by decide +kernel
theorem dX4_sheet_65 : decode cX4_sheet 65 = .ok (.iload_n 1, 1) := by decide +kernel
theorem dX4_sheet_66 : decode cX4_sheet 66 = .ok (.iload_n 2, 1) := by decide +kernel
theorem dX4_sheet_67 : decode cX4_sheet 67 = .ok (.ifCond .ne 7, 3) := by decide +kernel
theorem dX4_sheet_70 : decode cX4_sheet 70 = .ok (.iconst (-1), 1) := by decide +kernel
theorem dX4_sheet_71 : decode cX4_sheet 71 = .ok (.goto 4, 3) := by decide +kernel
theorem dX4_sheet_74 : decode cX4_sheet 74 = .ok (.iload_n 2, 1) := by decide +kernel
theorem dX4_sheet_75 : decode cX4_sheet 75 = .ok (.iastore, 1) := by decide +kernel
theorem dX4_sheet_76 : decode cX4_sheet 76 = .ok (.aload_n 0, 1) := by decide +kernel
theorem dX4_sheet_77 : decode cX4_sheet 77 = .ok (.getfield 31, 3) := by decide +kernel
theorem dX4_sheet_80 : decode cX4_sheet 80 = .ok (.iload_n 1, 1) := by decide +kernel
theorem dX4_sheet_81 : decode cX4_sheet 81 = .ok (.iload_n 2, 1) := by decide +kernel
theorem dX4_sheet_82 : decode cX4_sheet 82 = .ok (.ifCond .ne 7, 3) := by decide +kernel
theorem dX4_sheet_85 : decode cX4_sheet 85 = .ok (.iconst 0, 1) := by decide +kernel
theorem dX4_sheet_86 : decode cX4_sheet 86 = .ok (.goto 4, 3) := by decide +kernel
theorem dX4_sheet_89 : decode cX4_sheet 89 = .ok (.iload_n 3, 1) := by decide +kernel
theorem dX4_sheet_90 : decode cX4_sheet 90 = .ok (.iastore, 1) := by decide +kernel
theorem dX4_sheet_91 : decode cX4_sheet 91 = .ok (.iconst 0, 1) := by decide +kernel
theorem dX4_sheet_92 : decode cX4_sheet 92 = .ok (.istore 4, 2) := by decide +kernel
theorem dX4_sheet_94 : decode cX4_sheet 94 = .ok (.iload 4, 2) := by decide +kernel
theorem dX4_sheet_96 : decode cX4_sheet 96 = .ok (.bipush 40, 2) := by decide +kernel
theorem dX4_sheet_98 : decode cX4_sheet 98 = .ok (.if_icmp .ge 22, 3) := by decide +kernel
theorem dX4_sheet_101 : decode cX4_sheet 101 = .ok (.aload_n 0, 1) := by decide +kernel
theorem dX4_sheet_102 : decode cX4_sheet 102 = .ok (.getfield 34, 3) := by decide +kernel
theorem dX4_sheet_105 : decode cX4_sheet 105 = .ok (.bipush 40, 2) := by decide +kernel
theorem dX4_sheet_107 : decode cX4_sheet 107 = .ok (.iload_n 1, 1) := by decide +kernel
theorem dX4_sheet_108 : decode cX4_sheet 108 = .ok (.imul, 1) := by decide +kernel
theorem dX4_sheet_109 : decode cX4_sheet 109 = .ok (.iload 4, 2) := by decide +kernel
theorem dX4_sheet_111 : decode cX4_sheet 111 = .ok (.iadd, 1) := by decide +kernel
theorem dX4_sheet_112 : decode cX4_sheet 112 = .ok (.iconst 0, 1) := by decide +kernel
theorem dX4_sheet_113 : decode cX4_sheet 113 = .ok (.iastore, 1) := by decide +kernel
theorem dX4_sheet_114 : decode cX4_sheet 114 = .ok (.iinc 4 1, 3) := by decide +kernel
theorem dX4_sheet_117 : decode cX4_sheet 117 = .ok (.goto (-23), 3) := by decide +kernel
theorem dX4_sheet_120 : decode cX4_sheet 120 = .ok (.aload_n 0, 1) := by decide +kernel
theorem dX4_sheet_121 : decode cX4_sheet 121 = .ok (.getfield 31, 3) := by decide +kernel
theorem dX4_sheet_124 : decode cX4_sheet 124 = .ok (.iload_n 1, 1) := by decide +kernel
theorem dX4_sheet_125 : decode cX4_sheet 125 = .ok (.iaload, 1) := by decide +kernel
theorem dX4_sheet_126 : decode cX4_sheet 126 = .ok (.ireturn, 1) := by decide +kernel
theorem dX4_write_0 : decode cX4_write 0 = .ok (.iload_n 1, 1) := by decide +kernel
theorem dX4_write_1 : decode cX4_write 1 = .ok (.invokestatic 283, 3) := by decide +kernel
theorem dX4_write_4 : decode cX4_write 4 = .ok (.ifCond .ne 10, 3) := by decide +kernel
theorem dX4_write_7 : decode cX4_write 7 = .ok (.aload_n 0, 1) := by decide +kernel
theorem dX4_write_8 : decode cX4_write 8 = .ok (.ldc 37, 2) := by decide +kernel
theorem dX4_write_10 : decode cX4_write 10 = .ok (.invokevirtual 39, 3) := by decide +kernel
theorem dX4_write_13 : decode cX4_write 13 = .ok (.ireturn, 1) := by decide +kernel
theorem dX4_write_14 : decode cX4_write 14 = .ok (.aload_n 0, 1) := by decide +kernel
theorem dX4_write_15 : decode cX4_write 15 = .ok (.getfield 28, 3) := by decide +kernel
theorem dX4_write_18 : decode cX4_write 18 = .ok (.iload_n 1, 1) := by decide +kernel
theorem dX4_write_19 : decode cX4_write 19 = .ok (.iaload, 1) := by decide +kernel
theorem dX4_write_20 : decode cX4_write 20 = .ok (.ifCond .ge 11, 3) := by decide +kernel
theorem dX4_write_23 : decode cX4_write 23 = .ok (.aload_n 0, 1) := by decide +kernel
theorem dX4_write_24 : decode cX4_write 24 = .ok (.ldc_w 278, 3) := by decide +kernel
theorem dX4_write_27 : decode cX4_write 27 = .ok (.invokevirtual 39, 3) := by decide +kernel
theorem dX4_write_30 : decode cX4_write 30 = .ok (.ireturn, 1) := by decide +kernel
theorem dX4_write_31 : decode cX4_write 31 = .ok (.iload_n 2, 1) := by decide +kernel
theorem dX4_write_32 : decode cX4_write 32 = .ok (.i2l, 1) := by decide +kernel
theorem dX4_write_33 : decode cX4_write 33 = .ok (.lconst 0, 1) := by decide +kernel
theorem dX4_write_34 : decode cX4_write 34 = .ok (.aload_n 0, 1) := by decide +kernel
theorem dX4_write_35 : decode cX4_write 35 = .ok (.getfield 31, 3) := by decide +kernel
theorem dX4_write_38 : decode cX4_write 38 = .ok (.iload_n 1, 1) := by decide +kernel
theorem dX4_write_39 : decode cX4_write 39 = .ok (.iaload, 1) := by decide +kernel
theorem dX4_write_40 : decode cX4_write 40 = .ok (.iconst 1, 1) := by decide +kernel
theorem dX4_write_41 : decode cX4_write 41 = .ok (.isub, 1) := by decide +kernel
theorem dX4_write_42 : decode cX4_write 42 = .ok (.i2l, 1) := by decide +kernel
theorem dX4_write_43 : decode cX4_write 43 = .ok (.invokestatic 49, 3) := by decide +kernel
theorem dX4_write_46 : decode cX4_write 46 = .ok (.ifCond .ne 10, 3) := by decide +kernel
theorem dX4_write_49 : decode cX4_write 49 = .ok (.aload_n 0, 1) := by decide +kernel
theorem dX4_write_50 : decode cX4_write 50 = .ok (.ldc 37, 2) := by decide +kernel
theorem dX4_write_52 : decode cX4_write 52 = .ok (.invokevirtual 39, 3) := by decide +kernel
theorem dX4_write_55 : decode cX4_write 55 = .ok (.ireturn, 1) := by decide +kernel
theorem dX4_write_56 : decode cX4_write 56 = .ok (.aload_n 0, 1) := by decide +kernel
theorem dX4_write_57 : decode cX4_write 57 = .ok (.getfield 34, 3) := by decide +kernel
theorem dX4_write_60 : decode cX4_write 60 = .ok (.bipush 40, 2) := by decide +kernel
theorem dX4_write_62 : decode cX4_write 62 = .ok (.iload_n 1, 1) := by decide +kernel
theorem dX4_write_63 : decode cX4_write 63 = .ok (.imul, 1) := by decide +kernel
theorem dX4_write_64 : decode cX4_write 64 = .ok (.iload_n 2, 1) := by decide +kernel
theorem dX4_write_65 : decode cX4_write 65 = .ok (.iadd, 1) := by decide +kernel
theorem dX4_write_66 : decode cX4_write 66 = .ok (.aload_n 0, 1) := by decide +kernel
theorem dX4_write_67 : decode cX4_write 67 = .ok (.getfield 28, 3) := by decide +kernel
theorem dX4_write_70 : decode cX4_write 70 = .ok (.iload_n 1, 1) := by decide +kernel
theorem dX4_write_71 : decode cX4_write 71 = .ok (.iaload, 1) := by decide +kernel
theorem dX4_write_72 : decode cX4_write 72 = .ok (.bipush 8, 2) := by decide +kernel
theorem dX4_write_74 : decode cX4_write 74 = .ok (.if_icmp .ne 8, 3) := by decide +kernel
theorem dX4_write_77 : decode cX4_write 77 = .ok (.iload_n 3, 1) := by decide +kernel
theorem dX4_write_78 : decode cX4_write 78 = .ok (.i2b, 1) := by decide +kernel
theorem dX4_write_79 : decode cX4_write 79 = .ok (.goto 20, 3) := by decide +kernel
theorem dX4_write_82 : decode cX4_write 82 = .ok (.aload_n 0, 1) := by decide +kernel
theorem dX4_write_83 : decode cX4_write 83 = .ok (.getfield 28, 3) := by decide +kernel
theorem dX4_write_86 : decode cX4_write 86 = .ok (.iload_n 1, 1) := by decide +kernel
theorem dX4_write_87 : decode cX4_write 87 = .ok (.iaload, 1) := by decide +kernel
theorem dX4_write_88 : decode cX4_write 88 = .ok (.bipush 16, 2) := by decide +kernel
theorem dX4_write_90 : decode cX4_write 90 = .ok (.if_icmp .ne 8, 3) := by decide +kernel
theorem dX4_write_93 : decode cX4_write 93 = .ok (.iload_n 3, 1) := by decide +kernel
theorem dX4_write_94 : decode cX4_write 94 = .ok (.i2s, 1) := by decide +kernel
theorem dX4_write_95 : decode cX4_write 95 = .ok (.goto 4, 3) := by decide +kernel
theorem dX4_write_98 : decode cX4_write 98 = .ok (.iload_n 3, 1) := by decide +kernel
theorem dX4_write_99 : decode cX4_write 99 = .ok (.iastore, 1) := by decide +kernel
theorem dX4_write_100 : decode cX4_write 100 = .ok (.iconst 1, 1) := by decide +kernel
theorem dX4_write_101 : decode cX4_write 101 = .ok (.ireturn, 1) := by decide +kernel
theorem dX4_copy_0 : decode cX4_copy 0 = .ok (.iload_n 1, 1) := by decide +kernel
theorem dX4_copy_1 : decode cX4_copy 1 = .ok (.invokestatic 283, 3) := by decide +kernel
theorem dX4_copy_4 : decode cX4_copy 4 = .ok (.ifCond .eq 10, 3) := by decide +kernel
theorem dX4_copy_7 : decode cX4_copy 7 = .ok (.iload_n 3, 1) := by decide +kernel
theorem dX4_copy_8 : decode cX4_copy 8 = .ok (.invokestatic 283, 3) := by decide +kernel
theorem dX4_copy_11 : decode cX4_copy 11 = .ok (.ifCond .ne 10, 3) := by decide +kernel
theorem dX4_copy_14 : decode cX4_copy 14 = .ok (.aload_n 0, 1) := by decide +kernel
theorem dX4_copy_15 : decode cX4_copy 15 = .ok (.ldc 37, 2) := by decide +kernel
theorem dX4_copy_17 : decode cX4_copy 17 = .ok (.invokevirtual 39, 3) := by decide +kernel
theorem dX4_copy_20 : decode cX4_copy 20 = .ok (.ireturn, 1) := by decide +kernel
theorem dX4_copy_21 : decode cX4_copy 21 = .ok (.aload_n 0, 1) := by decide +kernel
theorem dX4_copy_22 : decode cX4_copy 22 = .ok (.getfield 28, 3) := by decide +kernel
theorem dX4_copy_25 : decode cX4_copy 25 = .ok (.iload_n 1, 1) := by decide +kernel
theorem dX4_copy_26 : decode cX4_copy 26 = .ok (.iaload, 1) := by decide +kernel
theorem dX4_copy_27 : decode cX4_copy 27 = .ok (.ifCond .lt 12, 3) := by decide +kernel
theorem dX4_copy_30 : decode cX4_copy 30 = .ok (.aload_n 0, 1) := by decide +kernel
theorem dX4_copy_31 : decode cX4_copy 31 = .ok (.getfield 28, 3) := by decide +kernel
theorem dX4_copy_34 : decode cX4_copy 34 = .ok (.iload_n 3, 1) := by decide +kernel
theorem dX4_copy_35 : decode cX4_copy 35 = .ok (.iaload, 1) := by decide +kernel
theorem dX4_copy_36 : decode cX4_copy 36 = .ok (.ifCond .ge 11, 3) := by decide +kernel
theorem dX4_copy_39 : decode cX4_copy 39 = .ok (.aload_n 0, 1) := by decide +kernel
theorem dX4_copy_40 : decode cX4_copy 40 = .ok (.ldc_w 278, 3) := by decide +kernel
theorem dX4_copy_43 : decode cX4_copy 43 = .ok (.invokevirtual 39, 3) := by decide +kernel
theorem dX4_copy_46 : decode cX4_copy 46 = .ok (.ireturn, 1) := by decide +kernel
theorem dX4_copy_47 : decode cX4_copy 47 = .ok (.aload_n 0, 1) := by decide +kernel
theorem dX4_copy_48 : decode cX4_copy 48 = .ok (.getfield 28, 3) := by decide +kernel
theorem dX4_copy_51 : decode cX4_copy 51 = .ok (.iload_n 1, 1) := by decide +kernel
theorem dX4_copy_52 : decode cX4_copy 52 = .ok (.iaload, 1) := by decide +kernel
theorem dX4_copy_53 : decode cX4_copy 53 = .ok (.aload_n 0, 1) := by decide +kernel
theorem dX4_copy_54 : decode cX4_copy 54 = .ok (.getfield 28, 3) := by decide +kernel
theorem dX4_copy_57 : decode cX4_copy 57 = .ok (.iload_n 3, 1) := by decide +kernel
theorem dX4_copy_58 : decode cX4_copy 58 = .ok (.iaload, 1) := by decide +kernel
theorem dX4_copy_59 : decode cX4_copy 59 = .ok (.if_icmp .eq 11, 3) := by decide +kernel
theorem dX4_copy_62 : decode cX4_copy 62 = .ok (.aload_n 0, 1) := by decide +kernel
theorem dX4_copy_63 : decode cX4_copy 63 = .ok (.ldc_w 282, 3) := by decide +kernel
theorem dX4_copy_66 : decode cX4_copy 66 = .ok (.invokevirtual 39, 3) := by decide +kernel
theorem dX4_copy_69 : decode cX4_copy 69 = .ok (.ireturn, 1) := by decide +kernel
theorem dX4_copy_70 : decode cX4_copy 70 = .ok (.iload_n 2, 1) := by decide +kernel
theorem dX4_copy_71 : decode cX4_copy 71 = .ok (.ifCond .lt 40, 3) := by decide +kernel
theorem dX4_copy_74 : decode cX4_copy 74 = .ok (.iload 4, 2) := by decide +kernel
theorem dX4_copy_76 : decode cX4_copy 76 = .ok (.ifCond .lt 35, 3) := by decide +kernel
theorem dX4_copy_79 : decode cX4_copy 79 = .ok (.iload 5, 2) := by decide +kernel
theorem dX4_copy_81 : decode cX4_copy 81 = .ok (.ifCond .lt 30, 3) := by decide +kernel
theorem dX4_copy_84 : decode cX4_copy 84 = .ok (.iload 5, 2) := by decide +kernel
theorem dX4_copy_86 : decode cX4_copy 86 = .ok (.aload_n 0, 1) := by decide +kernel
theorem dX4_copy_87 : decode cX4_copy 87 = .ok (.getfield 31, 3) := by decide +kernel
theorem dX4_copy_90 : decode cX4_copy 90 = .ok (.iload_n 1, 1) := by decide +kernel
theorem dX4_copy_91 : decode cX4_copy 91 = .ok (.iaload, 1) := by decide +kernel
theorem dX4_copy_92 : decode cX4_copy 92 = .ok (.iload_n 2, 1) := by decide +kernel
theorem dX4_copy_93 : decode cX4_copy 93 = .ok (.isub, 1) := by decide +kernel
theorem dX4_copy_94 : decode cX4_copy 94 = .ok (.if_icmp .gt 17, 3) := by decide +kernel
theorem dX4_copy_97 : decode cX4_copy 97 = .ok (.iload 5, 2) := by decide +kernel
theorem dX4_copy_99 : decode cX4_copy 99 = .ok (.aload_n 0, 1) := by decide +kernel
theorem dX4_copy_100 : decode cX4_copy 100 = .ok (.getfield 31, 3) := by decide +kernel
theorem dX4_copy_103 : decode cX4_copy 103 = .ok (.iload_n 3, 1) := by decide +kernel
theorem dX4_copy_104 : decode cX4_copy 104 = .ok (.iaload, 1) := by decide +kernel
theorem dX4_copy_105 : decode cX4_copy 105 = .ok (.iload 4, 2) := by decide +kernel
theorem dX4_copy_107 : decode cX4_copy 107 = .ok (.isub, 1) := by decide +kernel
theorem dX4_copy_108 : decode cX4_copy 108 = .ok (.if_icmp .le 10, 3) := by decide +kernel
theorem dX4_copy_111 : decode cX4_copy 111 = .ok (.aload_n 0, 1) := by decide +kernel
theorem dX4_copy_112 : decode cX4_copy 112 = .ok (.ldc 37, 2) := by decide +kernel
theorem dX4_copy_114 : decode cX4_copy 114 = .ok (.invokevirtual 39, 3) := by decide +kernel
theorem dX4_copy_117 : decode cX4_copy 117 = .ok (.ireturn, 1) := by decide +kernel
theorem dX4_copy_118 : decode cX4_copy 118 = .ok (.bipush 40, 2) := by decide +kernel
theorem dX4_copy_120 : decode cX4_copy 120 = .ok (.iload_n 1, 1) := by decide +kernel
theorem dX4_copy_121 : decode cX4_copy 121 = .ok (.imul, 1) := by decide +kernel
theorem dX4_copy_122 : decode cX4_copy 122 = .ok (.iload_n 2, 1) := by decide +kernel
theorem dX4_copy_123 : decode cX4_copy 123 = .ok (.iadd, 1) := by decide +kernel
theorem dX4_copy_124 : decode cX4_copy 124 = .ok (.istore 6, 2) := by decide +kernel
theorem dX4_copy_126 : decode cX4_copy 126 = .ok (.bipush 40, 2) := by decide +kernel
theorem dX4_copy_128 : decode cX4_copy 128 = .ok (.iload_n 3, 1) := by decide +kernel
theorem dX4_copy_129 : decode cX4_copy 129 = .ok (.imul, 1) := by decide +kernel
theorem dX4_copy_130 : decode cX4_copy 130 = .ok (.iload 4, 2) := by decide +kernel
theorem dX4_copy_132 : decode cX4_copy 132 = .ok (.iadd, 1) := by decide +kernel
theorem dX4_copy_133 : decode cX4_copy 133 = .ok (.istore 7, 2) := by decide +kernel
theorem dX4_copy_135 : decode cX4_copy 135 = .ok (.iconst 0, 1) := by decide +kernel
theorem dX4_copy_136 : decode cX4_copy 136 = .ok (.istore 8, 2) := by decide +kernel
theorem dX4_copy_138 : decode cX4_copy 138 = .ok (.iload 8, 2) := by decide +kernel
theorem dX4_copy_140 : decode cX4_copy 140 = .ok (.iload 5, 2) := by decide +kernel
theorem dX4_copy_142 : decode cX4_copy 142 = .ok (.if_icmp .ge 50, 3) := by decide +kernel
theorem dX4_copy_145 : decode cX4_copy 145 = .ok (.iload 6, 2) := by decide +kernel
theorem dX4_copy_147 : decode cX4_copy 147 = .ok (.iload 7, 2) := by decide +kernel
theorem dX4_copy_149 : decode cX4_copy 149 = .ok (.if_icmp .ge 13, 3) := by decide +kernel
theorem dX4_copy_152 : decode cX4_copy 152 = .ok (.iload 5, 2) := by decide +kernel
theorem dX4_copy_154 : decode cX4_copy 154 = .ok (.iconst 1, 1) := by decide +kernel
theorem dX4_copy_155 : decode cX4_copy 155 = .ok (.isub, 1) := by decide +kernel
theorem dX4_copy_156 : decode cX4_copy 156 = .ok (.iload 8, 2) := by decide +kernel
theorem dX4_copy_158 : decode cX4_copy 158 = .ok (.isub, 1) := by decide +kernel
theorem dX4_copy_159 : decode cX4_copy 159 = .ok (.goto 5, 3) := by decide +kernel
theorem dX4_copy_162 : decode cX4_copy 162 = .ok (.iload 8, 2) := by decide +kernel
theorem dX4_copy_164 : decode cX4_copy 164 = .ok (.istore 9, 2) := by decide +kernel
theorem dX4_copy_166 : decode cX4_copy 166 = .ok (.aload_n 0, 1) := by decide +kernel
theorem dX4_copy_167 : decode cX4_copy 167 = .ok (.getfield 34, 3) := by decide +kernel
theorem dX4_copy_170 : decode cX4_copy 170 = .ok (.iload 7, 2) := by decide +kernel
theorem dX4_copy_172 : decode cX4_copy 172 = .ok (.iload 9, 2) := by decide +kernel
theorem dX4_copy_174 : decode cX4_copy 174 = .ok (.iadd, 1) := by decide +kernel
theorem dX4_copy_175 : decode cX4_copy 175 = .ok (.aload_n 0, 1) := by decide +kernel
theorem dX4_copy_176 : decode cX4_copy 176 = .ok (.getfield 34, 3) := by decide +kernel
theorem dX4_copy_179 : decode cX4_copy 179 = .ok (.iload 6, 2) := by decide +kernel
theorem dX4_copy_181 : decode cX4_copy 181 = .ok (.iload 9, 2) := by decide +kernel
theorem dX4_copy_183 : decode cX4_copy 183 = .ok (.iadd, 1) := by decide +kernel
theorem dX4_copy_184 : decode cX4_copy 184 = .ok (.iaload, 1) := by decide +kernel
theorem dX4_copy_185 : decode cX4_copy 185 = .ok (.iastore, 1) := by decide +kernel
theorem dX4_copy_186 : decode cX4_copy 186 = .ok (.iinc 8 1, 3) := by decide +kernel
theorem dX4_copy_189 : decode cX4_copy 189 = .ok (.goto (-51), 3) := by decide +kernel
theorem dX4_copy_192 : decode cX4_copy 192 = .ok (.iload 5, 2) := by decide +kernel
theorem dX4_copy_194 : decode cX4_copy 194 = .ok (.ireturn, 1) := by decide +kernel
theorem dX4_wants_0 : decode cX4_wants 0 = .ok (.iload_n 1, 1) := by decide +kernel
theorem dX4_wants_1 : decode cX4_wants 1 = .ok (.invokestatic 283, 3) := by decide +kernel
theorem dX4_wants_4 : decode cX4_wants 4 = .ok (.ifCond .ne 8, 3) := by decide +kernel
theorem dX4_wants_7 : decode cX4_wants 7 = .ok (.ldc 37, 2) := by decide +kernel
theorem dX4_wants_9 : decode cX4_wants 9 = .ok (.goto 19, 3) := by decide +kernel
theorem dX4_wants_12 : decode cX4_wants 12 = .ok (.aload_n 0, 1) := by decide +kernel
theorem dX4_wants_13 : decode cX4_wants 13 = .ok (.getfield 28, 3) := by decide +kernel
theorem dX4_wants_16 : decode cX4_wants 16 = .ok (.iload_n 1, 1) := by decide +kernel
theorem dX4_wants_17 : decode cX4_wants 17 = .ok (.iaload, 1) := by decide +kernel
theorem dX4_wants_18 : decode cX4_wants 18 = .ok (.ifCond .ge 9, 3) := by decide +kernel
theorem dX4_wants_21 : decode cX4_wants 21 = .ok (.ldc_w 278, 3) := by decide +kernel
theorem dX4_wants_24 : decode cX4_wants 24 = .ok (.goto 4, 3) := by decide +kernel
theorem dX4_wants_27 : decode cX4_wants 27 = .ok (.iconst 0, 1) := by decide +kernel
theorem dX4_wants_28 : decode cX4_wants 28 = .ok (.ireturn, 1) := by decide +kernel
theorem dX4_load_0 : decode cX4_load 0 = .ok (.aload_n 0, 1) := by decide +kernel
theorem dX4_load_1 : decode cX4_load 1 = .ok (.iload_n 1, 1) := by decide +kernel
theorem dX4_load_2 : decode cX4_load 2 = .ok (.invokevirtual 190, 3) := by decide +kernel
theorem dX4_load_5 : decode cX4_load 5 = .ok (.ifCond .eq 13, 3) := by decide +kernel
theorem dX4_load_8 : decode cX4_load 8 = .ok (.aload_n 0, 1) := by decide +kernel
theorem dX4_load_9 : decode cX4_load 9 = .ok (.aload_n 0, 1) := by decide +kernel
theorem dX4_load_10 : decode cX4_load 10 = .ok (.iload_n 1, 1) := by decide +kernel
theorem dX4_load_11 : decode cX4_load 11 = .ok (.invokevirtual 190, 3) := by decide +kernel
theorem dX4_load_14 : decode cX4_load 14 = .ok (.invokevirtual 39, 3) := by decide +kernel
theorem dX4_load_17 : decode cX4_load 17 = .ok (.ireturn, 1) := by decide +kernel
theorem dX4_load_18 : decode cX4_load 18 = .ok (.iconst 0, 1) := by decide +kernel
theorem dX4_load_19 : decode cX4_load 19 = .ok (.istore_n 2, 1) := by decide +kernel
theorem dX4_load_20 : decode cX4_load 20 = .ok (.iload_n 2, 1) := by decide +kernel
theorem dX4_load_21 : decode cX4_load 21 = .ok (.aload_n 0, 1) := by decide +kernel
theorem dX4_load_22 : decode cX4_load 22 = .ok (.getfield 31, 3) := by decide +kernel
theorem dX4_load_25 : decode cX4_load 25 = .ok (.iload_n 1, 1) := by decide +kernel
theorem dX4_load_26 : decode cX4_load 26 = .ok (.iaload, 1) := by decide +kernel
theorem dX4_load_27 : decode cX4_load 27 = .ok (.if_icmp .ge 57, 3) := by decide +kernel
theorem dX4_load_30 : decode cX4_load 30 = .ok (.iload_n 2, 1) := by decide +kernel
theorem dX4_load_31 : decode cX4_load 31 = .ok (.bipush 6, 2) := by decide +kernel
theorem dX4_load_33 : decode cX4_load 33 = .ok (.if_icmp .ge 51, 3) := by decide +kernel
theorem dX4_load_36 : decode cX4_load 36 = .ok (.aload_n 0, 1) := by decide +kernel
theorem dX4_load_37 : decode cX4_load 37 = .ok (.getfield 34, 3) := by decide +kernel
theorem dX4_load_40 : decode cX4_load 40 = .ok (.bipush 40, 2) := by decide +kernel
theorem dX4_load_42 : decode cX4_load 42 = .ok (.iload_n 1, 1) := by decide +kernel
theorem dX4_load_43 : decode cX4_load 43 = .ok (.imul, 1) := by decide +kernel
theorem dX4_load_44 : decode cX4_load 44 = .ok (.iload_n 2, 1) := by decide +kernel
theorem dX4_load_45 : decode cX4_load 45 = .ok (.iadd, 1) := by decide +kernel
theorem dX4_load_46 : decode cX4_load 46 = .ok (.iaload, 1) := by decide +kernel
theorem dX4_load_47 : decode cX4_load 47 = .ok (.i2l, 1) := by decide +kernel
theorem dX4_load_48 : decode cX4_load 48 = .ok (.lconst 0, 1) := by decide +kernel
theorem dX4_load_49 : decode cX4_load 49 = .ok (.ldc2_w 68, 3) := by decide +kernel
theorem dX4_load_52 : decode cX4_load 52 = .ok (.invokestatic 49, 3) := by decide +kernel
theorem dX4_load_55 : decode cX4_load 55 = .ok (.ifCond .eq 29, 3) := by decide +kernel
theorem dX4_load_58 : decode cX4_load 58 = .ok (.aload_n 0, 1) := by decide +kernel
theorem dX4_load_59 : decode cX4_load 59 = .ok (.getfield 7, 3) := by decide +kernel
theorem dX4_load_62 : decode cX4_load 62 = .ok (.bipush 10, 2) := by decide +kernel
theorem dX4_load_64 : decode cX4_load 64 = .ok (.iload_n 2, 1) := by decide +kernel
theorem dX4_load_65 : decode cX4_load 65 = .ok (.iadd, 1) := by decide +kernel
theorem dX4_load_66 : decode cX4_load 66 = .ok (.aload_n 0, 1) := by decide +kernel
theorem dX4_load_67 : decode cX4_load 67 = .ok (.getfield 34, 3) := by decide +kernel
theorem dX4_load_70 : decode cX4_load 70 = .ok (.bipush 40, 2) := by decide +kernel
theorem dX4_load_72 : decode cX4_load 72 = .ok (.iload_n 1, 1) := by decide +kernel
theorem dX4_load_73 : decode cX4_load 73 = .ok (.imul, 1) := by decide +kernel
theorem dX4_load_74 : decode cX4_load 74 = .ok (.iload_n 2, 1) := by decide +kernel
theorem dX4_load_75 : decode cX4_load 75 = .ok (.iadd, 1) := by decide +kernel
theorem dX4_load_76 : decode cX4_load 76 = .ok (.iaload, 1) := by decide +kernel
theorem dX4_load_77 : decode cX4_load 77 = .ok (.iastore, 1) := by decide +kernel
theorem dX4_load_78 : decode cX4_load 78 = .ok (.iinc 2 1, 3) := by decide +kernel
theorem dX4_load_81 : decode cX4_load 81 = .ok (.goto (-61), 3) := by decide +kernel
theorem dX4_load_84 : decode cX4_load 84 = .ok (.iload_n 2, 1) := by decide +kernel
theorem dX4_load_85 : decode cX4_load 85 = .ok (.ireturn, 1) := by decide +kernel
theorem dX4_judge_0 : decode cX4_judge 0 = .ok (.aload_n 0, 1) := by decide +kernel
theorem dX4_judge_1 : decode cX4_judge 1 = .ok (.iload_n 1, 1) := by decide +kernel
theorem dX4_judge_2 : decode cX4_judge 2 = .ok (.invokevirtual 190, 3) := by decide +kernel
theorem dX4_judge_5 : decode cX4_judge 5 = .ok (.ifCond .eq 13, 3) := by decide +kernel
theorem dX4_judge_8 : decode cX4_judge 8 = .ok (.aload_n 0, 1) := by decide +kernel
theorem dX4_judge_9 : decode cX4_judge 9 = .ok (.aload_n 0, 1) := by decide +kernel
theorem dX4_judge_10 : decode cX4_judge 10 = .ok (.iload_n 1, 1) := by decide +kernel
theorem dX4_judge_11 : decode cX4_judge 11 = .ok (.invokevirtual 190, 3) := by decide +kernel
theorem dX4_judge_14 : decode cX4_judge 14 = .ok (.invokevirtual 39, 3) := by decide +kernel
theorem dX4_judge_17 : decode cX4_judge 17 = .ok (.ireturn, 1) := by decide +kernel
theorem dX4_judge_18 : decode cX4_judge 18 = .ok (.iconst 0, 1) := by decide +kernel
theorem dX4_judge_19 : decode cX4_judge 19 = .ok (.istore_n 2, 1) := by decide +kernel
theorem dX4_judge_20 : decode cX4_judge 20 = .ok (.iload_n 2, 1) := by decide +kernel
theorem dX4_judge_21 : decode cX4_judge 21 = .ok (.aload_n 0, 1) := by decide +kernel
theorem dX4_judge_22 : decode cX4_judge 22 = .ok (.getfield 31, 3) := by decide +kernel
theorem dX4_judge_25 : decode cX4_judge 25 = .ok (.iload_n 1, 1) := by decide +kernel
theorem dX4_judge_26 : decode cX4_judge 26 = .ok (.iaload, 1) := by decide +kernel
theorem dX4_judge_27 : decode cX4_judge 27 = .ok (.if_icmp .ge 37, 3) := by decide +kernel
theorem dX4_judge_30 : decode cX4_judge 30 = .ok (.aload_n 0, 1) := by decide +kernel
theorem dX4_judge_31 : decode cX4_judge 31 = .ok (.iload_n 2, 1) := by decide +kernel
theorem dX4_judge_32 : decode cX4_judge 32 = .ok (.invokevirtual 86, 3) := by decide +kernel
theorem dX4_judge_35 : decode cX4_judge 35 = .ok (.ifCond .eq 29, 3) := by decide +kernel
theorem dX4_judge_38 : decode cX4_judge 38 = .ok (.aload_n 0, 1) := by decide +kernel
theorem dX4_judge_39 : decode cX4_judge 39 = .ok (.getfield 34, 3) := by decide +kernel
theorem dX4_judge_42 : decode cX4_judge 42 = .ok (.bipush 40, 2) := by decide +kernel
theorem dX4_judge_44 : decode cX4_judge 44 = .ok (.iload_n 1, 1) := by decide +kernel
theorem dX4_judge_45 : decode cX4_judge 45 = .ok (.imul, 1) := by decide +kernel
theorem dX4_judge_46 : decode cX4_judge 46 = .ok (.iload_n 2, 1) := by decide +kernel
theorem dX4_judge_47 : decode cX4_judge 47 = .ok (.iadd, 1) := by decide +kernel
theorem dX4_judge_48 : decode cX4_judge 48 = .ok (.iaload, 1) := by decide +kernel
theorem dX4_judge_49 : decode cX4_judge 49 = .ok (.aload_n 0, 1) := by decide +kernel
theorem dX4_judge_50 : decode cX4_judge 50 = .ok (.iload_n 2, 1) := by decide +kernel
theorem dX4_judge_51 : decode cX4_judge 51 = .ok (.iconst 2, 1) := by decide +kernel
theorem dX4_judge_52 : decode cX4_judge 52 = .ok (.invokevirtual 57, 3) := by decide +kernel
theorem dX4_judge_55 : decode cX4_judge 55 = .ok (.if_icmp .ne 9, 3) := by decide +kernel
theorem dX4_judge_58 : decode cX4_judge 58 = .ok (.iinc 2 1, 3) := by decide +kernel
theorem dX4_judge_61 : decode cX4_judge 61 = .ok (.goto (-41), 3) := by decide +kernel
theorem dX4_judge_64 : decode cX4_judge 64 = .ok (.iload_n 2, 1) := by decide +kernel
theorem dX4_judge_65 : decode cX4_judge 65 = .ok (.aload_n 0, 1) := by decide +kernel
theorem dX4_judge_66 : decode cX4_judge 66 = .ok (.getfield 31, 3) := by decide +kernel
theorem dX4_judge_69 : decode cX4_judge 69 = .ok (.iload_n 1, 1) := by decide +kernel
theorem dX4_judge_70 : decode cX4_judge 70 = .ok (.iaload, 1) := by decide +kernel
theorem dX4_judge_71 : decode cX4_judge 71 = .ok (.if_icmp .ge 9, 3) := by decide +kernel
theorem dX4_judge_74 : decode cX4_judge 74 = .ok (.iconst 1, 1) := by decide +kernel
theorem dX4_judge_75 : decode cX4_judge 75 = .ok (.iload_n 2, 1) := by decide +kernel
theorem dX4_judge_76 : decode cX4_judge 76 = .ok (.iadd, 1) := by decide +kernel
theorem dX4_judge_77 : decode cX4_judge 77 = .ok (.goto 4, 3) := by decide +kernel
theorem dX4_judge_80 : decode cX4_judge 80 = .ok (.iconst 0, 1) := by decide +kernel
theorem dX4_judge_81 : decode cX4_judge 81 = .ok (.ireturn, 1) := by decide +kernel
theorem dX4_image_0 : decode cX4_image 0 = .ok (.aload_n 0, 1) := by decide +kernel
theorem dX4_image_1 : decode cX4_image 1 = .ok (.getfield 7, 3) := by decide +kernel
theorem dX4_image_4 : decode cX4_image 4 = .ok (.aload_n 0, 1) := by decide +kernel
theorem dX4_image_5 : decode cX4_image 5 = .ok (.getfield 13, 3) := by decide +kernel
theorem dX4_image_8 : decode cX4_image 8 = .ok (.invokestatic 140, 3) := by decide +kernel
theorem dX4_image_11 : decode cX4_image 11 = .ok (.aload_n 0, 1) := by decide +kernel
theorem dX4_image_12 : decode cX4_image 12 = .ok (.iconst 1, 1) := by decide +kernel
theorem dX4_image_13 : decode cX4_image 13 = .ok (.putfield 287, 3) := by decide +kernel
theorem dX4_image_16 : decode cX4_image 16 = .ok (.iconst 1, 1) := by decide +kernel
theorem dX4_image_17 : decode cX4_image 17 = .ok (.ireturn, 1) := by decide +kernel
theorem dX4_undo_0 : decode cX4_undo 0 = .ok (.aload_n 0, 1) := by decide +kernel
theorem dX4_undo_1 : decode cX4_undo 1 = .ok (.getfield 287, 3) := by decide +kernel
theorem dX4_undo_4 : decode cX4_undo 4 = .ok (.ifCond .ne 10, 3) := by decide +kernel
theorem dX4_undo_7 : decode cX4_undo 7 = .ok (.aload_n 0, 1) := by decide +kernel
theorem dX4_undo_8 : decode cX4_undo 8 = .ok (.ldc 38, 2) := by decide +kernel
theorem dX4_undo_10 : decode cX4_undo 10 = .ok (.invokevirtual 39, 3) := by decide +kernel
theorem dX4_undo_13 : decode cX4_undo 13 = .ok (.ireturn, 1) := by decide +kernel
theorem dX4_undo_14 : decode cX4_undo 14 = .ok (.aload_n 0, 1) := by decide +kernel
theorem dX4_undo_15 : decode cX4_undo 15 = .ok (.getfield 13, 3) := by decide +kernel
theorem dX4_undo_18 : decode cX4_undo 18 = .ok (.aload_n 0, 1) := by decide +kernel
theorem dX4_undo_19 : decode cX4_undo 19 = .ok (.getfield 7, 3) := by decide +kernel
theorem dX4_undo_22 : decode cX4_undo 22 = .ok (.invokestatic 140, 3) := by decide +kernel
theorem dX4_undo_25 : decode cX4_undo 25 = .ok (.aload_n 0, 1) := by decide +kernel
theorem dX4_undo_26 : decode cX4_undo 26 = .ok (.getfield 7, 3) := by decide +kernel
theorem dX4_undo_29 : decode cX4_undo 29 = .ok (.iconst 1, 1) := by decide +kernel
theorem dX4_undo_30 : decode cX4_undo 30 = .ok (.iaload, 1) := by decide +kernel
theorem dX4_undo_31 : decode cX4_undo 31 = .ok (.ireturn, 1) := by decide +kernel
theorem dX4_tear_0 : decode cX4_tear 0 = .ok (.aload_n 0, 1) := by decide +kernel
theorem dX4_tear_1 : decode cX4_tear 1 = .ok (.getfield 287, 3) := by decide +kernel
theorem dX4_tear_4 : decode cX4_tear 4 = .ok (.istore_n 1, 1) := by decide +kernel
theorem dX4_tear_5 : decode cX4_tear 5 = .ok (.aload_n 0, 1) := by decide +kernel
theorem dX4_tear_6 : decode cX4_tear 6 = .ok (.iconst 0, 1) := by decide +kernel
theorem dX4_tear_7 : decode cX4_tear 7 = .ok (.putfield 287, 3) := by decide +kernel
theorem dX4_tear_10 : decode cX4_tear 10 = .ok (.iload_n 1, 1) := by decide +kernel
theorem dX4_tear_11 : decode cX4_tear 11 = .ok (.ifCond .eq 7, 3) := by decide +kernel
theorem dX4_tear_14 : decode cX4_tear 14 = .ok (.iconst 1, 1) := by decide +kernel
theorem dX4_tear_15 : decode cX4_tear 15 = .ok (.goto 4, 3) := by decide +kernel
theorem dX4_tear_18 : decode cX4_tear 18 = .ok (.iconst 0, 1) := by decide +kernel
theorem dX4_tear_19 : decode cX4_tear 19 = .ok (.ireturn, 1) := by decide +kernel
theorem dX4_count_0 : decode cX4_count 0 = .ok (.iconst 0, 1) := by decide +kernel
theorem dX4_count_1 : decode cX4_count 1 = .ok (.istore_n 2, 1) := by decide +kernel
theorem dX4_count_2 : decode cX4_count 2 = .ok (.iload_n 1, 1) := by decide +kernel
theorem dX4_count_3 : decode cX4_count 3 = .ok (.tableswitch 127 0 7 #[45, 52, 59, 65, 72, 79, 84, 91], 45) := by decide +kernel
theorem dX4_count_48 : decode cX4_count 48 = .ok (.aload_n 0, 1) := by decide +kernel
theorem dX4_count_49 : decode cX4_count 49 = .ok (.getfield 7, 3) := by decide +kernel
theorem dX4_count_52 : decode cX4_count 52 = .ok (.iconst 1, 1) := by decide +kernel
theorem dX4_count_53 : decode cX4_count 53 = .ok (.iaload, 1) := by decide +kernel
theorem dX4_count_54 : decode cX4_count 54 = .ok (.ireturn, 1) := by decide +kernel
theorem dX4_count_55 : decode cX4_count 55 = .ok (.aload_n 0, 1) := by decide +kernel
theorem dX4_count_56 : decode cX4_count 56 = .ok (.getfield 7, 3) := by decide +kernel
theorem dX4_count_59 : decode cX4_count 59 = .ok (.iconst 0, 1) := by decide +kernel
theorem dX4_count_60 : decode cX4_count 60 = .ok (.iaload, 1) := by decide +kernel
theorem dX4_count_61 : decode cX4_count 61 = .ok (.ireturn, 1) := by decide +kernel
theorem dX4_count_62 : decode cX4_count 62 = .ok (.aload_n 0, 1) := by decide +kernel
theorem dX4_count_63 : decode cX4_count 63 = .ok (.iconst 2, 1) := by decide +kernel
theorem dX4_count_64 : decode cX4_count 64 = .ok (.invokevirtual 128, 3) := by decide +kernel
theorem dX4_count_67 : decode cX4_count 67 = .ok (.ireturn, 1) := by decide +kernel
theorem dX4_count_68 : decode cX4_count 68 = .ok (.aload_n 0, 1) := by decide +kernel
theorem dX4_count_69 : decode cX4_count 69 = .ok (.getfield 7, 3) := by decide +kernel
theorem dX4_count_72 : decode cX4_count 72 = .ok (.iconst 3, 1) := by decide +kernel
theorem dX4_count_73 : decode cX4_count 73 = .ok (.iaload, 1) := by decide +kernel
theorem dX4_count_74 : decode cX4_count 74 = .ok (.ireturn, 1) := by decide +kernel
theorem dX4_count_75 : decode cX4_count 75 = .ok (.aload_n 0, 1) := by decide +kernel
theorem dX4_count_76 : decode cX4_count 76 = .ok (.bipush 6, 2) := by decide +kernel
theorem dX4_count_78 : decode cX4_count 78 = .ok (.invokevirtual 128, 3) := by decide +kernel
theorem dX4_count_81 : decode cX4_count 81 = .ok (.ireturn, 1) := by decide +kernel
theorem dX4_count_82 : decode cX4_count 82 = .ok (.aload_n 0, 1) := by decide +kernel
theorem dX4_count_83 : decode cX4_count 83 = .ok (.getfield 207, 3) := by decide +kernel
theorem dX4_count_86 : decode cX4_count 86 = .ok (.ireturn, 1) := by decide +kernel
theorem dX4_count_87 : decode cX4_count 87 = .ok (.aload_n 0, 1) := by decide +kernel
theorem dX4_count_88 : decode cX4_count 88 = .ok (.getfield 7, 3) := by decide +kernel
theorem dX4_count_91 : decode cX4_count 91 = .ok (.iconst 2, 1) := by decide +kernel
theorem dX4_count_92 : decode cX4_count 92 = .ok (.iaload, 1) := by decide +kernel
theorem dX4_count_93 : decode cX4_count 93 = .ok (.ireturn, 1) := by decide +kernel
theorem dX4_count_94 : decode cX4_count 94 = .ok (.iconst 0, 1) := by decide +kernel
theorem dX4_count_95 : decode cX4_count 95 = .ok (.istore_n 3, 1) := by decide +kernel
theorem dX4_count_96 : decode cX4_count 96 = .ok (.iload_n 3, 1) := by decide +kernel
theorem dX4_count_97 : decode cX4_count 97 = .ok (.bipush 10, 2) := by decide +kernel
theorem dX4_count_99 : decode cX4_count 99 = .ok (.if_icmp .ge 29, 3) := by decide +kernel
theorem dX4_count_102 : decode cX4_count 102 = .ok (.iload_n 2, 1) := by decide +kernel
theorem dX4_count_103 : decode cX4_count 103 = .ok (.aload_n 0, 1) := by decide +kernel
theorem dX4_count_104 : decode cX4_count 104 = .ok (.getfield 7, 3) := by decide +kernel
theorem dX4_count_107 : decode cX4_count 107 = .ok (.bipush 72, 2) := by decide +kernel
theorem dX4_count_109 : decode cX4_count 109 = .ok (.iload_n 3, 1) := by decide +kernel
theorem dX4_count_110 : decode cX4_count 110 = .ok (.iadd, 1) := by decide +kernel
theorem dX4_count_111 : decode cX4_count 111 = .ok (.iaload, 1) := by decide +kernel
theorem dX4_count_112 : decode cX4_count 112 = .ok (.ifCond .ge 7, 3) := by decide +kernel
theorem dX4_count_115 : decode cX4_count 115 = .ok (.iconst 0, 1) := by decide +kernel
theorem dX4_count_116 : decode cX4_count 116 = .ok (.goto 4, 3) := by decide +kernel
theorem dX4_count_119 : decode cX4_count 119 = .ok (.iconst 1, 1) := by decide +kernel
theorem dX4_count_120 : decode cX4_count 120 = .ok (.iadd, 1) := by decide +kernel
theorem dX4_count_121 : decode cX4_count 121 = .ok (.istore_n 2, 1) := by decide +kernel
theorem dX4_count_122 : decode cX4_count 122 = .ok (.iinc 3 1, 3) := by decide +kernel
theorem dX4_count_125 : decode cX4_count 125 = .ok (.goto (-29), 3) := by decide +kernel
theorem dX4_count_128 : decode cX4_count 128 = .ok (.iload_n 2, 1) := by decide +kernel
theorem dX4_count_129 : decode cX4_count 129 = .ok (.ireturn, 1) := by decide +kernel
theorem dX4_count_130 : decode cX4_count 130 = .ok (.aload_n 0, 1) := by decide +kernel
theorem dX4_count_131 : decode cX4_count 131 = .ok (.ldc 37, 2) := by decide +kernel
theorem dX4_count_133 : decode cX4_count 133 = .ok (.invokevirtual 39, 3) := by decide +kernel
theorem dX4_count_136 : decode cX4_count 136 = .ok (.ireturn, 1) := by decide +kernel
theorem dX4_status_0 : decode cX4_status 0 = .ok (.iload_n 1, 1) := by decide +kernel
theorem dX4_status_1 : decode cX4_status 1 = .ok (.i2l, 1) := by decide +kernel
theorem dX4_status_2 : decode cX4_status 2 = .ok (.ldc2_w 291, 3) := by decide +kernel
theorem dX4_status_5 : decode cX4_status 5 = .ok (.ldc2_w 73, 3) := by decide +kernel
theorem dX4_status_8 : decode cX4_status 8 = .ok (.invokestatic 49, 3) := by decide +kernel
theorem dX4_status_11 : decode cX4_status 11 = .ok (.ifCond .eq 14, 3) := by decide +kernel
theorem dX4_status_14 : decode cX4_status 14 = .ok (.aload_n 0, 1) := by decide +kernel
theorem dX4_status_15 : decode cX4_status 15 = .ok (.getfield 22, 3) := by decide +kernel
theorem dX4_status_18 : decode cX4_status 18 = .ok (.iload_n 1, 1) := by decide +kernel
theorem dX4_status_19 : decode cX4_status 19 = .ok (.iconst 1, 1) := by decide +kernel
theorem dX4_status_20 : decode cX4_status 20 = .ok (.iadd, 1) := by decide +kernel
theorem dX4_status_21 : decode cX4_status 21 = .ok (.iaload, 1) := by decide +kernel
theorem dX4_status_22 : decode cX4_status 22 = .ok (.goto 9, 3) := by decide +kernel
theorem dX4_status_25 : decode cX4_status 25 = .ok (.aload_n 0, 1) := by decide +kernel
theorem dX4_status_26 : decode cX4_status 26 = .ok (.ldc 37, 2) := by decide +kernel
theorem dX4_status_28 : decode cX4_status 28 = .ok (.invokevirtual 39, 3) := by decide +kernel
theorem dX4_status_31 : decode cX4_status 31 = .ok (.ireturn, 1) := by decide +kernel
