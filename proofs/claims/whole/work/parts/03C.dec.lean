theorem dX3_init_0 : decode cX3_init 0 = .ok (.aload_n 0, 1) := by decide +kernel
theorem dX3_init_1 : decode cX3_init 1 = .ok (.invokespecial 1, 3) := by decide +kernel
theorem dX3_init_4 : decode cX3_init 4 = .ok (.aload_n 0, 1) := by decide +kernel
theorem dX3_init_5 : decode cX3_init 5 = .ok (.new 7, 3) := by decide +kernel
theorem dX3_init_8 : decode cX3_init 8 = .ok (.dup, 1) := by decide +kernel
theorem dX3_init_9 : decode cX3_init 9 = .ok (.invokespecial 9, 3) := by decide +kernel
theorem dX3_init_12 : decode cX3_init 12 = .ok (.putfield 10, 3) := by decide +kernel
theorem dX3_init_15 : decode cX3_init 15 = .ok (.aload_n 0, 1) := by decide +kernel
theorem dX3_init_16 : decode cX3_init 16 = .ok (.new 7, 3) := by decide +kernel
theorem dX3_init_19 : decode cX3_init 19 = .ok (.dup, 1) := by decide +kernel
theorem dX3_init_20 : decode cX3_init 20 = .ok (.invokespecial 9, 3) := by decide +kernel
theorem dX3_init_23 : decode cX3_init 23 = .ok (.putfield 16, 3) := by decide +kernel
theorem dX3_init_26 : decode cX3_init 26 = .ok (.aload_n 0, 1) := by decide +kernel
theorem dX3_init_27 : decode cX3_init 27 = .ok (.new 7, 3) := by decide +kernel
theorem dX3_init_30 : decode cX3_init 30 = .ok (.dup, 1) := by decide +kernel
theorem dX3_init_31 : decode cX3_init 31 = .ok (.invokespecial 9, 3) := by decide +kernel
theorem dX3_init_34 : decode cX3_init 34 = .ok (.putfield 19, 3) := by decide +kernel
theorem dX3_init_37 : decode cX3_init 37 = .ok (.aload_n 0, 1) := by decide +kernel
theorem dX3_init_38 : decode cX3_init 38 = .ok (.iconst 0, 1) := by decide +kernel
theorem dX3_init_39 : decode cX3_init 39 = .ok (.putfield 22, 3) := by decide +kernel
theorem dX3_init_42 : decode cX3_init 42 = .ok (.aload_n 0, 1) := by decide +kernel
theorem dX3_init_43 : decode cX3_init 43 = .ok (.new 26, 3) := by decide +kernel
theorem dX3_init_46 : decode cX3_init 46 = .ok (.dup, 1) := by decide +kernel
theorem dX3_init_47 : decode cX3_init 47 = .ok (.invokespecial 28, 3) := by decide +kernel
theorem dX3_init_50 : decode cX3_init 50 = .ok (.putfield 29, 3) := by decide +kernel
theorem dX3_init_53 : decode cX3_init 53 = .ok (.aload_n 0, 1) := by decide +kernel
theorem dX3_init_54 : decode cX3_init 54 = .ok (.new 33, 3) := by decide +kernel
theorem dX3_init_57 : decode cX3_init 57 = .ok (.dup, 1) := by decide +kernel
theorem dX3_init_58 : decode cX3_init 58 = .ok (.invokespecial 35, 3) := by decide +kernel
theorem dX3_init_61 : decode cX3_init 61 = .ok (.putfield 36, 3) := by decide +kernel
theorem dX3_init_64 : decode cX3_init 64 = .ok (.aload_n 0, 1) := by decide +kernel
theorem dX3_init_65 : decode cX3_init 65 = .ok (.bipush 7, 2) := by decide +kernel
theorem dX3_init_67 : decode cX3_init 67 = .ok (.newarray .int, 2) := by decide +kernel
theorem dX3_init_69 : decode cX3_init 69 = .ok (.putfield 40, 3) := by decide +kernel
theorem dX3_init_72 : decode cX3_init 72 = .ok (.return_, 1) := by decide +kernel
theorem dX3_frost_0 : decode cX3_frost 0 = .ok (.iload_n 1, 1) := by decide +kernel
theorem dX3_frost_1 : decode cX3_frost 1 = .ok (.iconst 5, 1) := by decide +kernel
theorem dX3_frost_2 : decode cX3_frost 2 = .ok (.invokestatic 44, 3) := by decide +kernel
theorem dX3_frost_5 : decode cX3_frost 5 = .ok (.ifCond .eq 12, 3) := by decide +kernel
theorem dX3_frost_8 : decode cX3_frost 8 = .ok (.iload_n 2, 1) := by decide +kernel
theorem dX3_frost_9 : decode cX3_frost 9 = .ok (.bipush 9, 2) := by decide +kernel
theorem dX3_frost_11 : decode cX3_frost 11 = .ok (.invokestatic 44, 3) := by decide +kernel
theorem dX3_frost_14 : decode cX3_frost 14 = .ok (.ifCond .ne 9, 3) := by decide +kernel
theorem dX3_frost_17 : decode cX3_frost 17 = .ok (.aload_n 0, 1) := by decide +kernel
theorem dX3_frost_18 : decode cX3_frost 18 = .ok (.iconst 0, 1) := by decide +kernel
theorem dX3_frost_19 : decode cX3_frost 19 = .ok (.invokevirtual 48, 3) := by decide +kernel
theorem dX3_frost_22 : decode cX3_frost 22 = .ok (.ireturn, 1) := by decide +kernel
theorem dX3_frost_23 : decode cX3_frost 23 = .ok (.aload_n 0, 1) := by decide +kernel
theorem dX3_frost_24 : decode cX3_frost 24 = .ok (.getfield 10, 3) := by decide +kernel
theorem dX3_frost_27 : decode cX3_frost 27 = .ok (.getfield 52, 3) := by decide +kernel
theorem dX3_frost_30 : decode cX3_frost 30 = .ok (.iload_n 1, 1) := by decide +kernel
theorem dX3_frost_31 : decode cX3_frost 31 = .ok (.iaload, 1) := by decide +kernel
theorem dX3_frost_32 : decode cX3_frost 32 = .ok (.istore_n 3, 1) := by decide +kernel
theorem dX3_frost_33 : decode cX3_frost 33 = .ok (.aload_n 0, 1) := by decide +kernel
theorem dX3_frost_34 : decode cX3_frost 34 = .ok (.getfield 10, 3) := by decide +kernel
theorem dX3_frost_37 : decode cX3_frost 37 = .ok (.getfield 52, 3) := by decide +kernel
theorem dX3_frost_40 : decode cX3_frost 40 = .ok (.iload_n 1, 1) := by decide +kernel
theorem dX3_frost_41 : decode cX3_frost 41 = .ok (.iload_n 2, 1) := by decide +kernel
theorem dX3_frost_42 : decode cX3_frost 42 = .ok (.iastore, 1) := by decide +kernel
theorem dX3_frost_43 : decode cX3_frost 43 = .ok (.iload_n 3, 1) := by decide +kernel
theorem dX3_frost_44 : decode cX3_frost 44 = .ok (.ireturn, 1) := by decide +kernel
theorem dX3_cellar_0 : decode cX3_cellar 0 = .ok (.iload_n 1, 1) := by decide +kernel
theorem dX3_cellar_1 : decode cX3_cellar 1 = .ok (.iconst 5, 1) := by decide +kernel
theorem dX3_cellar_2 : decode cX3_cellar 2 = .ok (.invokestatic 44, 3) := by decide +kernel
theorem dX3_cellar_5 : decode cX3_cellar 5 = .ok (.ifCond .ne 9, 3) := by decide +kernel
theorem dX3_cellar_8 : decode cX3_cellar 8 = .ok (.aload_n 0, 1) := by decide +kernel
theorem dX3_cellar_9 : decode cX3_cellar 9 = .ok (.iconst 0, 1) := by decide +kernel
theorem dX3_cellar_10 : decode cX3_cellar 10 = .ok (.invokevirtual 48, 3) := by decide +kernel
theorem dX3_cellar_13 : decode cX3_cellar 13 = .ok (.ireturn, 1) := by decide +kernel
theorem dX3_cellar_14 : decode cX3_cellar 14 = .ok (.iload_n 2, 1) := by decide +kernel
theorem dX3_cellar_15 : decode cX3_cellar 15 = .ok (.tableswitch 67 0 3 #[29, 39, 49, 58], 29) := by decide +kernel
theorem dX3_cellar_44 : decode cX3_cellar 44 = .ok (.aload_n 0, 1) := by decide +kernel
theorem dX3_cellar_45 : decode cX3_cellar 45 = .ok (.getfield 10, 3) := by decide +kernel
theorem dX3_cellar_48 : decode cX3_cellar 48 = .ok (.getfield 52, 3) := by decide +kernel
theorem dX3_cellar_51 : decode cX3_cellar 51 = .ok (.iload_n 1, 1) := by decide +kernel
theorem dX3_cellar_52 : decode cX3_cellar 52 = .ok (.iaload, 1) := by decide +kernel
theorem dX3_cellar_53 : decode cX3_cellar 53 = .ok (.ireturn, 1) := by decide +kernel
theorem dX3_cellar_54 : decode cX3_cellar 54 = .ok (.aload_n 0, 1) := by decide +kernel
theorem dX3_cellar_55 : decode cX3_cellar 55 = .ok (.getfield 10, 3) := by decide +kernel
theorem dX3_cellar_58 : decode cX3_cellar 58 = .ok (.getfield 55, 3) := by decide +kernel
theorem dX3_cellar_61 : decode cX3_cellar 61 = .ok (.iload_n 1, 1) := by decide +kernel
theorem dX3_cellar_62 : decode cX3_cellar 62 = .ok (.iaload, 1) := by decide +kernel
theorem dX3_cellar_63 : decode cX3_cellar 63 = .ok (.ireturn, 1) := by decide +kernel
theorem dX3_cellar_64 : decode cX3_cellar 64 = .ok (.aload_n 0, 1) := by decide +kernel
theorem dX3_cellar_65 : decode cX3_cellar 65 = .ok (.getfield 10, 3) := by decide +kernel
theorem dX3_cellar_68 : decode cX3_cellar 68 = .ok (.iload_n 1, 1) := by decide +kernel
theorem dX3_cellar_69 : decode cX3_cellar 69 = .ok (.invokevirtual 58, 3) := by decide +kernel
theorem dX3_cellar_72 : decode cX3_cellar 72 = .ok (.ireturn, 1) := by decide +kernel
theorem dX3_cellar_73 : decode cX3_cellar 73 = .ok (.aload_n 0, 1) := by decide +kernel
theorem dX3_cellar_74 : decode cX3_cellar 74 = .ok (.getfield 10, 3) := by decide +kernel
theorem dX3_cellar_77 : decode cX3_cellar 77 = .ok (.iload_n 1, 1) := by decide +kernel
theorem dX3_cellar_78 : decode cX3_cellar 78 = .ok (.invokevirtual 61, 3) := by decide +kernel
theorem dX3_cellar_81 : decode cX3_cellar 81 = .ok (.ireturn, 1) := by decide +kernel
theorem dX3_cellar_82 : decode cX3_cellar 82 = .ok (.aload_n 0, 1) := by decide +kernel
theorem dX3_cellar_83 : decode cX3_cellar 83 = .ok (.iconst 0, 1) := by decide +kernel
theorem dX3_cellar_84 : decode cX3_cellar 84 = .ok (.invokevirtual 48, 3) := by decide +kernel
theorem dX3_cellar_87 : decode cX3_cellar 87 = .ok (.ireturn, 1) := by decide +kernel
theorem dX3_storm_0 : decode cX3_storm 0 = .ok (.iload_n 1, 1) := by decide +kernel
theorem dX3_storm_1 : decode cX3_storm 1 = .ok (.iconst 5, 1) := by decide +kernel
theorem dX3_storm_2 : decode cX3_storm 2 = .ok (.invokestatic 44, 3) := by decide +kernel
theorem dX3_storm_5 : decode cX3_storm 5 = .ok (.ifCond .eq 12, 3) := by decide +kernel
theorem dX3_storm_8 : decode cX3_storm 8 = .ok (.iload_n 2, 1) := by decide +kernel
theorem dX3_storm_9 : decode cX3_storm 9 = .ok (.bipush 99, 2) := by decide +kernel
theorem dX3_storm_11 : decode cX3_storm 11 = .ok (.invokestatic 44, 3) := by decide +kernel
theorem dX3_storm_14 : decode cX3_storm 14 = .ok (.ifCond .ne 9, 3) := by decide +kernel
theorem dX3_storm_17 : decode cX3_storm 17 = .ok (.aload_n 0, 1) := by decide +kernel
theorem dX3_storm_18 : decode cX3_storm 18 = .ok (.iconst 0, 1) := by decide +kernel
theorem dX3_storm_19 : decode cX3_storm 19 = .ok (.invokevirtual 48, 3) := by decide +kernel
theorem dX3_storm_22 : decode cX3_storm 22 = .ok (.ireturn, 1) := by decide +kernel
theorem dX3_storm_23 : decode cX3_storm 23 = .ok (.aload_n 0, 1) := by decide +kernel
theorem dX3_storm_24 : decode cX3_storm 24 = .ok (.getfield 10, 3) := by decide +kernel
theorem dX3_storm_27 : decode cX3_storm 27 = .ok (.getfield 55, 3) := by decide +kernel
theorem dX3_storm_30 : decode cX3_storm 30 = .ok (.iload_n 1, 1) := by decide +kernel
theorem dX3_storm_31 : decode cX3_storm 31 = .ok (.iaload, 1) := by decide +kernel
theorem dX3_storm_32 : decode cX3_storm 32 = .ok (.istore_n 3, 1) := by decide +kernel
theorem dX3_storm_33 : decode cX3_storm 33 = .ok (.aload_n 0, 1) := by decide +kernel
theorem dX3_storm_34 : decode cX3_storm 34 = .ok (.getfield 10, 3) := by decide +kernel
theorem dX3_storm_37 : decode cX3_storm 37 = .ok (.getfield 55, 3) := by decide +kernel
theorem dX3_storm_40 : decode cX3_storm 40 = .ok (.iload_n 1, 1) := by decide +kernel
theorem dX3_storm_41 : decode cX3_storm 41 = .ok (.iload_n 2, 1) := by decide +kernel
theorem dX3_storm_42 : decode cX3_storm 42 = .ok (.iastore, 1) := by decide +kernel
theorem dX3_storm_43 : decode cX3_storm 43 = .ok (.iload_n 3, 1) := by decide +kernel
theorem dX3_storm_44 : decode cX3_storm 44 = .ok (.ireturn, 1) := by decide +kernel
theorem dX3_cask_0 : decode cX3_cask 0 = .ok (.iload_n 1, 1) := by decide +kernel
theorem dX3_cask_1 : decode cX3_cask 1 = .ok (.bipush 6, 2) := by decide +kernel
theorem dX3_cask_3 : decode cX3_cask 3 = .ok (.invokestatic 44, 3) := by decide +kernel
theorem dX3_cask_6 : decode cX3_cask 6 = .ok (.ifCond .eq 11, 3) := by decide +kernel
theorem dX3_cask_9 : decode cX3_cask 9 = .ok (.iload_n 2, 1) := by decide +kernel
theorem dX3_cask_10 : decode cX3_cask 10 = .ok (.iconst 5, 1) := by decide +kernel
theorem dX3_cask_11 : decode cX3_cask 11 = .ok (.invokestatic 44, 3) := by decide +kernel
theorem dX3_cask_14 : decode cX3_cask 14 = .ok (.ifCond .ne 9, 3) := by decide +kernel
theorem dX3_cask_17 : decode cX3_cask 17 = .ok (.aload_n 0, 1) := by decide +kernel
theorem dX3_cask_18 : decode cX3_cask 18 = .ok (.iconst 0, 1) := by decide +kernel
theorem dX3_cask_19 : decode cX3_cask 19 = .ok (.invokevirtual 48, 3) := by decide +kernel
theorem dX3_cask_22 : decode cX3_cask 22 = .ok (.ireturn, 1) := by decide +kernel
theorem dX3_cask_23 : decode cX3_cask 23 = .ok (.aload_n 0, 1) := by decide +kernel
theorem dX3_cask_24 : decode cX3_cask 24 = .ok (.getfield 10, 3) := by decide +kernel
theorem dX3_cask_27 : decode cX3_cask 27 = .ok (.getfield 64, 3) := by decide +kernel
theorem dX3_cask_30 : decode cX3_cask 30 = .ok (.bipush 8, 2) := by decide +kernel
theorem dX3_cask_32 : decode cX3_cask 32 = .ok (.if_icmp .lt 9, 3) := by decide +kernel
theorem dX3_cask_35 : decode cX3_cask 35 = .ok (.aload_n 0, 1) := by decide +kernel
theorem dX3_cask_36 : decode cX3_cask 36 = .ok (.iconst 1, 1) := by decide +kernel
theorem dX3_cask_37 : decode cX3_cask 37 = .ok (.invokevirtual 48, 3) := by decide +kernel
theorem dX3_cask_40 : decode cX3_cask 40 = .ok (.ireturn, 1) := by decide +kernel
theorem dX3_cask_41 : decode cX3_cask 41 = .ok (.aload_n 0, 1) := by decide +kernel
theorem dX3_cask_42 : decode cX3_cask 42 = .ok (.getfield 10, 3) := by decide +kernel
theorem dX3_cask_45 : decode cX3_cask 45 = .ok (.iload_n 1, 1) := by decide +kernel
theorem dX3_cask_46 : decode cX3_cask 46 = .ok (.iload_n 2, 1) := by decide +kernel
theorem dX3_cask_47 : decode cX3_cask 47 = .ok (.invokevirtual 68, 3) := by decide +kernel
theorem dX3_cask_50 : decode cX3_cask 50 = .ok (.ireturn, 1) := by decide +kernel
theorem dX3_of_0 : decode cX3_of 0 = .ok (.aload_n 0, 1) := by decide +kernel
theorem dX3_of_1 : decode cX3_of 1 = .ok (.iload_n 1, 1) := by decide +kernel
theorem dX3_of_2 : decode cX3_of 2 = .ok (.invokevirtual 72, 3) := by decide +kernel
theorem dX3_of_5 : decode cX3_of 5 = .ok (.ifCond .ne 9, 3) := by decide +kernel
theorem dX3_of_8 : decode cX3_of 8 = .ok (.aload_n 0, 1) := by decide +kernel
theorem dX3_of_9 : decode cX3_of 9 = .ok (.iconst 0, 1) := by decide +kernel
theorem dX3_of_10 : decode cX3_of 10 = .ok (.invokevirtual 48, 3) := by decide +kernel
theorem dX3_of_13 : decode cX3_of 13 = .ok (.ireturn, 1) := by decide +kernel
theorem dX3_of_14 : decode cX3_of 14 = .ok (.iload_n 2, 1) := by decide +kernel
theorem dX3_of_15 : decode cX3_of 15 = .ok (.bipush 6, 2) := by decide +kernel
theorem dX3_of_17 : decode cX3_of 17 = .ok (.invokestatic 44, 3) := by decide +kernel
theorem dX3_of_20 : decode cX3_of 20 = .ok (.ifCond .eq 14, 3) := by decide +kernel
theorem dX3_of_23 : decode cX3_of 23 = .ok (.aload_n 0, 1) := by decide +kernel
theorem dX3_of_24 : decode cX3_of 24 = .ok (.getfield 10, 3) := by decide +kernel
theorem dX3_of_27 : decode cX3_of 27 = .ok (.iload_n 2, 1) := by decide +kernel
theorem dX3_of_28 : decode cX3_of 28 = .ok (.invokevirtual 76, 3) := by decide +kernel
theorem dX3_of_31 : decode cX3_of 31 = .ok (.iload_n 1, 1) := by decide +kernel
theorem dX3_of_32 : decode cX3_of 32 = .ok (.iaload, 1) := by decide +kernel
theorem dX3_of_33 : decode cX3_of 33 = .ok (.ireturn, 1) := by decide +kernel
theorem dX3_of_34 : decode cX3_of 34 = .ok (.iload_n 2, 1) := by decide +kernel
theorem dX3_of_35 : decode cX3_of 35 = .ok (.tableswitch 52 7 9 #[25, 34, 43], 25) := by decide +kernel
theorem dX3_of_60 : decode cX3_of 60 = .ok (.aload_n 0, 1) := by decide +kernel
theorem dX3_of_61 : decode cX3_of 61 = .ok (.getfield 10, 3) := by decide +kernel
theorem dX3_of_64 : decode cX3_of 64 = .ok (.iload_n 1, 1) := by decide +kernel
theorem dX3_of_65 : decode cX3_of 65 = .ok (.invokevirtual 80, 3) := by decide +kernel
theorem dX3_of_68 : decode cX3_of 68 = .ok (.ireturn, 1) := by decide +kernel
theorem dX3_of_69 : decode cX3_of 69 = .ok (.aload_n 0, 1) := by decide +kernel
theorem dX3_of_70 : decode cX3_of 70 = .ok (.getfield 10, 3) := by decide +kernel
theorem dX3_of_73 : decode cX3_of 73 = .ok (.iload_n 1, 1) := by decide +kernel
theorem dX3_of_74 : decode cX3_of 74 = .ok (.invokevirtual 83, 3) := by decide +kernel
theorem dX3_of_77 : decode cX3_of 77 = .ok (.ireturn, 1) := by decide +kernel
theorem dX3_of_78 : decode cX3_of 78 = .ok (.aload_n 0, 1) := by decide +kernel
theorem dX3_of_79 : decode cX3_of 79 = .ok (.getfield 10, 3) := by decide +kernel
theorem dX3_of_82 : decode cX3_of 82 = .ok (.iload_n 1, 1) := by decide +kernel
theorem dX3_of_83 : decode cX3_of 83 = .ok (.invokevirtual 86, 3) := by decide +kernel
theorem dX3_of_86 : decode cX3_of 86 = .ok (.ireturn, 1) := by decide +kernel
theorem dX3_of_87 : decode cX3_of 87 = .ok (.aload_n 0, 1) := by decide +kernel
theorem dX3_of_88 : decode cX3_of 88 = .ok (.iconst 0, 1) := by decide +kernel
theorem dX3_of_89 : decode cX3_of 89 = .ok (.invokevirtual 48, 3) := by decide +kernel
theorem dX3_of_92 : decode cX3_of 92 = .ok (.ireturn, 1) := by decide +kernel
theorem dX3_change_0 : decode cX3_change 0 = .ok (.aload_n 0, 1) := by decide +kernel
theorem dX3_change_1 : decode cX3_change 1 = .ok (.iload_n 1, 1) := by decide +kernel
theorem dX3_change_2 : decode cX3_change 2 = .ok (.invokevirtual 72, 3) := by decide +kernel
theorem dX3_change_5 : decode cX3_change 5 = .ok (.ifCond .eq 12, 3) := by decide +kernel
theorem dX3_change_8 : decode cX3_change 8 = .ok (.iload_n 2, 1) := by decide +kernel
theorem dX3_change_9 : decode cX3_change 9 = .ok (.bipush 6, 2) := by decide +kernel
theorem dX3_change_11 : decode cX3_change 11 = .ok (.invokestatic 44, 3) := by decide +kernel
theorem dX3_change_14 : decode cX3_change 14 = .ok (.ifCond .ne 9, 3) := by decide +kernel
theorem dX3_change_17 : decode cX3_change 17 = .ok (.aload_n 0, 1) := by decide +kernel
theorem dX3_change_18 : decode cX3_change 18 = .ok (.iconst 0, 1) := by decide +kernel
theorem dX3_change_19 : decode cX3_change 19 = .ok (.invokevirtual 48, 3) := by decide +kernel
theorem dX3_change_22 : decode cX3_change 22 = .ok (.ireturn, 1) := by decide +kernel
theorem dX3_change_23 : decode cX3_change 23 = .ok (.iload_n 3, 1) := by decide +kernel
theorem dX3_change_24 : decode cX3_change 24 = .ok (.getstatic 89, 3) := by decide +kernel
theorem dX3_change_27 : decode cX3_change 27 = .ok (.iload_n 2, 1) := by decide +kernel
theorem dX3_change_28 : decode cX3_change 28 = .ok (.iaload, 1) := by decide +kernel
theorem dX3_change_29 : decode cX3_change 29 = .ok (.invokestatic 44, 3) := by decide +kernel
theorem dX3_change_32 : decode cX3_change 32 = .ok (.ifCond .ne 9, 3) := by decide +kernel
theorem dX3_change_35 : decode cX3_change 35 = .ok (.aload_n 0, 1) := by decide +kernel
theorem dX3_change_36 : decode cX3_change 36 = .ok (.iconst 0, 1) := by decide +kernel
theorem dX3_change_37 : decode cX3_change 37 = .ok (.invokevirtual 48, 3) := by decide +kernel
theorem dX3_change_40 : decode cX3_change 40 = .ok (.ireturn, 1) := by decide +kernel
theorem dX3_change_41 : decode cX3_change 41 = .ok (.aload_n 0, 1) := by decide +kernel
theorem dX3_change_42 : decode cX3_change 42 = .ok (.getfield 10, 3) := by decide +kernel
theorem dX3_change_45 : decode cX3_change 45 = .ok (.iload_n 2, 1) := by decide +kernel
theorem dX3_change_46 : decode cX3_change 46 = .ok (.invokevirtual 76, 3) := by decide +kernel
theorem dX3_change_49 : decode cX3_change 49 = .ok (.astore 4, 2) := by decide +kernel
theorem dX3_change_51 : decode cX3_change 51 = .ok (.aload 4, 2) := by decide +kernel
theorem dX3_change_53 : decode cX3_change 53 = .ok (.iload_n 1, 1) := by decide +kernel
theorem dX3_change_54 : decode cX3_change 54 = .ok (.iaload, 1) := by decide +kernel
theorem dX3_change_55 : decode cX3_change 55 = .ok (.istore 5, 2) := by decide +kernel
theorem dX3_change_57 : decode cX3_change 57 = .ok (.aload 4, 2) := by decide +kernel
theorem dX3_change_59 : decode cX3_change 59 = .ok (.iload_n 1, 1) := by decide +kernel
theorem dX3_change_60 : decode cX3_change 60 = .ok (.iload_n 3, 1) := by decide +kernel
theorem dX3_change_61 : decode cX3_change 61 = .ok (.iastore, 1) := by decide +kernel
theorem dX3_change_62 : decode cX3_change 62 = .ok (.iload 5, 2) := by decide +kernel
theorem dX3_change_64 : decode cX3_change 64 = .ok (.ireturn, 1) := by decide +kernel
theorem dX3_sell_0 : decode cX3_sell 0 = .ok (.aload_n 0, 1) := by decide +kernel
theorem dX3_sell_1 : decode cX3_sell 1 = .ok (.iload_n 1, 1) := by decide +kernel
theorem dX3_sell_2 : decode cX3_sell 2 = .ok (.invokevirtual 72, 3) := by decide +kernel
theorem dX3_sell_5 : decode cX3_sell 5 = .ok (.ifCond .ne 9, 3) := by decide +kernel
theorem dX3_sell_8 : decode cX3_sell 8 = .ok (.aload_n 0, 1) := by decide +kernel
theorem dX3_sell_9 : decode cX3_sell 9 = .ok (.iconst 0, 1) := by decide +kernel
theorem dX3_sell_10 : decode cX3_sell 10 = .ok (.invokevirtual 48, 3) := by decide +kernel
theorem dX3_sell_13 : decode cX3_sell 13 = .ok (.ireturn, 1) := by decide +kernel
theorem dX3_sell_14 : decode cX3_sell 14 = .ok (.aload_n 0, 1) := by decide +kernel
theorem dX3_sell_15 : decode cX3_sell 15 = .ok (.getfield 10, 3) := by decide +kernel
theorem dX3_sell_18 : decode cX3_sell 18 = .ok (.iload_n 1, 1) := by decide +kernel
theorem dX3_sell_19 : decode cX3_sell 19 = .ok (.invokevirtual 80, 3) := by decide +kernel
theorem dX3_sell_22 : decode cX3_sell 22 = .ok (.istore_n 2, 1) := by decide +kernel
theorem dX3_sell_23 : decode cX3_sell 23 = .ok (.aload_n 0, 1) := by decide +kernel
theorem dX3_sell_24 : decode cX3_sell 24 = .ok (.getfield 10, 3) := by decide +kernel
theorem dX3_sell_27 : decode cX3_sell 27 = .ok (.iload_n 1, 1) := by decide +kernel
theorem dX3_sell_28 : decode cX3_sell 28 = .ok (.invokevirtual 92, 3) := by decide +kernel
theorem dX3_sell_31 : decode cX3_sell 31 = .ok (.iload_n 2, 1) := by decide +kernel
theorem dX3_sell_32 : decode cX3_sell 32 = .ok (.ireturn, 1) := by decide +kernel
theorem dX3_go_0 : decode cX3_go 0 = .ok (.iload_n 1, 1) := by decide +kernel
theorem dX3_go_1 : decode cX3_go 1 = .ok (.iconst 1, 1) := by decide +kernel
theorem dX3_go_2 : decode cX3_go 2 = .ok (.if_icmp .lt 9, 3) := by decide +kernel
theorem dX3_go_5 : decode cX3_go 5 = .ok (.iload_n 1, 1) := by decide +kernel
theorem dX3_go_6 : decode cX3_go 6 = .ok (.bipush 60, 2) := by decide +kernel
theorem dX3_go_8 : decode cX3_go 8 = .ok (.if_icmp .le 9, 3) := by decide +kernel
theorem dX3_go_11 : decode cX3_go 11 = .ok (.aload_n 0, 1) := by decide +kernel
theorem dX3_go_12 : decode cX3_go 12 = .ok (.iconst 0, 1) := by decide +kernel
theorem dX3_go_13 : decode cX3_go 13 = .ok (.invokevirtual 48, 3) := by decide +kernel
theorem dX3_go_16 : decode cX3_go 16 = .ok (.ireturn, 1) := by decide +kernel
theorem dX3_go_17 : decode cX3_go 17 = .ok (.aload_n 0, 1) := by decide +kernel
theorem dX3_go_18 : decode cX3_go 18 = .ok (.getfield 10, 3) := by decide +kernel
theorem dX3_go_21 : decode cX3_go 21 = .ok (.getfield 96, 3) := by decide +kernel
theorem dX3_go_24 : decode cX3_go 24 = .ok (.iload_n 1, 1) := by decide +kernel
theorem dX3_go_25 : decode cX3_go 25 = .ok (.iadd, 1) := by decide +kernel
theorem dX3_go_26 : decode cX3_go 26 = .ok (.ldc 99, 2) := by decide +kernel
theorem dX3_go_28 : decode cX3_go 28 = .ok (.if_icmp .le 9, 3) := by decide +kernel
theorem dX3_go_31 : decode cX3_go 31 = .ok (.aload_n 0, 1) := by decide +kernel
theorem dX3_go_32 : decode cX3_go 32 = .ok (.iconst 4, 1) := by decide +kernel
theorem dX3_go_33 : decode cX3_go 33 = .ok (.invokevirtual 48, 3) := by decide +kernel
theorem dX3_go_36 : decode cX3_go 36 = .ok (.ireturn, 1) := by decide +kernel
theorem dX3_go_37 : decode cX3_go 37 = .ok (.aload_n 0, 1) := by decide +kernel
theorem dX3_go_38 : decode cX3_go 38 = .ok (.getfield 10, 3) := by decide +kernel
theorem dX3_go_41 : decode cX3_go 41 = .ok (.iload_n 1, 1) := by decide +kernel
theorem dX3_go_42 : decode cX3_go 42 = .ok (.invokevirtual 100, 3) := by decide +kernel
theorem dX3_go_45 : decode cX3_go 45 = .ok (.aload_n 0, 1) := by decide +kernel
theorem dX3_go_46 : decode cX3_go 46 = .ok (.getfield 10, 3) := by decide +kernel
theorem dX3_go_49 : decode cX3_go 49 = .ok (.getfield 103, 3) := by decide +kernel
theorem dX3_go_52 : decode cX3_go 52 = .ok (.ireturn, 1) := by decide +kernel
theorem dX3_now_0 : decode cX3_now 0 = .ok (.iload_n 1, 1) := by decide +kernel
theorem dX3_now_1 : decode cX3_now 1 = .ok (.tableswitch 107 0 6 #[43, 51, 59, 68, 83, 91, 99], 43) := by decide +kernel
theorem dX3_now_44 : decode cX3_now 44 = .ok (.aload_n 0, 1) := by decide +kernel
theorem dX3_now_45 : decode cX3_now 45 = .ok (.getfield 10, 3) := by decide +kernel
theorem dX3_now_48 : decode cX3_now 48 = .ok (.getfield 96, 3) := by decide +kernel
theorem dX3_now_51 : decode cX3_now 51 = .ok (.ireturn, 1) := by decide +kernel
theorem dX3_now_52 : decode cX3_now 52 = .ok (.aload_n 0, 1) := by decide +kernel
theorem dX3_now_53 : decode cX3_now 53 = .ok (.getfield 10, 3) := by decide +kernel
theorem dX3_now_56 : decode cX3_now 56 = .ok (.getfield 103, 3) := by decide +kernel
theorem dX3_now_59 : decode cX3_now 59 = .ok (.ireturn, 1) := by decide +kernel
theorem dX3_now_60 : decode cX3_now 60 = .ok (.aload_n 0, 1) := by decide +kernel
theorem dX3_now_61 : decode cX3_now 61 = .ok (.getfield 10, 3) := by decide +kernel
theorem dX3_now_64 : decode cX3_now 64 = .ok (.iconst 2, 1) := by decide +kernel
theorem dX3_now_65 : decode cX3_now 65 = .ok (.invokevirtual 106, 3) := by decide +kernel
theorem dX3_now_68 : decode cX3_now 68 = .ok (.ireturn, 1) := by decide +kernel
theorem dX3_now_69 : decode cX3_now 69 = .ok (.aload_n 0, 1) := by decide +kernel
theorem dX3_now_70 : decode cX3_now 70 = .ok (.getfield 10, 3) := by decide +kernel
theorem dX3_now_73 : decode cX3_now 73 = .ok (.aload_n 0, 1) := by decide +kernel
theorem dX3_now_74 : decode cX3_now 74 = .ok (.getfield 10, 3) := by decide +kernel
theorem dX3_now_77 : decode cX3_now 77 = .ok (.invokevirtual 109, 3) := by decide +kernel
theorem dX3_now_80 : decode cX3_now 80 = .ok (.invokevirtual 113, 3) := by decide +kernel
theorem dX3_now_83 : decode cX3_now 83 = .ok (.ireturn, 1) := by decide +kernel
theorem dX3_now_84 : decode cX3_now 84 = .ok (.aload_n 0, 1) := by decide +kernel
theorem dX3_now_85 : decode cX3_now 85 = .ok (.getfield 10, 3) := by decide +kernel
theorem dX3_now_88 : decode cX3_now 88 = .ok (.invokevirtual 116, 3) := by decide +kernel
theorem dX3_now_91 : decode cX3_now 91 = .ok (.ireturn, 1) := by decide +kernel
theorem dX3_now_92 : decode cX3_now 92 = .ok (.aload_n 0, 1) := by decide +kernel
theorem dX3_now_93 : decode cX3_now 93 = .ok (.getfield 10, 3) := by decide +kernel
theorem dX3_now_96 : decode cX3_now 96 = .ok (.invokevirtual 119, 3) := by decide +kernel
theorem dX3_now_99 : decode cX3_now 99 = .ok (.ireturn, 1) := by decide +kernel
theorem dX3_now_100 : decode cX3_now 100 = .ok (.aload_n 0, 1) := by decide +kernel
theorem dX3_now_101 : decode cX3_now 101 = .ok (.getfield 10, 3) := by decide +kernel
theorem dX3_now_104 : decode cX3_now 104 = .ok (.invokevirtual 122, 3) := by decide +kernel
theorem dX3_now_107 : decode cX3_now 107 = .ok (.ireturn, 1) := by decide +kernel
theorem dX3_now_108 : decode cX3_now 108 = .ok (.aload_n 0, 1) := by decide +kernel
theorem dX3_now_109 : decode cX3_now 109 = .ok (.iconst 0, 1) := by decide +kernel
theorem dX3_now_110 : decode cX3_now 110 = .ok (.invokevirtual 48, 3) := by decide +kernel
theorem dX3_now_113 : decode cX3_now 113 = .ok (.ireturn, 1) := by decide +kernel
theorem dX3_ahead_0 : decode cX3_ahead 0 = .ok (.aload_n 0, 1) := by decide +kernel
theorem dX3_ahead_1 : decode cX3_ahead 1 = .ok (.iload_n 1, 1) := by decide +kernel
theorem dX3_ahead_2 : decode cX3_ahead 2 = .ok (.invokevirtual 72, 3) := by decide +kernel
theorem dX3_ahead_5 : decode cX3_ahead 5 = .ok (.ifCond .eq 12, 3) := by decide +kernel
theorem dX3_ahead_8 : decode cX3_ahead 8 = .ok (.iload_n 3, 1) := by decide +kernel
theorem dX3_ahead_9 : decode cX3_ahead 9 = .ok (.bipush 100, 2) := by decide +kernel
theorem dX3_ahead_11 : decode cX3_ahead 11 = .ok (.invokestatic 44, 3) := by decide +kernel
theorem dX3_ahead_14 : decode cX3_ahead 14 = .ok (.ifCond .ne 9, 3) := by decide +kernel
theorem dX3_ahead_17 : decode cX3_ahead 17 = .ok (.aload_n 0, 1) := by decide +kernel
theorem dX3_ahead_18 : decode cX3_ahead 18 = .ok (.iconst 0, 1) := by decide +kernel
theorem dX3_ahead_19 : decode cX3_ahead 19 = .ok (.invokevirtual 48, 3) := by decide +kernel
theorem dX3_ahead_22 : decode cX3_ahead 22 = .ok (.ireturn, 1) := by decide +kernel
theorem dX3_ahead_23 : decode cX3_ahead 23 = .ok (.iload_n 2, 1) := by decide +kernel
theorem dX3_ahead_24 : decode cX3_ahead 24 = .ok (.iconst 2, 1) := by decide +kernel
theorem dX3_ahead_25 : decode cX3_ahead 25 = .ok (.if_icmp .eq 26, 3) := by decide +kernel
theorem dX3_ahead_28 : decode cX3_ahead 28 = .ok (.iload_n 2, 1) := by decide +kernel
theorem dX3_ahead_29 : decode cX3_ahead 29 = .ok (.iconst 5, 1) := by decide +kernel
theorem dX3_ahead_30 : decode cX3_ahead 30 = .ok (.if_icmp .eq 21, 3) := by decide +kernel
theorem dX3_ahead_33 : decode cX3_ahead 33 = .ok (.iload_n 2, 1) := by decide +kernel
theorem dX3_ahead_34 : decode cX3_ahead 34 = .ok (.bipush 6, 2) := by decide +kernel
theorem dX3_ahead_36 : decode cX3_ahead 36 = .ok (.if_icmp .eq 15, 3) := by decide +kernel
theorem dX3_ahead_39 : decode cX3_ahead 39 = .ok (.iload_n 2, 1) := by decide +kernel
theorem dX3_ahead_40 : decode cX3_ahead 40 = .ok (.bipush 7, 2) := by decide +kernel
theorem dX3_ahead_42 : decode cX3_ahead 42 = .ok (.if_icmp .eq 9, 3) := by decide +kernel
theorem dX3_ahead_45 : decode cX3_ahead 45 = .ok (.aload_n 0, 1) := by decide +kernel
theorem dX3_ahead_46 : decode cX3_ahead 46 = .ok (.iconst 0, 1) := by decide +kernel
theorem dX3_ahead_47 : decode cX3_ahead 47 = .ok (.invokevirtual 48, 3) := by decide +kernel
theorem dX3_ahead_50 : decode cX3_ahead 50 = .ok (.ireturn, 1) := by decide +kernel
theorem dX3_ahead_51 : decode cX3_ahead 51 = .ok (.aload_n 0, 1) := by decide +kernel
theorem dX3_ahead_52 : decode cX3_ahead 52 = .ok (.getfield 16, 3) := by decide +kernel
theorem dX3_ahead_55 : decode cX3_ahead 55 = .ok (.aload_n 0, 1) := by decide +kernel
theorem dX3_ahead_56 : decode cX3_ahead 56 = .ok (.getfield 10, 3) := by decide +kernel
theorem dX3_ahead_59 : decode cX3_ahead 59 = .ok (.invokevirtual 125, 3) := by decide +kernel
theorem dX3_ahead_62 : decode cX3_ahead 62 = .ok (.aload_n 0, 1) := by decide +kernel
theorem dX3_ahead_63 : decode cX3_ahead 63 = .ok (.getfield 16, 3) := by decide +kernel
theorem dX3_ahead_66 : decode cX3_ahead 66 = .ok (.iload_n 3, 1) := by decide +kernel
theorem dX3_ahead_67 : decode cX3_ahead 67 = .ok (.invokevirtual 100, 3) := by decide +kernel
theorem dX3_ahead_70 : decode cX3_ahead 70 = .ok (.iload_n 2, 1) := by decide +kernel
theorem dX3_ahead_71 : decode cX3_ahead 71 = .ok (.bipush 7, 2) := by decide +kernel
theorem dX3_ahead_73 : decode cX3_ahead 73 = .ok (.if_icmp .ne 14, 3) := by decide +kernel
theorem dX3_ahead_76 : decode cX3_ahead 76 = .ok (.aload_n 0, 1) := by decide +kernel
theorem dX3_ahead_77 : decode cX3_ahead 77 = .ok (.getfield 16, 3) := by decide +kernel
theorem dX3_ahead_80 : decode cX3_ahead 80 = .ok (.iload_n 1, 1) := by decide +kernel
theorem dX3_ahead_81 : decode cX3_ahead 81 = .ok (.invokevirtual 80, 3) := by decide +kernel
theorem dX3_ahead_84 : decode cX3_ahead 84 = .ok (.goto 13, 3) := by decide +kernel
theorem dX3_ahead_87 : decode cX3_ahead 87 = .ok (.aload_n 0, 1) := by decide +kernel
theorem dX3_ahead_88 : decode cX3_ahead 88 = .ok (.getfield 16, 3) := by decide +kernel
theorem dX3_ahead_91 : decode cX3_ahead 91 = .ok (.iload_n 2, 1) := by decide +kernel
theorem dX3_ahead_92 : decode cX3_ahead 92 = .ok (.invokevirtual 76, 3) := by decide +kernel
theorem dX3_ahead_95 : decode cX3_ahead 95 = .ok (.iload_n 1, 1) := by decide +kernel
theorem dX3_ahead_96 : decode cX3_ahead 96 = .ok (.iaload, 1) := by decide +kernel
theorem dX3_ahead_97 : decode cX3_ahead 97 = .ok (.ireturn, 1) := by decide +kernel
theorem dX3_claps_0 : decode cX3_claps 0 = .ok (.iload_n 1, 1) := by decide +kernel
theorem dX3_claps_1 : decode cX3_claps 1 = .ok (.bipush 100, 2) := by decide +kernel
theorem dX3_claps_3 : decode cX3_claps 3 = .ok (.invokestatic 44, 3) := by decide +kernel
theorem dX3_claps_6 : decode cX3_claps 6 = .ok (.ifCond .ne 9, 3) := by decide +kernel
theorem dX3_claps_9 : decode cX3_claps 9 = .ok (.aload_n 0, 1) := by decide +kernel
theorem dX3_claps_10 : decode cX3_claps 10 = .ok (.iconst 0, 1) := by decide +kernel
theorem dX3_claps_11 : decode cX3_claps 11 = .ok (.invokevirtual 48, 3) := by decide +kernel
theorem dX3_claps_14 : decode cX3_claps 14 = .ok (.ireturn, 1) := by decide +kernel
theorem dX3_claps_15 : decode cX3_claps 15 = .ok (.aload_n 0, 1) := by decide +kernel
theorem dX3_claps_16 : decode cX3_claps 16 = .ok (.getfield 16, 3) := by decide +kernel
theorem dX3_claps_19 : decode cX3_claps 19 = .ok (.aload_n 0, 1) := by decide +kernel
theorem dX3_claps_20 : decode cX3_claps 20 = .ok (.getfield 10, 3) := by decide +kernel
theorem dX3_claps_23 : decode cX3_claps 23 = .ok (.invokevirtual 125, 3) := by decide +kernel
theorem dX3_claps_26 : decode cX3_claps 26 = .ok (.aload_n 0, 1) := by decide +kernel
theorem dX3_claps_27 : decode cX3_claps 27 = .ok (.getfield 16, 3) := by decide +kernel
theorem dX3_claps_30 : decode cX3_claps 30 = .ok (.iload_n 1, 1) := by decide +kernel
theorem dX3_claps_31 : decode cX3_claps 31 = .ok (.invokevirtual 100, 3) := by decide +kernel
theorem dX3_claps_34 : decode cX3_claps 34 = .ok (.aload_n 0, 1) := by decide +kernel
theorem dX3_claps_35 : decode cX3_claps 35 = .ok (.getfield 16, 3) := by decide +kernel
theorem dX3_claps_38 : decode cX3_claps 38 = .ok (.getfield 103, 3) := by decide +kernel
theorem dX3_claps_41 : decode cX3_claps 41 = .ok (.ireturn, 1) := by decide +kernel
theorem dX3_bursts_0 : decode cX3_bursts 0 = .ok (.aload_n 0, 1) := by decide +kernel
theorem dX3_bursts_1 : decode cX3_bursts 1 = .ok (.iload_n 1, 1) := by decide +kernel
theorem dX3_bursts_2 : decode cX3_bursts 2 = .ok (.invokevirtual 72, 3) := by decide +kernel
theorem dX3_bursts_5 : decode cX3_bursts 5 = .ok (.ifCond .ne 9, 3) := by decide +kernel
theorem dX3_bursts_8 : decode cX3_bursts 8 = .ok (.aload_n 0, 1) := by decide +kernel
theorem dX3_bursts_9 : decode cX3_bursts 9 = .ok (.iconst 0, 1) := by decide +kernel
theorem dX3_bursts_10 : decode cX3_bursts 10 = .ok (.invokevirtual 48, 3) := by decide +kernel
theorem dX3_bursts_13 : decode cX3_bursts 13 = .ok (.ireturn, 1) := by decide +kernel
theorem dX3_bursts_14 : decode cX3_bursts 14 = .ok (.aload_n 0, 1) := by decide +kernel
theorem dX3_bursts_15 : decode cX3_bursts 15 = .ok (.getfield 16, 3) := by decide +kernel
theorem dX3_bursts_18 : decode cX3_bursts 18 = .ok (.aload_n 0, 1) := by decide +kernel
theorem dX3_bursts_19 : decode cX3_bursts 19 = .ok (.getfield 10, 3) := by decide +kernel
theorem dX3_bursts_22 : decode cX3_bursts 22 = .ok (.invokevirtual 125, 3) := by decide +kernel
theorem dX3_bursts_25 : decode cX3_bursts 25 = .ok (.iconst 1, 1) := by decide +kernel
theorem dX3_bursts_26 : decode cX3_bursts 26 = .ok (.istore_n 2, 1) := by decide +kernel
theorem dX3_bursts_27 : decode cX3_bursts 27 = .ok (.iload_n 2, 1) := by decide +kernel
theorem dX3_bursts_28 : decode cX3_bursts 28 = .ok (.bipush 100, 2) := by decide +kernel
theorem dX3_bursts_30 : decode cX3_bursts 30 = .ok (.if_icmp .gt 40, 3) := by decide +kernel
theorem dX3_bursts_33 : decode cX3_bursts 33 = .ok (.aload_n 0, 1) := by decide +kernel
theorem dX3_bursts_34 : decode cX3_bursts 34 = .ok (.getfield 16, 3) := by decide +kernel
theorem dX3_bursts_37 : decode cX3_bursts 37 = .ok (.iconst 1, 1) := by decide +kernel
theorem dX3_bursts_38 : decode cX3_bursts 38 = .ok (.invokevirtual 100, 3) := by decide +kernel
theorem dX3_bursts_41 : decode cX3_bursts 41 = .ok (.aload_n 0, 1) := by decide +kernel
theorem dX3_bursts_42 : decode cX3_bursts 42 = .ok (.getfield 16, 3) := by decide +kernel
theorem dX3_bursts_45 : decode cX3_bursts 45 = .ok (.getfield 129, 3) := by decide +kernel
theorem dX3_bursts_48 : decode cX3_bursts 48 = .ok (.iload_n 1, 1) := by decide +kernel
theorem dX3_bursts_49 : decode cX3_bursts 49 = .ok (.iaload, 1) := by decide +kernel
theorem dX3_bursts_50 : decode cX3_bursts 50 = .ok (.aload_n 0, 1) := by decide +kernel
theorem dX3_bursts_51 : decode cX3_bursts 51 = .ok (.getfield 10, 3) := by decide +kernel
theorem dX3_bursts_54 : decode cX3_bursts 54 = .ok (.getfield 129, 3) := by decide +kernel
theorem dX3_bursts_57 : decode cX3_bursts 57 = .ok (.iload_n 1, 1) := by decide +kernel
theorem dX3_bursts_58 : decode cX3_bursts 58 = .ok (.iaload, 1) := by decide +kernel
theorem dX3_bursts_59 : decode cX3_bursts 59 = .ok (.if_icmp .le 5, 3) := by decide +kernel
theorem dX3_bursts_62 : decode cX3_bursts 62 = .ok (.iload_n 2, 1) := by decide +kernel
theorem dX3_bursts_63 : decode cX3_bursts 63 = .ok (.ireturn, 1) := by decide +kernel
theorem dX3_bursts_64 : decode cX3_bursts 64 = .ok (.iinc 2 1, 3) := by decide +kernel
theorem dX3_bursts_67 : decode cX3_bursts 67 = .ok (.goto (-40), 3) := by decide +kernel
theorem dX3_bursts_70 : decode cX3_bursts 70 = .ok (.aload_n 0, 1) := by decide +kernel
theorem dX3_bursts_71 : decode cX3_bursts 71 = .ok (.iconst 3, 1) := by decide +kernel
theorem dX3_bursts_72 : decode cX3_bursts 72 = .ok (.invokevirtual 48, 3) := by decide +kernel
theorem dX3_bursts_75 : decode cX3_bursts 75 = .ok (.ireturn, 1) := by decide +kernel
theorem dX3_when_0 : decode cX3_when 0 = .ok (.aload_n 0, 1) := by decide +kernel
theorem dX3_when_1 : decode cX3_when 1 = .ok (.iload_n 1, 1) := by decide +kernel
theorem dX3_when_2 : decode cX3_when 2 = .ok (.invokevirtual 72, 3) := by decide +kernel
theorem dX3_when_5 : decode cX3_when 5 = .ok (.ifCond .eq 13, 3) := by decide +kernel
theorem dX3_when_8 : decode cX3_when 8 = .ok (.iload_n 2, 1) := by decide +kernel
theorem dX3_when_9 : decode cX3_when 9 = .ok (.sipush 2000, 3) := by decide +kernel
theorem dX3_when_12 : decode cX3_when 12 = .ok (.invokestatic 44, 3) := by decide +kernel
theorem dX3_when_15 : decode cX3_when 15 = .ok (.ifCond .ne 9, 3) := by decide +kernel
theorem dX3_when_18 : decode cX3_when 18 = .ok (.aload_n 0, 1) := by decide +kernel
theorem dX3_when_19 : decode cX3_when 19 = .ok (.iconst 0, 1) := by decide +kernel
theorem dX3_when_20 : decode cX3_when 20 = .ok (.invokevirtual 48, 3) := by decide +kernel
theorem dX3_when_23 : decode cX3_when 23 = .ok (.ireturn, 1) := by decide +kernel
theorem dX3_when_24 : decode cX3_when 24 = .ok (.aload_n 0, 1) := by decide +kernel
theorem dX3_when_25 : decode cX3_when 25 = .ok (.getfield 16, 3) := by decide +kernel
theorem dX3_when_28 : decode cX3_when 28 = .ok (.aload_n 0, 1) := by decide +kernel
theorem dX3_when_29 : decode cX3_when 29 = .ok (.getfield 10, 3) := by decide +kernel
theorem dX3_when_32 : decode cX3_when 32 = .ok (.invokevirtual 125, 3) := by decide +kernel
theorem dX3_when_35 : decode cX3_when 35 = .ok (.iconst 0, 1) := by decide +kernel
theorem dX3_when_36 : decode cX3_when 36 = .ok (.istore_n 3, 1) := by decide +kernel
theorem dX3_when_37 : decode cX3_when 37 = .ok (.iload_n 3, 1) := by decide +kernel
theorem dX3_when_38 : decode cX3_when 38 = .ok (.bipush 100, 2) := by decide +kernel
theorem dX3_when_40 : decode cX3_when 40 = .ok (.if_icmp .gt 31, 3) := by decide +kernel
theorem dX3_when_43 : decode cX3_when 43 = .ok (.aload_n 0, 1) := by decide +kernel
theorem dX3_when_44 : decode cX3_when 44 = .ok (.getfield 16, 3) := by decide +kernel
theorem dX3_when_47 : decode cX3_when 47 = .ok (.iload_n 1, 1) := by decide +kernel
theorem dX3_when_48 : decode cX3_when 48 = .ok (.invokevirtual 80, 3) := by decide +kernel
theorem dX3_when_51 : decode cX3_when 51 = .ok (.iload_n 2, 1) := by decide +kernel
theorem dX3_when_52 : decode cX3_when 52 = .ok (.if_icmp .lt 5, 3) := by decide +kernel
theorem dX3_when_55 : decode cX3_when 55 = .ok (.iload_n 3, 1) := by decide +kernel
theorem dX3_when_56 : decode cX3_when 56 = .ok (.ireturn, 1) := by decide +kernel
theorem dX3_when_57 : decode cX3_when 57 = .ok (.aload_n 0, 1) := by decide +kernel
theorem dX3_when_58 : decode cX3_when 58 = .ok (.getfield 16, 3) := by decide +kernel
theorem dX3_when_61 : decode cX3_when 61 = .ok (.iconst 1, 1) := by decide +kernel
theorem dX3_when_62 : decode cX3_when 62 = .ok (.invokevirtual 100, 3) := by decide +kernel
theorem dX3_when_65 : decode cX3_when 65 = .ok (.iinc 3 1, 3) := by decide +kernel
theorem dX3_when_68 : decode cX3_when 68 = .ok (.goto (-31), 3) := by decide +kernel
theorem dX3_when_71 : decode cX3_when 71 = .ok (.aload_n 0, 1) := by decide +kernel
theorem dX3_when_72 : decode cX3_when 72 = .ok (.iconst 3, 1) := by decide +kernel
theorem dX3_when_73 : decode cX3_when 73 = .ok (.invokevirtual 48, 3) := by decide +kernel
theorem dX3_when_76 : decode cX3_when 76 = .ok (.ireturn, 1) := by decide +kernel
theorem dX3_chain_0 : decode cX3_chain 0 = .ok (.iload_n 1, 1) := by decide +kernel
theorem dX3_chain_1 : decode cX3_chain 1 = .ok (.bipush 60, 2) := by decide +kernel
theorem dX3_chain_3 : decode cX3_chain 3 = .ok (.invokestatic 44, 3) := by decide +kernel
theorem dX3_chain_6 : decode cX3_chain 6 = .ok (.ifCond .ne 9, 3) := by decide +kernel
theorem dX3_chain_9 : decode cX3_chain 9 = .ok (.aload_n 0, 1) := by decide +kernel
theorem dX3_chain_10 : decode cX3_chain 10 = .ok (.iconst 0, 1) := by decide +kernel
theorem dX3_chain_11 : decode cX3_chain 11 = .ok (.invokevirtual 48, 3) := by decide +kernel
theorem dX3_chain_14 : decode cX3_chain 14 = .ok (.ireturn, 1) := by decide +kernel
theorem dX3_chain_15 : decode cX3_chain 15 = .ok (.aload_n 0, 1) := by decide +kernel
theorem dX3_chain_16 : decode cX3_chain 16 = .ok (.getfield 16, 3) := by decide +kernel
theorem dX3_chain_19 : decode cX3_chain 19 = .ok (.aload_n 0, 1) := by decide +kernel
theorem dX3_chain_20 : decode cX3_chain 20 = .ok (.getfield 10, 3) := by decide +kernel
theorem dX3_chain_23 : decode cX3_chain 23 = .ok (.invokevirtual 125, 3) := by decide +kernel
theorem dX3_chain_26 : decode cX3_chain 26 = .ok (.aload_n 0, 1) := by decide +kernel
theorem dX3_chain_27 : decode cX3_chain 27 = .ok (.getfield 16, 3) := by decide +kernel
theorem dX3_chain_30 : decode cX3_chain 30 = .ok (.iload_n 1, 1) := by decide +kernel
theorem dX3_chain_31 : decode cX3_chain 31 = .ok (.invokevirtual 100, 3) := by decide +kernel
theorem dX3_chain_34 : decode cX3_chain 34 = .ok (.iconst 0, 1) := by decide +kernel
theorem dX3_chain_35 : decode cX3_chain 35 = .ok (.istore_n 2, 1) := by decide +kernel
theorem dX3_chain_36 : decode cX3_chain 36 = .ok (.iconst 0, 1) := by decide +kernel
theorem dX3_chain_37 : decode cX3_chain 37 = .ok (.istore_n 3, 1) := by decide +kernel
theorem dX3_chain_38 : decode cX3_chain 38 = .ok (.iload_n 3, 1) := by decide +kernel
theorem dX3_chain_39 : decode cX3_chain 39 = .ok (.aload_n 0, 1) := by decide +kernel
theorem dX3_chain_40 : decode cX3_chain 40 = .ok (.getfield 10, 3) := by decide +kernel
theorem dX3_chain_43 : decode cX3_chain 43 = .ok (.getfield 64, 3) := by decide +kernel
theorem dX3_chain_46 : decode cX3_chain 46 = .ok (.if_icmp .ge 36, 3) := by decide +kernel
theorem dX3_chain_49 : decode cX3_chain 49 = .ok (.aload_n 0, 1) := by decide +kernel
theorem dX3_chain_50 : decode cX3_chain 50 = .ok (.getfield 16, 3) := by decide +kernel
theorem dX3_chain_53 : decode cX3_chain 53 = .ok (.getfield 129, 3) := by decide +kernel
theorem dX3_chain_56 : decode cX3_chain 56 = .ok (.iload_n 3, 1) := by decide +kernel
theorem dX3_chain_57 : decode cX3_chain 57 = .ok (.iaload, 1) := by decide +kernel
theorem dX3_chain_58 : decode cX3_chain 58 = .ok (.aload_n 0, 1) := by decide +kernel
theorem dX3_chain_59 : decode cX3_chain 59 = .ok (.getfield 10, 3) := by decide +kernel
theorem dX3_chain_62 : decode cX3_chain 62 = .ok (.getfield 129, 3) := by decide +kernel
theorem dX3_chain_65 : decode cX3_chain 65 = .ok (.iload_n 3, 1) := by decide +kernel
theorem dX3_chain_66 : decode cX3_chain 66 = .ok (.iaload, 1) := by decide +kernel
theorem dX3_chain_67 : decode cX3_chain 67 = .ok (.if_icmp .le 9, 3) := by decide +kernel
theorem dX3_chain_70 : decode cX3_chain 70 = .ok (.iload_n 2, 1) := by decide +kernel
theorem dX3_chain_71 : decode cX3_chain 71 = .ok (.iconst 1, 1) := by decide +kernel
theorem dX3_chain_72 : decode cX3_chain 72 = .ok (.iload_n 3, 1) := by decide +kernel
theorem dX3_chain_73 : decode cX3_chain 73 = .ok (.ishl, 1) := by decide +kernel
theorem dX3_chain_74 : decode cX3_chain 74 = .ok (.ior, 1) := by decide +kernel
theorem dX3_chain_75 : decode cX3_chain 75 = .ok (.istore_n 2, 1) := by decide +kernel
theorem dX3_chain_76 : decode cX3_chain 76 = .ok (.iinc 3 1, 3) := by decide +kernel
theorem dX3_chain_79 : decode cX3_chain 79 = .ok (.goto (-41), 3) := by decide +kernel
theorem dX3_chain_82 : decode cX3_chain 82 = .ok (.iload_n 2, 1) := by decide +kernel
theorem dX3_chain_83 : decode cX3_chain 83 = .ok (.ireturn, 1) := by decide +kernel
theorem dX3_lay_0 : decode cX3_lay 0 = .ok (.aload_n 0, 1) := by decide +kernel
theorem dX3_lay_1 : decode cX3_lay 1 = .ok (.iload_n 1, 1) := by decide +kernel
theorem dX3_lay_2 : decode cX3_lay 2 = .ok (.iconst 1, 1) := by decide +kernel
theorem dX3_lay_3 : decode cX3_lay 3 = .ok (.iload_n 2, 1) := by decide +kernel
theorem dX3_lay_4 : decode cX3_lay 4 = .ok (.invokevirtual 132, 3) := by decide +kernel
theorem dX3_lay_7 : decode cX3_lay 7 = .ok (.ireturn, 1) := by decide +kernel
theorem dX3_kindFor_0 : decode cX3_kindFor 0 = .ok (.aload_n 0, 1) := by decide +kernel
theorem dX3_kindFor_1 : decode cX3_kindFor 1 = .ok (.iload_n 1, 1) := by decide +kernel
theorem dX3_kindFor_2 : decode cX3_kindFor 2 = .ok (.iconst 0, 1) := by decide +kernel
theorem dX3_kindFor_3 : decode cX3_kindFor 3 = .ok (.iload_n 2, 1) := by decide +kernel
theorem dX3_kindFor_4 : decode cX3_kindFor 4 = .ok (.invokevirtual 132, 3) := by decide +kernel
theorem dX3_kindFor_7 : decode cX3_kindFor 7 = .ok (.ireturn, 1) := by decide +kernel
theorem dX3_pitchFor_0 : decode cX3_pitchFor 0 = .ok (.aload_n 0, 1) := by decide +kernel
theorem dX3_pitchFor_1 : decode cX3_pitchFor 1 = .ok (.iload_n 1, 1) := by decide +kernel
theorem dX3_pitchFor_2 : decode cX3_pitchFor 2 = .ok (.iconst 3, 1) := by decide +kernel
theorem dX3_pitchFor_3 : decode cX3_pitchFor 3 = .ok (.iload_n 2, 1) := by decide +kernel
theorem dX3_pitchFor_4 : decode cX3_pitchFor 4 = .ok (.invokevirtual 132, 3) := by decide +kernel
theorem dX3_pitchFor_7 : decode cX3_pitchFor 7 = .ok (.ireturn, 1) := by decide +kernel
theorem dX3_hoopsFor_0 : decode cX3_hoopsFor 0 = .ok (.aload_n 0, 1) := by decide +kernel
theorem dX3_hoopsFor_1 : decode cX3_hoopsFor 1 = .ok (.iload_n 1, 1) := by decide +kernel
theorem dX3_hoopsFor_2 : decode cX3_hoopsFor 2 = .ok (.invokevirtual 72, 3) := by decide +kernel
theorem dX3_hoopsFor_5 : decode cX3_hoopsFor 5 = .ok (.ifCond .eq 12, 3) := by decide +kernel
theorem dX3_hoopsFor_8 : decode cX3_hoopsFor 8 = .ok (.iload_n 2, 1) := by decide +kernel
theorem dX3_hoopsFor_9 : decode cX3_hoopsFor 9 = .ok (.bipush 20, 2) := by decide +kernel
theorem dX3_hoopsFor_11 : decode cX3_hoopsFor 11 = .ok (.invokestatic 44, 3) := by decide +kernel
theorem dX3_hoopsFor_14 : decode cX3_hoopsFor 14 = .ok (.ifCond .ne 9, 3) := by decide +kernel
theorem dX3_hoopsFor_17 : decode cX3_hoopsFor 17 = .ok (.aload_n 0, 1) := by decide +kernel
theorem dX3_hoopsFor_18 : decode cX3_hoopsFor 18 = .ok (.iconst 0, 1) := by decide +kernel
theorem dX3_hoopsFor_19 : decode cX3_hoopsFor 19 = .ok (.invokevirtual 48, 3) := by decide +kernel
theorem dX3_hoopsFor_22 : decode cX3_hoopsFor 22 = .ok (.ireturn, 1) := by decide +kernel
theorem dX3_hoopsFor_23 : decode cX3_hoopsFor 23 = .ok (.iconst 0, 1) := by decide +kernel
theorem dX3_hoopsFor_24 : decode cX3_hoopsFor 24 = .ok (.istore_n 3, 1) := by decide +kernel
theorem dX3_hoopsFor_25 : decode cX3_hoopsFor 25 = .ok (.iload_n 3, 1) := by decide +kernel
theorem dX3_hoopsFor_26 : decode cX3_hoopsFor 26 = .ok (.sipush 200, 3) := by decide +kernel
theorem dX3_hoopsFor_29 : decode cX3_hoopsFor 29 = .ok (.if_icmp .gt 41, 3) := by decide +kernel
theorem dX3_hoopsFor_32 : decode cX3_hoopsFor 32 = .ok (.aload_n 0, 1) := by decide +kernel
theorem dX3_hoopsFor_33 : decode cX3_hoopsFor 33 = .ok (.getfield 16, 3) := by decide +kernel
theorem dX3_hoopsFor_36 : decode cX3_hoopsFor 36 = .ok (.aload_n 0, 1) := by decide +kernel
theorem dX3_hoopsFor_37 : decode cX3_hoopsFor 37 = .ok (.getfield 10, 3) := by decide +kernel
theorem dX3_hoopsFor_40 : decode cX3_hoopsFor 40 = .ok (.invokevirtual 125, 3) := by decide +kernel
theorem dX3_hoopsFor_43 : decode cX3_hoopsFor 43 = .ok (.aload_n 0, 1) := by decide +kernel
theorem dX3_hoopsFor_44 : decode cX3_hoopsFor 44 = .ok (.getfield 16, 3) := by decide +kernel
theorem dX3_hoopsFor_47 : decode cX3_hoopsFor 47 = .ok (.getfield 136, 3) := by decide +kernel
theorem dX3_hoopsFor_50 : decode cX3_hoopsFor 50 = .ok (.iload_n 1, 1) := by decide +kernel
theorem dX3_hoopsFor_51 : decode cX3_hoopsFor 51 = .ok (.iload_n 3, 1) := by decide +kernel
theorem dX3_hoopsFor_52 : decode cX3_hoopsFor 52 = .ok (.iastore, 1) := by decide +kernel
theorem dX3_hoopsFor_53 : decode cX3_hoopsFor 53 = .ok (.aload_n 0, 1) := by decide +kernel
theorem dX3_hoopsFor_54 : decode cX3_hoopsFor 54 = .ok (.iload_n 1, 1) := by decide +kernel
theorem dX3_hoopsFor_55 : decode cX3_hoopsFor 55 = .ok (.iload_n 2, 1) := by decide +kernel
theorem dX3_hoopsFor_56 : decode cX3_hoopsFor 56 = .ok (.invokevirtual 139, 3) := by decide +kernel
theorem dX3_hoopsFor_59 : decode cX3_hoopsFor 59 = .ok (.ifCond .eq 5, 3) := by decide +kernel
theorem dX3_hoopsFor_62 : decode cX3_hoopsFor 62 = .ok (.iload_n 3, 1) := by decide +kernel
theorem dX3_hoopsFor_63 : decode cX3_hoopsFor 63 = .ok (.ireturn, 1) := by decide +kernel
theorem dX3_hoopsFor_64 : decode cX3_hoopsFor 64 = .ok (.iinc 3 1, 3) := by decide +kernel
theorem dX3_hoopsFor_67 : decode cX3_hoopsFor 67 = .ok (.goto (-42), 3) := by decide +kernel
theorem dX3_hoopsFor_70 : decode cX3_hoopsFor 70 = .ok (.aload_n 0, 1) := by decide +kernel
theorem dX3_hoopsFor_71 : decode cX3_hoopsFor 71 = .ok (.iconst 3, 1) := by decide +kernel
theorem dX3_hoopsFor_72 : decode cX3_hoopsFor 72 = .ok (.invokevirtual 48, 3) := by decide +kernel
theorem dX3_hoopsFor_75 : decode cX3_hoopsFor 75 = .ok (.ireturn, 1) := by decide +kernel
theorem dX3_frostFor_0 : decode cX3_frostFor 0 = .ok (.iload_n 1, 1) := by decide +kernel
theorem dX3_frostFor_1 : decode cX3_frostFor 1 = .ok (.iconst 5, 1) := by decide +kernel
theorem dX3_frostFor_2 : decode cX3_frostFor 2 = .ok (.invokestatic 44, 3) := by decide +kernel
theorem dX3_frostFor_5 : decode cX3_frostFor 5 = .ok (.ifCond .eq 12, 3) := by decide +kernel
theorem dX3_frostFor_8 : decode cX3_frostFor 8 = .ok (.iload_n 2, 1) := by decide +kernel
theorem dX3_frostFor_9 : decode cX3_frostFor 9 = .ok (.bipush 40, 2) := by decide +kernel
theorem dX3_frostFor_11 : decode cX3_frostFor 11 = .ok (.invokestatic 44, 3) := by decide +kernel
theorem dX3_frostFor_14 : decode cX3_frostFor 14 = .ok (.ifCond .ne 9, 3) := by decide +kernel
theorem dX3_frostFor_17 : decode cX3_frostFor 17 = .ok (.aload_n 0, 1) := by decide +kernel
theorem dX3_frostFor_18 : decode cX3_frostFor 18 = .ok (.iconst 0, 1) := by decide +kernel
theorem dX3_frostFor_19 : decode cX3_frostFor 19 = .ok (.invokevirtual 48, 3) := by decide +kernel
theorem dX3_frostFor_22 : decode cX3_frostFor 22 = .ok (.ireturn, 1) := by decide +kernel
theorem dX3_frostFor_23 : decode cX3_frostFor 23 = .ok (.bipush 9, 2) := by decide +kernel
theorem dX3_frostFor_25 : decode cX3_frostFor 25 = .ok (.istore_n 3, 1) := by decide +kernel
theorem dX3_frostFor_26 : decode cX3_frostFor 26 = .ok (.iload_n 3, 1) := by decide +kernel
theorem dX3_frostFor_27 : decode cX3_frostFor 27 = .ok (.ifCond .lt 40, 3) := by decide +kernel
theorem dX3_frostFor_30 : decode cX3_frostFor 30 = .ok (.aload_n 0, 1) := by decide +kernel
theorem dX3_frostFor_31 : decode cX3_frostFor 31 = .ok (.getfield 16, 3) := by decide +kernel
theorem dX3_frostFor_34 : decode cX3_frostFor 34 = .ok (.aload_n 0, 1) := by decide +kernel
theorem dX3_frostFor_35 : decode cX3_frostFor 35 = .ok (.getfield 10, 3) := by decide +kernel
theorem dX3_frostFor_38 : decode cX3_frostFor 38 = .ok (.invokevirtual 125, 3) := by decide +kernel
theorem dX3_frostFor_41 : decode cX3_frostFor 41 = .ok (.aload_n 0, 1) := by decide +kernel
theorem dX3_frostFor_42 : decode cX3_frostFor 42 = .ok (.getfield 16, 3) := by decide +kernel
theorem dX3_frostFor_45 : decode cX3_frostFor 45 = .ok (.getfield 52, 3) := by decide +kernel
theorem dX3_frostFor_48 : decode cX3_frostFor 48 = .ok (.iload_n 1, 1) := by decide +kernel
theorem dX3_frostFor_49 : decode cX3_frostFor 49 = .ok (.iload_n 3, 1) := by decide +kernel
theorem dX3_frostFor_50 : decode cX3_frostFor 50 = .ok (.iastore, 1) := by decide +kernel
theorem dX3_frostFor_51 : decode cX3_frostFor 51 = .ok (.aload_n 0, 1) := by decide +kernel
theorem dX3_frostFor_52 : decode cX3_frostFor 52 = .ok (.iload_n 2, 1) := by decide +kernel
theorem dX3_frostFor_53 : decode cX3_frostFor 53 = .ok (.invokevirtual 142, 3) := by decide +kernel
theorem dX3_frostFor_56 : decode cX3_frostFor 56 = .ok (.ifCond .eq 5, 3) := by decide +kernel
theorem dX3_frostFor_59 : decode cX3_frostFor 59 = .ok (.iload_n 3, 1) := by decide +kernel
theorem dX3_frostFor_60 : decode cX3_frostFor 60 = .ok (.ireturn, 1) := by decide +kernel
theorem dX3_frostFor_61 : decode cX3_frostFor 61 = .ok (.iinc 3 (-1), 3) := by decide +kernel
theorem dX3_frostFor_64 : decode cX3_frostFor 64 = .ok (.goto (-38), 3) := by decide +kernel
theorem dX3_frostFor_67 : decode cX3_frostFor 67 = .ok (.aload_n 0, 1) := by decide +kernel
theorem dX3_frostFor_68 : decode cX3_frostFor 68 = .ok (.iconst 3, 1) := by decide +kernel
theorem dX3_frostFor_69 : decode cX3_frostFor 69 = .ok (.invokevirtual 48, 3) := by decide +kernel
theorem dX3_frostFor_72 : decode cX3_frostFor 72 = .ok (.ireturn, 1) := by decide +kernel
theorem dX3_empty_0 : decode cX3_empty 0 = .ok (.iload_n 1, 1) := by decide +kernel
theorem dX3_empty_1 : decode cX3_empty 1 = .ok (.bipush 12, 2) := by decide +kernel
theorem dX3_empty_3 : decode cX3_empty 3 = .ok (.invokestatic 44, 3) := by decide +kernel
theorem dX3_empty_6 : decode cX3_empty 6 = .ok (.ifCond .ne 9, 3) := by decide +kernel
theorem dX3_empty_9 : decode cX3_empty 9 = .ok (.aload_n 0, 1) := by decide +kernel
theorem dX3_empty_10 : decode cX3_empty 10 = .ok (.iconst 0, 1) := by decide +kernel
theorem dX3_empty_11 : decode cX3_empty 11 = .ok (.invokevirtual 48, 3) := by decide +kernel
theorem dX3_empty_14 : decode cX3_empty 14 = .ok (.ireturn, 1) := by decide +kernel
theorem dX3_empty_15 : decode cX3_empty 15 = .ok (.aload_n 0, 1) := by decide +kernel
theorem dX3_empty_16 : decode cX3_empty 16 = .ok (.getfield 10, 3) := by decide +kernel
theorem dX3_empty_19 : decode cX3_empty 19 = .ok (.invokevirtual 109, 3) := by decide +kernel
theorem dX3_empty_22 : decode cX3_empty 22 = .ok (.istore_n 2, 1) := by decide +kernel
theorem dX3_empty_23 : decode cX3_empty 23 = .ok (.iconst 0, 1) := by decide +kernel
theorem dX3_empty_24 : decode cX3_empty 24 = .ok (.istore_n 3, 1) := by decide +kernel
theorem dX3_empty_25 : decode cX3_empty 25 = .ok (.iload_n 3, 1) := by decide +kernel
theorem dX3_empty_26 : decode cX3_empty 26 = .ok (.aload_n 0, 1) := by decide +kernel
theorem dX3_empty_27 : decode cX3_empty 27 = .ok (.getfield 10, 3) := by decide +kernel
theorem dX3_empty_30 : decode cX3_empty 30 = .ok (.getfield 64, 3) := by decide +kernel
theorem dX3_empty_33 : decode cX3_empty 33 = .ok (.if_icmp .gt 67, 3) := by decide +kernel
theorem dX3_empty_36 : decode cX3_empty 36 = .ok (.iconst 0, 1) := by decide +kernel
theorem dX3_empty_37 : decode cX3_empty 37 = .ok (.istore 4, 2) := by decide +kernel
theorem dX3_empty_39 : decode cX3_empty 39 = .ok (.iload 4, 2) := by decide +kernel
theorem dX3_empty_41 : decode cX3_empty 41 = .ok (.iload_n 2, 1) := by decide +kernel
theorem dX3_empty_42 : decode cX3_empty 42 = .ok (.if_icmp .gt 52, 3) := by decide +kernel
theorem dX3_empty_45 : decode cX3_empty 45 = .ok (.iload 4, 2) := by decide +kernel
theorem dX3_empty_47 : decode cX3_empty 47 = .ok (.invokestatic 145, 3) := by decide +kernel
theorem dX3_empty_50 : decode cX3_empty 50 = .ok (.iload_n 3, 1) := by decide +kernel
theorem dX3_empty_51 : decode cX3_empty 51 = .ok (.if_icmp .eq 6, 3) := by decide +kernel
theorem dX3_empty_54 : decode cX3_empty 54 = .ok (.goto 34, 3) := by decide +kernel
theorem dX3_empty_57 : decode cX3_empty 57 = .ok (.aload_n 0, 1) := by decide +kernel
theorem dX3_empty_58 : decode cX3_empty 58 = .ok (.getfield 16, 3) := by decide +kernel
theorem dX3_empty_61 : decode cX3_empty 61 = .ok (.aload_n 0, 1) := by decide +kernel
theorem dX3_empty_62 : decode cX3_empty 62 = .ok (.getfield 10, 3) := by decide +kernel
theorem dX3_empty_65 : decode cX3_empty 65 = .ok (.invokevirtual 125, 3) := by decide +kernel
theorem dX3_empty_68 : decode cX3_empty 68 = .ok (.aload_n 0, 1) := by decide +kernel
theorem dX3_empty_69 : decode cX3_empty 69 = .ok (.getfield 16, 3) := by decide +kernel
theorem dX3_empty_72 : decode cX3_empty 72 = .ok (.iload 4, 2) := by decide +kernel
theorem dX3_empty_74 : decode cX3_empty 74 = .ok (.invokevirtual 150, 3) := by decide +kernel
theorem dX3_empty_77 : decode cX3_empty 77 = .ok (.aload_n 0, 1) := by decide +kernel
theorem dX3_empty_78 : decode cX3_empty 78 = .ok (.iload_n 1, 1) := by decide +kernel
theorem dX3_empty_79 : decode cX3_empty 79 = .ok (.invokevirtual 142, 3) := by decide +kernel
theorem dX3_empty_82 : decode cX3_empty 82 = .ok (.ifCond .eq 6, 3) := by decide +kernel
theorem dX3_empty_85 : decode cX3_empty 85 = .ok (.iload 4, 2) := by decide +kernel
theorem dX3_empty_87 : decode cX3_empty 87 = .ok (.ireturn, 1) := by decide +kernel
theorem dX3_empty_88 : decode cX3_empty 88 = .ok (.iinc 4 1, 3) := by decide +kernel
theorem dX3_empty_91 : decode cX3_empty 91 = .ok (.goto (-52), 3) := by decide +kernel
theorem dX3_empty_94 : decode cX3_empty 94 = .ok (.iinc 3 1, 3) := by decide +kernel
theorem dX3_empty_97 : decode cX3_empty 97 = .ok (.goto (-72), 3) := by decide +kernel
theorem dX3_empty_100 : decode cX3_empty 100 = .ok (.aload_n 0, 1) := by decide +kernel
theorem dX3_empty_101 : decode cX3_empty 101 = .ok (.iconst 3, 1) := by decide +kernel
theorem dX3_empty_102 : decode cX3_empty 102 = .ok (.invokevirtual 48, 3) := by decide +kernel
theorem dX3_empty_105 : decode cX3_empty 105 = .ok (.ireturn, 1) := by decide +kernel
theorem dX3_blend_0 : decode cX3_blend 0 = .ok (.iload_n 1, 1) := by decide +kernel
theorem dX3_blend_1 : decode cX3_blend 1 = .ok (.aload_n 0, 1) := by decide +kernel
theorem dX3_blend_2 : decode cX3_blend 2 = .ok (.getfield 10, 3) := by decide +kernel
theorem dX3_blend_5 : decode cX3_blend 5 = .ok (.invokevirtual 109, 3) := by decide +kernel
theorem dX3_blend_8 : decode cX3_blend 8 = .ok (.invokestatic 44, 3) := by decide +kernel
theorem dX3_blend_11 : decode cX3_blend 11 = .ok (.ifCond .ne 9, 3) := by decide +kernel
theorem dX3_blend_14 : decode cX3_blend 14 = .ok (.aload_n 0, 1) := by decide +kernel
theorem dX3_blend_15 : decode cX3_blend 15 = .ok (.iconst 0, 1) := by decide +kernel
theorem dX3_blend_16 : decode cX3_blend 16 = .ok (.invokevirtual 48, 3) := by decide +kernel
theorem dX3_blend_19 : decode cX3_blend 19 = .ok (.ireturn, 1) := by decide +kernel
theorem dX3_blend_20 : decode cX3_blend 20 = .ok (.aload_n 0, 1) := by decide +kernel
theorem dX3_blend_21 : decode cX3_blend 21 = .ok (.getfield 10, 3) := by decide +kernel
theorem dX3_blend_24 : decode cX3_blend 24 = .ok (.iload_n 1, 1) := by decide +kernel
theorem dX3_blend_25 : decode cX3_blend 25 = .ok (.invokevirtual 113, 3) := by decide +kernel
theorem dX3_blend_28 : decode cX3_blend 28 = .ok (.ireturn, 1) := by decide +kernel
theorem dX3_order_0 : decode cX3_order 0 = .ok (.iload_n 1, 1) := by decide +kernel
theorem dX3_order_1 : decode cX3_order 1 = .ok (.sipush 9999, 3) := by decide +kernel
theorem dX3_order_4 : decode cX3_order 4 = .ok (.invokestatic 44, 3) := by decide +kernel
theorem dX3_order_7 : decode cX3_order 7 = .ok (.ifCond .ne 9, 3) := by decide +kernel
theorem dX3_order_10 : decode cX3_order 10 = .ok (.aload_n 0, 1) := by decide +kernel
theorem dX3_order_11 : decode cX3_order 11 = .ok (.iconst 0, 1) := by decide +kernel
theorem dX3_order_12 : decode cX3_order 12 = .ok (.invokevirtual 48, 3) := by decide +kernel
theorem dX3_order_15 : decode cX3_order 15 = .ok (.ireturn, 1) := by decide +kernel
theorem dX3_order_16 : decode cX3_order 16 = .ok (.aload_n 0, 1) := by decide +kernel
theorem dX3_order_17 : decode cX3_order 17 = .ok (.getfield 10, 3) := by decide +kernel
theorem dX3_order_20 : decode cX3_order 20 = .ok (.invokevirtual 109, 3) := by decide +kernel
theorem dX3_order_23 : decode cX3_order 23 = .ok (.istore_n 2, 1) := by decide +kernel
theorem dX3_order_24 : decode cX3_order 24 = .ok (.iconst (-1), 1) := by decide +kernel
theorem dX3_order_25 : decode cX3_order 25 = .ok (.istore_n 3, 1) := by decide +kernel
theorem dX3_order_26 : decode cX3_order 26 = .ok (.iconst 0, 1) := by decide +kernel
theorem dX3_order_27 : decode cX3_order 27 = .ok (.istore 4, 2) := by decide +kernel
theorem dX3_order_29 : decode cX3_order 29 = .ok (.iload 4, 2) := by decide +kernel
theorem dX3_order_31 : decode cX3_order 31 = .ok (.iload_n 2, 1) := by decide +kernel
theorem dX3_order_32 : decode cX3_order 32 = .ok (.if_icmp .gt 53, 3) := by decide +kernel
theorem dX3_order_35 : decode cX3_order 35 = .ok (.iload_n 3, 1) := by decide +kernel
theorem dX3_order_36 : decode cX3_order 36 = .ok (.ifCond .lt 15, 3) := by decide +kernel
theorem dX3_order_39 : decode cX3_order 39 = .ok (.iload 4, 2) := by decide +kernel
theorem dX3_order_41 : decode cX3_order 41 = .ok (.invokestatic 145, 3) := by decide +kernel
theorem dX3_order_44 : decode cX3_order 44 = .ok (.iload_n 3, 1) := by decide +kernel
theorem dX3_order_45 : decode cX3_order 45 = .ok (.invokestatic 145, 3) := by decide +kernel
theorem dX3_order_48 : decode cX3_order 48 = .ok (.if_icmp .ge 7, 3) := by decide +kernel
theorem dX3_order_51 : decode cX3_order 51 = .ok (.iconst 1, 1) := by decide +kernel
theorem dX3_order_52 : decode cX3_order 52 = .ok (.goto 4, 3) := by decide +kernel
theorem dX3_order_55 : decode cX3_order 55 = .ok (.iconst 0, 1) := by decide +kernel
theorem dX3_order_56 : decode cX3_order 56 = .ok (.istore 5, 2) := by decide +kernel
theorem dX3_order_58 : decode cX3_order 58 = .ok (.iload 5, 2) := by decide +kernel
theorem dX3_order_60 : decode cX3_order 60 = .ok (.ifCond .eq 19, 3) := by decide +kernel
theorem dX3_order_63 : decode cX3_order 63 = .ok (.aload_n 0, 1) := by decide +kernel
theorem dX3_order_64 : decode cX3_order 64 = .ok (.getfield 10, 3) := by decide +kernel
theorem dX3_order_67 : decode cX3_order 67 = .ok (.iload 4, 2) := by decide +kernel
theorem dX3_order_69 : decode cX3_order 69 = .ok (.invokevirtual 113, 3) := by decide +kernel
theorem dX3_order_72 : decode cX3_order 72 = .ok (.iload_n 1, 1) := by decide +kernel
theorem dX3_order_73 : decode cX3_order 73 = .ok (.if_icmp .ne 6, 3) := by decide +kernel
theorem dX3_order_76 : decode cX3_order 76 = .ok (.iload 4, 2) := by decide +kernel
theorem dX3_order_78 : decode cX3_order 78 = .ok (.istore_n 3, 1) := by decide +kernel
theorem dX3_order_79 : decode cX3_order 79 = .ok (.iinc 4 1, 3) := by decide +kernel
theorem dX3_order_82 : decode cX3_order 82 = .ok (.goto (-53), 3) := by decide +kernel
theorem dX3_order_85 : decode cX3_order 85 = .ok (.iload_n 3, 1) := by decide +kernel
theorem dX3_order_86 : decode cX3_order 86 = .ok (.ifCond .ge 11, 3) := by decide +kernel
theorem dX3_order_89 : decode cX3_order 89 = .ok (.aload_n 0, 1) := by decide +kernel
theorem dX3_order_90 : decode cX3_order 90 = .ok (.iconst 3, 1) := by decide +kernel
theorem dX3_order_91 : decode cX3_order 91 = .ok (.invokevirtual 48, 3) := by decide +kernel
theorem dX3_order_94 : decode cX3_order 94 = .ok (.goto 4, 3) := by decide +kernel
theorem dX3_order_97 : decode cX3_order 97 = .ok (.iload_n 3, 1) := by decide +kernel
theorem dX3_order_98 : decode cX3_order 98 = .ok (.ireturn, 1) := by decide +kernel
theorem dX3_blends_0 : decode cX3_blends 0 = .ok (.iload_n 1, 1) := by decide +kernel
theorem dX3_blends_1 : decode cX3_blends 1 = .ok (.sipush 9999, 3) := by decide +kernel
theorem dX3_blends_4 : decode cX3_blends 4 = .ok (.invokestatic 44, 3) := by decide +kernel
theorem dX3_blends_7 : decode cX3_blends 7 = .ok (.ifCond .eq 13, 3) := by decide +kernel
theorem dX3_blends_10 : decode cX3_blends 10 = .ok (.iload_n 2, 1) := by decide +kernel
theorem dX3_blends_11 : decode cX3_blends 11 = .ok (.sipush 9999, 3) := by decide +kernel
theorem dX3_blends_14 : decode cX3_blends 14 = .ok (.invokestatic 44, 3) := by decide +kernel
theorem dX3_blends_17 : decode cX3_blends 17 = .ok (.ifCond .ne 9, 3) := by decide +kernel
theorem dX3_blends_20 : decode cX3_blends 20 = .ok (.aload_n 0, 1) := by decide +kernel
theorem dX3_blends_21 : decode cX3_blends 21 = .ok (.iconst 0, 1) := by decide +kernel
theorem dX3_blends_22 : decode cX3_blends 22 = .ok (.invokevirtual 48, 3) := by decide +kernel
theorem dX3_blends_25 : decode cX3_blends 25 = .ok (.ireturn, 1) := by decide +kernel
theorem dX3_blends_26 : decode cX3_blends 26 = .ok (.aload_n 0, 1) := by decide +kernel
theorem dX3_blends_27 : decode cX3_blends 27 = .ok (.getfield 10, 3) := by decide +kernel
theorem dX3_blends_30 : decode cX3_blends 30 = .ok (.invokevirtual 109, 3) := by decide +kernel
theorem dX3_blends_33 : decode cX3_blends 33 = .ok (.istore_n 3, 1) := by decide +kernel
theorem dX3_blends_34 : decode cX3_blends 34 = .ok (.iconst 0, 1) := by decide +kernel
theorem dX3_blends_35 : decode cX3_blends 35 = .ok (.istore 4, 2) := by decide +kernel
theorem dX3_blends_37 : decode cX3_blends 37 = .ok (.iconst 0, 1) := by decide +kernel
theorem dX3_blends_38 : decode cX3_blends 38 = .ok (.istore 5, 2) := by decide +kernel
theorem dX3_blends_40 : decode cX3_blends 40 = .ok (.iload 5, 2) := by decide +kernel
theorem dX3_blends_42 : decode cX3_blends 42 = .ok (.iload_n 3, 1) := by decide +kernel
theorem dX3_blends_43 : decode cX3_blends 43 = .ok (.if_icmp .gt 35, 3) := by decide +kernel
theorem dX3_blends_46 : decode cX3_blends 46 = .ok (.aload_n 0, 1) := by decide +kernel
theorem dX3_blends_47 : decode cX3_blends 47 = .ok (.getfield 10, 3) := by decide +kernel
theorem dX3_blends_50 : decode cX3_blends 50 = .ok (.iload 5, 2) := by decide +kernel
theorem dX3_blends_52 : decode cX3_blends 52 = .ok (.invokevirtual 113, 3) := by decide +kernel
theorem dX3_blends_55 : decode cX3_blends 55 = .ok (.istore 6, 2) := by decide +kernel
theorem dX3_blends_57 : decode cX3_blends 57 = .ok (.iload 6, 2) := by decide +kernel
theorem dX3_blends_59 : decode cX3_blends 59 = .ok (.iload_n 1, 1) := by decide +kernel
theorem dX3_blends_60 : decode cX3_blends 60 = .ok (.if_icmp .lt 12, 3) := by decide +kernel
theorem dX3_blends_63 : decode cX3_blends 63 = .ok (.iload 6, 2) := by decide +kernel
theorem dX3_blends_65 : decode cX3_blends 65 = .ok (.iload_n 2, 1) := by decide +kernel
theorem dX3_blends_66 : decode cX3_blends 66 = .ok (.if_icmp .gt 6, 3) := by decide +kernel
theorem dX3_blends_69 : decode cX3_blends 69 = .ok (.iinc 4 1, 3) := by decide +kernel
theorem dX3_blends_72 : decode cX3_blends 72 = .ok (.iinc 5 1, 3) := by decide +kernel
theorem dX3_blends_75 : decode cX3_blends 75 = .ok (.goto (-35), 3) := by decide +kernel
theorem dX3_blends_78 : decode cX3_blends 78 = .ok (.iload 4, 2) := by decide +kernel
theorem dX3_blends_80 : decode cX3_blends 80 = .ok (.ireturn, 1) := by decide +kernel
theorem dX3_fits_0 : decode cX3_fits 0 = .ok (.aload_n 0, 1) := by decide +kernel
theorem dX3_fits_1 : decode cX3_fits 1 = .ok (.iload_n 1, 1) := by decide +kernel
theorem dX3_fits_2 : decode cX3_fits 2 = .ok (.iload_n 2, 1) := by decide +kernel
theorem dX3_fits_3 : decode cX3_fits 3 = .ok (.invokevirtual 153, 3) := by decide +kernel
theorem dX3_fits_6 : decode cX3_fits 6 = .ok (.istore_n 3, 1) := by decide +kernel
theorem dX3_fits_7 : decode cX3_fits 7 = .ok (.iload_n 3, 1) := by decide +kernel
theorem dX3_fits_8 : decode cX3_fits 8 = .ok (.ifCond .lt 9, 3) := by decide +kernel
theorem dX3_fits_11 : decode cX3_fits 11 = .ok (.aload_n 0, 1) := by decide +kernel
theorem dX3_fits_12 : decode cX3_fits 12 = .ok (.iload_n 3, 1) := by decide +kernel
theorem dX3_fits_13 : decode cX3_fits 13 = .ok (.invokevirtual 48, 3) := by decide +kernel
theorem dX3_fits_16 : decode cX3_fits 16 = .ok (.ireturn, 1) := by decide +kernel
theorem dX3_fits_17 : decode cX3_fits 17 = .ok (.iconst 0, 1) := by decide +kernel
theorem dX3_fits_18 : decode cX3_fits 18 = .ok (.istore 4, 2) := by decide +kernel
theorem dX3_fits_20 : decode cX3_fits 20 = .ok (.iconst 0, 1) := by decide +kernel
theorem dX3_fits_21 : decode cX3_fits 21 = .ok (.istore 5, 2) := by decide +kernel
theorem dX3_fits_23 : decode cX3_fits 23 = .ok (.iload 5, 2) := by decide +kernel
theorem dX3_fits_25 : decode cX3_fits 25 = .ok (.bipush 100, 2) := by decide +kernel
theorem dX3_fits_27 : decode cX3_fits 27 = .ok (.if_icmp .gt 23, 3) := by decide +kernel
theorem dX3_fits_30 : decode cX3_fits 30 = .ok (.aload_n 0, 1) := by decide +kernel
theorem dX3_fits_31 : decode cX3_fits 31 = .ok (.iload_n 1, 1) := by decide +kernel
theorem dX3_fits_32 : decode cX3_fits 32 = .ok (.iload_n 2, 1) := by decide +kernel
theorem dX3_fits_33 : decode cX3_fits 33 = .ok (.iload 5, 2) := by decide +kernel
theorem dX3_fits_35 : decode cX3_fits 35 = .ok (.invokevirtual 156, 3) := by decide +kernel
theorem dX3_fits_38 : decode cX3_fits 38 = .ok (.ifCond .eq 6, 3) := by decide +kernel
theorem dX3_fits_41 : decode cX3_fits 41 = .ok (.iinc 4 1, 3) := by decide +kernel
theorem dX3_fits_44 : decode cX3_fits 44 = .ok (.iinc 5 1, 3) := by decide +kernel
theorem dX3_fits_47 : decode cX3_fits 47 = .ok (.goto (-24), 3) := by decide +kernel
theorem dX3_fits_50 : decode cX3_fits 50 = .ok (.iload 4, 2) := by decide +kernel
theorem dX3_fits_52 : decode cX3_fits 52 = .ok (.ireturn, 1) := by decide +kernel
theorem dX3_pealed_0 : decode cX3_pealed 0 = .ok (.aload_n 0, 1) := by decide +kernel
theorem dX3_pealed_1 : decode cX3_pealed 1 = .ok (.iload_n 1, 1) := by decide +kernel
theorem dX3_pealed_2 : decode cX3_pealed 2 = .ok (.iload_n 2, 1) := by decide +kernel
theorem dX3_pealed_3 : decode cX3_pealed 3 = .ok (.invokevirtual 153, 3) := by decide +kernel
theorem dX3_pealed_6 : decode cX3_pealed 6 = .ok (.istore_n 3, 1) := by decide +kernel
theorem dX3_pealed_7 : decode cX3_pealed 7 = .ok (.iload_n 3, 1) := by decide +kernel
theorem dX3_pealed_8 : decode cX3_pealed 8 = .ok (.ifCond .lt 9, 3) := by decide +kernel
theorem dX3_pealed_11 : decode cX3_pealed 11 = .ok (.aload_n 0, 1) := by decide +kernel
theorem dX3_pealed_12 : decode cX3_pealed 12 = .ok (.iload_n 3, 1) := by decide +kernel
theorem dX3_pealed_13 : decode cX3_pealed 13 = .ok (.invokevirtual 48, 3) := by decide +kernel
theorem dX3_pealed_16 : decode cX3_pealed 16 = .ok (.ireturn, 1) := by decide +kernel
theorem dX3_pealed_17 : decode cX3_pealed 17 = .ok (.iconst 0, 1) := by decide +kernel
theorem dX3_pealed_18 : decode cX3_pealed 18 = .ok (.istore 4, 2) := by decide +kernel
theorem dX3_pealed_20 : decode cX3_pealed 20 = .ok (.iload 4, 2) := by decide +kernel
theorem dX3_pealed_22 : decode cX3_pealed 22 = .ok (.bipush 100, 2) := by decide +kernel
theorem dX3_pealed_24 : decode cX3_pealed 24 = .ok (.if_icmp .gt 23, 3) := by decide +kernel
theorem dX3_pealed_27 : decode cX3_pealed 27 = .ok (.aload_n 0, 1) := by decide +kernel
theorem dX3_pealed_28 : decode cX3_pealed 28 = .ok (.iload_n 1, 1) := by decide +kernel
theorem dX3_pealed_29 : decode cX3_pealed 29 = .ok (.iload_n 2, 1) := by decide +kernel
theorem dX3_pealed_30 : decode cX3_pealed 30 = .ok (.iload 4, 2) := by decide +kernel
theorem dX3_pealed_32 : decode cX3_pealed 32 = .ok (.invokevirtual 156, 3) := by decide +kernel
theorem dX3_pealed_35 : decode cX3_pealed 35 = .ok (.ifCond .eq 6, 3) := by decide +kernel
theorem dX3_pealed_38 : decode cX3_pealed 38 = .ok (.iload 4, 2) := by decide +kernel
theorem dX3_pealed_40 : decode cX3_pealed 40 = .ok (.ireturn, 1) := by decide +kernel
theorem dX3_pealed_41 : decode cX3_pealed 41 = .ok (.iinc 4 1, 3) := by decide +kernel
theorem dX3_pealed_44 : decode cX3_pealed 44 = .ok (.goto (-24), 3) := by decide +kernel
theorem dX3_pealed_47 : decode cX3_pealed 47 = .ok (.aload_n 0, 1) := by decide +kernel
theorem dX3_pealed_48 : decode cX3_pealed 48 = .ok (.iconst 3, 1) := by decide +kernel
theorem dX3_pealed_49 : decode cX3_pealed 49 = .ok (.invokevirtual 48, 3) := by decide +kernel
theorem dX3_pealed_52 : decode cX3_pealed 52 = .ok (.ireturn, 1) := by decide +kernel
theorem dX3_kinds_0 : decode cX3_kinds 0 = .ok (.aload_n 0, 1) := by decide +kernel
theorem dX3_kinds_1 : decode cX3_kinds 1 = .ok (.iload_n 1, 1) := by decide +kernel
theorem dX3_kinds_2 : decode cX3_kinds 2 = .ok (.iload_n 2, 1) := by decide +kernel
theorem dX3_kinds_3 : decode cX3_kinds 3 = .ok (.invokevirtual 153, 3) := by decide +kernel
theorem dX3_kinds_6 : decode cX3_kinds 6 = .ok (.istore_n 3, 1) := by decide +kernel
theorem dX3_kinds_7 : decode cX3_kinds 7 = .ok (.iload_n 3, 1) := by decide +kernel
theorem dX3_kinds_8 : decode cX3_kinds 8 = .ok (.ifCond .lt 9, 3) := by decide +kernel
theorem dX3_kinds_11 : decode cX3_kinds 11 = .ok (.aload_n 0, 1) := by decide +kernel
theorem dX3_kinds_12 : decode cX3_kinds 12 = .ok (.iload_n 3, 1) := by decide +kernel
theorem dX3_kinds_13 : decode cX3_kinds 13 = .ok (.invokevirtual 48, 3) := by decide +kernel
theorem dX3_kinds_16 : decode cX3_kinds 16 = .ok (.ireturn, 1) := by decide +kernel
theorem dX3_kinds_17 : decode cX3_kinds 17 = .ok (.iconst 0, 1) := by decide +kernel
theorem dX3_kinds_18 : decode cX3_kinds 18 = .ok (.istore 4, 2) := by decide +kernel
theorem dX3_kinds_20 : decode cX3_kinds 20 = .ok (.iconst 0, 1) := by decide +kernel
theorem dX3_kinds_21 : decode cX3_kinds 21 = .ok (.istore 5, 2) := by decide +kernel
theorem dX3_kinds_23 : decode cX3_kinds 23 = .ok (.iload 5, 2) := by decide +kernel
theorem dX3_kinds_25 : decode cX3_kinds 25 = .ok (.bipush 7, 2) := by decide +kernel
theorem dX3_kinds_27 : decode cX3_kinds 27 = .ok (.if_icmp .ge 29, 3) := by decide +kernel
theorem dX3_kinds_30 : decode cX3_kinds 30 = .ok (.aload_n 0, 1) := by decide +kernel
theorem dX3_kinds_31 : decode cX3_kinds 31 = .ok (.iload_n 1, 1) := by decide +kernel
theorem dX3_kinds_32 : decode cX3_kinds 32 = .ok (.iload_n 2, 1) := by decide +kernel
theorem dX3_kinds_33 : decode cX3_kinds 33 = .ok (.iload 5, 2) := by decide +kernel
theorem dX3_kinds_35 : decode cX3_kinds 35 = .ok (.invokevirtual 160, 3) := by decide +kernel
theorem dX3_kinds_38 : decode cX3_kinds 38 = .ok (.ifCond .eq 12, 3) := by decide +kernel
theorem dX3_kinds_41 : decode cX3_kinds 41 = .ok (.iload 4, 2) := by decide +kernel
theorem dX3_kinds_43 : decode cX3_kinds 43 = .ok (.iconst 1, 1) := by decide +kernel
theorem dX3_kinds_44 : decode cX3_kinds 44 = .ok (.iload 5, 2) := by decide +kernel
theorem dX3_kinds_46 : decode cX3_kinds 46 = .ok (.ishl, 1) := by decide +kernel
theorem dX3_kinds_47 : decode cX3_kinds 47 = .ok (.ior, 1) := by decide +kernel
theorem dX3_kinds_48 : decode cX3_kinds 48 = .ok (.istore 4, 2) := by decide +kernel
theorem dX3_kinds_50 : decode cX3_kinds 50 = .ok (.iinc 5 1, 3) := by decide +kernel
theorem dX3_kinds_53 : decode cX3_kinds 53 = .ok (.goto (-30), 3) := by decide +kernel
theorem dX3_kinds_56 : decode cX3_kinds 56 = .ok (.iload 4, 2) := by decide +kernel
theorem dX3_kinds_58 : decode cX3_kinds 58 = .ok (.ireturn, 1) := by decide +kernel
theorem dX3_storms_0 : decode cX3_storms 0 = .ok (.iload_n 1, 1) := by decide +kernel
theorem dX3_storms_1 : decode cX3_storms 1 = .ok (.iconst 1, 1) := by decide +kernel
theorem dX3_storms_2 : decode cX3_storms 2 = .ok (.if_icmp .lt 9, 3) := by decide +kernel
theorem dX3_storms_5 : decode cX3_storms 5 = .ok (.iload_n 1, 1) := by decide +kernel
theorem dX3_storms_6 : decode cX3_storms 6 = .ok (.bipush 20, 2) := by decide +kernel
theorem dX3_storms_8 : decode cX3_storms 8 = .ok (.if_icmp .le 9, 3) := by decide +kernel
theorem dX3_storms_11 : decode cX3_storms 11 = .ok (.aload_n 0, 1) := by decide +kernel
theorem dX3_storms_12 : decode cX3_storms 12 = .ok (.iconst 0, 1) := by decide +kernel
theorem dX3_storms_13 : decode cX3_storms 13 = .ok (.invokevirtual 48, 3) := by decide +kernel
theorem dX3_storms_16 : decode cX3_storms 16 = .ok (.ireturn, 1) := by decide +kernel
theorem dX3_storms_17 : decode cX3_storms 17 = .ok (.aload_n 0, 1) := by decide +kernel
theorem dX3_storms_18 : decode cX3_storms 18 = .ok (.getfield 10, 3) := by decide +kernel
theorem dX3_storms_21 : decode cX3_storms 21 = .ok (.getfield 96, 3) := by decide +kernel
theorem dX3_storms_24 : decode cX3_storms 24 = .ok (.iload_n 1, 1) := by decide +kernel
theorem dX3_storms_25 : decode cX3_storms 25 = .ok (.iadd, 1) := by decide +kernel
theorem dX3_storms_26 : decode cX3_storms 26 = .ok (.ldc 99, 2) := by decide +kernel
theorem dX3_storms_28 : decode cX3_storms 28 = .ok (.if_icmp .le 9, 3) := by decide +kernel
theorem dX3_storms_31 : decode cX3_storms 31 = .ok (.aload_n 0, 1) := by decide +kernel
theorem dX3_storms_32 : decode cX3_storms 32 = .ok (.iconst 4, 1) := by decide +kernel
theorem dX3_storms_33 : decode cX3_storms 33 = .ok (.invokevirtual 48, 3) := by decide +kernel
theorem dX3_storms_36 : decode cX3_storms 36 = .ok (.ireturn, 1) := by decide +kernel
theorem dX3_storms_37 : decode cX3_storms 37 = .ok (.iconst 0, 1) := by decide +kernel
theorem dX3_storms_38 : decode cX3_storms 38 = .ok (.istore_n 2, 1) := by decide +kernel
theorem dX3_storms_39 : decode cX3_storms 39 = .ok (.iload_n 2, 1) := by decide +kernel
theorem dX3_storms_40 : decode cX3_storms 40 = .ok (.iload_n 1, 1) := by decide +kernel
theorem dX3_storms_41 : decode cX3_storms 41 = .ok (.if_icmp .ge 47, 3) := by decide +kernel
theorem dX3_storms_44 : decode cX3_storms 44 = .ok (.aload_n 0, 1) := by decide +kernel
theorem dX3_storms_45 : decode cX3_storms 45 = .ok (.getfield 10, 3) := by decide +kernel
theorem dX3_storms_48 : decode cX3_storms 48 = .ok (.invokevirtual 163, 3) := by decide +kernel
theorem dX3_storms_51 : decode cX3_storms 51 = .ok (.bipush 6, 2) := by decide +kernel
theorem dX3_storms_53 : decode cX3_storms 53 = .ok (.irem, 1) := by decide +kernel
theorem dX3_storms_54 : decode cX3_storms 54 = .ok (.istore_n 3, 1) := by decide +kernel
theorem dX3_storms_55 : decode cX3_storms 55 = .ok (.aload_n 0, 1) := by decide +kernel
theorem dX3_storms_56 : decode cX3_storms 56 = .ok (.getfield 10, 3) := by decide +kernel
theorem dX3_storms_59 : decode cX3_storms 59 = .ok (.getfield 55, 3) := by decide +kernel
theorem dX3_storms_62 : decode cX3_storms 62 = .ok (.iload_n 3, 1) := by decide +kernel
theorem dX3_storms_63 : decode cX3_storms 63 = .ok (.aload_n 0, 1) := by decide +kernel
theorem dX3_storms_64 : decode cX3_storms 64 = .ok (.getfield 10, 3) := by decide +kernel
theorem dX3_storms_67 : decode cX3_storms 67 = .ok (.invokevirtual 163, 3) := by decide +kernel
theorem dX3_storms_70 : decode cX3_storms 70 = .ok (.bipush 100, 2) := by decide +kernel
theorem dX3_storms_72 : decode cX3_storms 72 = .ok (.irem, 1) := by decide +kernel
theorem dX3_storms_73 : decode cX3_storms 73 = .ok (.iastore, 1) := by decide +kernel
theorem dX3_storms_74 : decode cX3_storms 74 = .ok (.aload_n 0, 1) := by decide +kernel
theorem dX3_storms_75 : decode cX3_storms 75 = .ok (.getfield 10, 3) := by decide +kernel
theorem dX3_storms_78 : decode cX3_storms 78 = .ok (.iconst 1, 1) := by decide +kernel
theorem dX3_storms_79 : decode cX3_storms 79 = .ok (.invokevirtual 100, 3) := by decide +kernel
theorem dX3_storms_82 : decode cX3_storms 82 = .ok (.iinc 2 1, 3) := by decide +kernel
theorem dX3_storms_85 : decode cX3_storms 85 = .ok (.goto (-46), 3) := by decide +kernel
theorem dX3_storms_88 : decode cX3_storms 88 = .ok (.aload_n 0, 1) := by decide +kernel
theorem dX3_storms_89 : decode cX3_storms 89 = .ok (.getfield 10, 3) := by decide +kernel
theorem dX3_storms_92 : decode cX3_storms 92 = .ok (.getfield 103, 3) := by decide +kernel
theorem dX3_storms_95 : decode cX3_storms 95 = .ok (.ireturn, 1) := by decide +kernel
theorem dX3_odds_0 : decode cX3_odds 0 = .ok (.iload_n 1, 1) := by decide +kernel
theorem dX3_odds_1 : decode cX3_odds 1 = .ok (.bipush 23, 2) := by decide +kernel
theorem dX3_odds_3 : decode cX3_odds 3 = .ok (.invokestatic 44, 3) := by decide +kernel
theorem dX3_odds_6 : decode cX3_odds 6 = .ok (.ifCond .eq 11, 3) := by decide +kernel
theorem dX3_odds_9 : decode cX3_odds 9 = .ok (.iload_n 2, 1) := by decide +kernel
theorem dX3_odds_10 : decode cX3_odds 10 = .ok (.iconst 1, 1) := by decide +kernel
theorem dX3_odds_11 : decode cX3_odds 11 = .ok (.invokestatic 44, 3) := by decide +kernel
theorem dX3_odds_14 : decode cX3_odds 14 = .ok (.ifCond .ne 10, 3) := by decide +kernel
theorem dX3_odds_17 : decode cX3_odds 17 = .ok (.aload_n 0, 1) := by decide +kernel
theorem dX3_odds_18 : decode cX3_odds 18 = .ok (.iconst 0, 1) := by decide +kernel
theorem dX3_odds_19 : decode cX3_odds 19 = .ok (.invokevirtual 48, 3) := by decide +kernel
theorem dX3_odds_22 : decode cX3_odds 22 = .ok (.i2l, 1) := by decide +kernel
theorem dX3_odds_23 : decode cX3_odds 23 = .ok (.lreturn, 1) := by decide +kernel
theorem dX3_odds_24 : decode cX3_odds 24 = .ok (.bipush 6, 2) := by decide +kernel
theorem dX3_odds_26 : decode cX3_odds 26 = .ok (.aload_n 0, 1) := by decide +kernel
theorem dX3_odds_27 : decode cX3_odds 27 = .ok (.getfield 10, 3) := by decide +kernel
theorem dX3_odds_30 : decode cX3_odds 30 = .ok (.invokevirtual 122, 3) := by decide +kernel
theorem dX3_odds_33 : decode cX3_odds 33 = .ok (.invokestatic 145, 3) := by decide +kernel
theorem dX3_odds_36 : decode cX3_odds 36 = .ok (.isub, 1) := by decide +kernel
theorem dX3_odds_37 : decode cX3_odds 37 = .ok (.istore_n 3, 1) := by decide +kernel
theorem dX3_odds_38 : decode cX3_odds 38 = .ok (.iload_n 3, 1) := by decide +kernel
theorem dX3_odds_39 : decode cX3_odds 39 = .ok (.bipush 6, 2) := by decide +kernel
theorem dX3_odds_41 : decode cX3_odds 41 = .ok (.iload_n 2, 1) := by decide +kernel
theorem dX3_odds_42 : decode cX3_odds 42 = .ok (.invokestatic 166, 3) := by decide +kernel
theorem dX3_odds_45 : decode cX3_odds 45 = .ok (.istore 4, 2) := by decide +kernel
theorem dX3_odds_47 : decode cX3_odds 47 = .ok (.lconst 1, 1) := by decide +kernel
theorem dX3_odds_48 : decode cX3_odds 48 = .ok (.lstore 5, 2) := by decide +kernel
theorem dX3_odds_50 : decode cX3_odds 50 = .ok (.iconst 0, 1) := by decide +kernel
theorem dX3_odds_51 : decode cX3_odds 51 = .ok (.istore 7, 2) := by decide +kernel
theorem dX3_odds_53 : decode cX3_odds 53 = .ok (.iload 7, 2) := by decide +kernel
theorem dX3_odds_55 : decode cX3_odds 55 = .ok (.iload_n 1, 1) := by decide +kernel
theorem dX3_odds_56 : decode cX3_odds 56 = .ok (.if_icmp .ge 17, 3) := by decide +kernel
theorem dX3_odds_59 : decode cX3_odds 59 = .ok (.lload 5, 2) := by decide +kernel
theorem dX3_odds_61 : decode cX3_odds 61 = .ok (.iload 4, 2) := by decide +kernel
theorem dX3_odds_63 : decode cX3_odds 63 = .ok (.i2l, 1) := by decide +kernel
theorem dX3_odds_64 : decode cX3_odds 64 = .ok (.lmul, 1) := by decide +kernel
theorem dX3_odds_65 : decode cX3_odds 65 = .ok (.lstore 5, 2) := by decide +kernel
theorem dX3_odds_67 : decode cX3_odds 67 = .ok (.iinc 7 1, 3) := by decide +kernel
theorem dX3_odds_70 : decode cX3_odds 70 = .ok (.goto (-17), 3) := by decide +kernel
theorem dX3_odds_73 : decode cX3_odds 73 = .ok (.lload 5, 2) := by decide +kernel
theorem dX3_odds_75 : decode cX3_odds 75 = .ok (.lreturn, 1) := by decide +kernel
theorem dX3_seed_0 : decode cX3_seed 0 = .ok (.aload_n 0, 1) := by decide +kernel
theorem dX3_seed_1 : decode cX3_seed 1 = .ok (.getfield 10, 3) := by decide +kernel
theorem dX3_seed_4 : decode cX3_seed 4 = .ok (.getfield 169, 3) := by decide +kernel
theorem dX3_seed_7 : decode cX3_seed 7 = .ok (.istore_n 2, 1) := by decide +kernel
theorem dX3_seed_8 : decode cX3_seed 8 = .ok (.aload_n 0, 1) := by decide +kernel
theorem dX3_seed_9 : decode cX3_seed 9 = .ok (.getfield 10, 3) := by decide +kernel
theorem dX3_seed_12 : decode cX3_seed 12 = .ok (.iload_n 1, 1) := by decide +kernel
theorem dX3_seed_13 : decode cX3_seed 13 = .ok (.putfield 169, 3) := by decide +kernel
theorem dX3_seed_16 : decode cX3_seed 16 = .ok (.iload_n 2, 1) := by decide +kernel
theorem dX3_seed_17 : decode cX3_seed 17 = .ok (.ireturn, 1) := by decide +kernel
theorem dX3_feed_0 : decode cX3_feed 0 = .ok (.iload_n 2, 1) := by decide +kernel
theorem dX3_feed_1 : decode cX3_feed 1 = .ok (.iconst 1, 1) := by decide +kernel
theorem dX3_feed_2 : decode cX3_feed 2 = .ok (.if_icmp .lt 8, 3) := by decide +kernel
theorem dX3_feed_5 : decode cX3_feed 5 = .ok (.iload_n 2, 1) := by decide +kernel
theorem dX3_feed_6 : decode cX3_feed 6 = .ok (.iconst 4, 1) := by decide +kernel
theorem dX3_feed_7 : decode cX3_feed 7 = .ok (.if_icmp .le 9, 3) := by decide +kernel
theorem dX3_feed_10 : decode cX3_feed 10 = .ok (.aload_n 0, 1) := by decide +kernel
theorem dX3_feed_11 : decode cX3_feed 11 = .ok (.iconst 0, 1) := by decide +kernel
theorem dX3_feed_12 : decode cX3_feed 12 = .ok (.invokevirtual 48, 3) := by decide +kernel
theorem dX3_feed_15 : decode cX3_feed 15 = .ok (.ireturn, 1) := by decide +kernel
theorem dX3_feed_16 : decode cX3_feed 16 = .ok (.aload_n 0, 1) := by decide +kernel
theorem dX3_feed_17 : decode cX3_feed 17 = .ok (.getfield 29, 3) := by decide +kernel
theorem dX3_feed_20 : decode cX3_feed 20 = .ok (.getfield 172, 3) := by decide +kernel
theorem dX3_feed_23 : decode cX3_feed 23 = .ok (.iload_n 2, 1) := by decide +kernel
theorem dX3_feed_24 : decode cX3_feed 24 = .ok (.iadd, 1) := by decide +kernel
theorem dX3_feed_25 : decode cX3_feed 25 = .ok (.bipush 120, 2) := by decide +kernel
theorem dX3_feed_27 : decode cX3_feed 27 = .ok (.if_icmp .le 9, 3) := by decide +kernel
theorem dX3_feed_30 : decode cX3_feed 30 = .ok (.aload_n 0, 1) := by decide +kernel
theorem dX3_feed_31 : decode cX3_feed 31 = .ok (.iconst 1, 1) := by decide +kernel
theorem dX3_feed_32 : decode cX3_feed 32 = .ok (.invokevirtual 48, 3) := by decide +kernel
theorem dX3_feed_35 : decode cX3_feed 35 = .ok (.ireturn, 1) := by decide +kernel
theorem dX3_feed_36 : decode cX3_feed 36 = .ok (.iload_n 2, 1) := by decide +kernel
theorem dX3_feed_37 : decode cX3_feed 37 = .ok (.iconst 1, 1) := by decide +kernel
theorem dX3_feed_38 : decode cX3_feed 38 = .ok (.isub, 1) := by decide +kernel
theorem dX3_feed_39 : decode cX3_feed 39 = .ok (.istore_n 3, 1) := by decide +kernel
theorem dX3_feed_40 : decode cX3_feed 40 = .ok (.iload_n 3, 1) := by decide +kernel
theorem dX3_feed_41 : decode cX3_feed 41 = .ok (.ifCond .lt 26, 3) := by decide +kernel
theorem dX3_feed_44 : decode cX3_feed 44 = .ok (.aload_n 0, 1) := by decide +kernel
theorem dX3_feed_45 : decode cX3_feed 45 = .ok (.getfield 29, 3) := by decide +kernel
theorem dX3_feed_48 : decode cX3_feed 48 = .ok (.iload_n 1, 1) := by decide +kernel
theorem dX3_feed_49 : decode cX3_feed 49 = .ok (.bipush 8, 2) := by decide +kernel
theorem dX3_feed_51 : decode cX3_feed 51 = .ok (.iload_n 3, 1) := by decide +kernel
theorem dX3_feed_52 : decode cX3_feed 52 = .ok (.imul, 1) := by decide +kernel
theorem dX3_feed_53 : decode cX3_feed 53 = .ok (.iushr, 1) := by decide +kernel
theorem dX3_feed_54 : decode cX3_feed 54 = .ok (.sipush 255, 3) := by decide +kernel
theorem dX3_feed_57 : decode cX3_feed 57 = .ok (.iand, 1) := by decide +kernel
theorem dX3_feed_58 : decode cX3_feed 58 = .ok (.invokevirtual 175, 3) := by decide +kernel
theorem dX3_feed_61 : decode cX3_feed 61 = .ok (.iinc 3 (-1), 3) := by decide +kernel
theorem dX3_feed_64 : decode cX3_feed 64 = .ok (.goto (-24), 3) := by decide +kernel
theorem dX3_feed_67 : decode cX3_feed 67 = .ok (.aload_n 0, 1) := by decide +kernel
theorem dX3_feed_68 : decode cX3_feed 68 = .ok (.getfield 29, 3) := by decide +kernel
theorem dX3_feed_71 : decode cX3_feed 71 = .ok (.getfield 172, 3) := by decide +kernel
theorem dX3_feed_74 : decode cX3_feed 74 = .ok (.ireturn, 1) := by decide +kernel
theorem dX3_wipe_0 : decode cX3_wipe 0 = .ok (.aload_n 0, 1) := by decide +kernel
theorem dX3_wipe_1 : decode cX3_wipe 1 = .ok (.getfield 29, 3) := by decide +kernel
theorem dX3_wipe_4 : decode cX3_wipe 4 = .ok (.getfield 172, 3) := by decide +kernel
theorem dX3_wipe_7 : decode cX3_wipe 7 = .ok (.istore_n 1, 1) := by decide +kernel
theorem dX3_wipe_8 : decode cX3_wipe 8 = .ok (.aload_n 0, 1) := by decide +kernel
theorem dX3_wipe_9 : decode cX3_wipe 9 = .ok (.getfield 29, 3) := by decide +kernel
theorem dX3_wipe_12 : decode cX3_wipe 12 = .ok (.iconst 0, 1) := by decide +kernel
theorem dX3_wipe_13 : decode cX3_wipe 13 = .ok (.putfield 172, 3) := by decide +kernel
theorem dX3_wipe_16 : decode cX3_wipe 16 = .ok (.iload_n 1, 1) := by decide +kernel
theorem dX3_wipe_17 : decode cX3_wipe 17 = .ok (.ireturn, 1) := by decide +kernel
theorem dX3_text_0 : decode cX3_text 0 = .ok (.aload_n 0, 1) := by decide +kernel
theorem dX3_text_1 : decode cX3_text 1 = .ok (.getfield 16, 3) := by decide +kernel
theorem dX3_text_4 : decode cX3_text 4 = .ok (.aload_n 0, 1) := by decide +kernel
theorem dX3_text_5 : decode cX3_text 5 = .ok (.getfield 10, 3) := by decide +kernel
theorem dX3_text_8 : decode cX3_text 8 = .ok (.invokevirtual 125, 3) := by decide +kernel
theorem dX3_text_11 : decode cX3_text 11 = .ok (.aload_n 0, 1) := by decide +kernel
theorem dX3_text_12 : decode cX3_text 12 = .ok (.getfield 29, 3) := by decide +kernel
theorem dX3_text_15 : decode cX3_text 15 = .ok (.aload_n 0, 1) := by decide +kernel
theorem dX3_text_16 : decode cX3_text 16 = .ok (.getfield 16, 3) := by decide +kernel
theorem dX3_text_19 : decode cX3_text 19 = .ok (.invokevirtual 178, 3) := by decide +kernel
theorem dX3_text_22 : decode cX3_text 22 = .ok (.istore_n 1, 1) := by decide +kernel
theorem dX3_text_23 : decode cX3_text 23 = .ok (.aload_n 0, 1) := by decide +kernel
theorem dX3_text_24 : decode cX3_text 24 = .ok (.getfield 29, 3) := by decide +kernel
theorem dX3_text_27 : decode cX3_text 27 = .ok (.iconst 0, 1) := by decide +kernel
theorem dX3_text_28 : decode cX3_text 28 = .ok (.putfield 172, 3) := by decide +kernel
theorem dX3_text_31 : decode cX3_text 31 = .ok (.iload_n 1, 1) := by decide +kernel
theorem dX3_text_32 : decode cX3_text 32 = .ok (.ifCond .lt 14, 3) := by decide +kernel
theorem dX3_text_35 : decode cX3_text 35 = .ok (.aload_n 0, 1) := by decide +kernel
theorem dX3_text_36 : decode cX3_text 36 = .ok (.getfield 10, 3) := by decide +kernel
theorem dX3_text_39 : decode cX3_text 39 = .ok (.aload_n 0, 1) := by decide +kernel
theorem dX3_text_40 : decode cX3_text 40 = .ok (.getfield 16, 3) := by decide +kernel
theorem dX3_text_43 : decode cX3_text 43 = .ok (.invokevirtual 125, 3) := by decide +kernel
theorem dX3_text_46 : decode cX3_text 46 = .ok (.iload_n 1, 1) := by decide +kernel
theorem dX3_text_47 : decode cX3_text 47 = .ok (.ireturn, 1) := by decide +kernel
theorem dX3_hold_0 : decode cX3_hold 0 = .ok (.iload_n 1, 1) := by decide +kernel
theorem dX3_hold_1 : decode cX3_hold 1 = .ok (.bipush 9, 2) := by decide +kernel
theorem dX3_hold_3 : decode cX3_hold 3 = .ok (.invokestatic 44, 3) := by decide +kernel
theorem dX3_hold_6 : decode cX3_hold 6 = .ok (.ifCond .eq 16, 3) := by decide +kernel
theorem dX3_hold_9 : decode cX3_hold 9 = .ok (.iload_n 2, 1) := by decide +kernel
theorem dX3_hold_10 : decode cX3_hold 10 = .ok (.iconst (-1), 1) := by decide +kernel
theorem dX3_hold_11 : decode cX3_hold 11 = .ok (.if_icmp .eq 17, 3) := by decide +kernel
theorem dX3_hold_14 : decode cX3_hold 14 = .ok (.aload_n 0, 1) := by decide +kernel
theorem dX3_hold_15 : decode cX3_hold 15 = .ok (.iload_n 2, 1) := by decide +kernel
theorem dX3_hold_16 : decode cX3_hold 16 = .ok (.invokevirtual 72, 3) := by decide +kernel
theorem dX3_hold_19 : decode cX3_hold 19 = .ok (.ifCond .ne 9, 3) := by decide +kernel
theorem dX3_hold_22 : decode cX3_hold 22 = .ok (.aload_n 0, 1) := by decide +kernel
theorem dX3_hold_23 : decode cX3_hold 23 = .ok (.iconst 0, 1) := by decide +kernel
theorem dX3_hold_24 : decode cX3_hold 24 = .ok (.invokevirtual 48, 3) := by decide +kernel
theorem dX3_hold_27 : decode cX3_hold 27 = .ok (.ireturn, 1) := by decide +kernel
theorem dX3_hold_28 : decode cX3_hold 28 = .ok (.aload_n 0, 1) := by decide +kernel
theorem dX3_hold_29 : decode cX3_hold 29 = .ok (.getfield 10, 3) := by decide +kernel
theorem dX3_hold_32 : decode cX3_hold 32 = .ok (.getfield 182, 3) := by decide +kernel
theorem dX3_hold_35 : decode cX3_hold 35 = .ok (.iload_n 1, 1) := by decide +kernel
theorem dX3_hold_36 : decode cX3_hold 36 = .ok (.iload_n 2, 1) := by decide +kernel
theorem dX3_hold_37 : decode cX3_hold 37 = .ok (.iastore, 1) := by decide +kernel
theorem dX3_hold_38 : decode cX3_hold 38 = .ok (.iconst 1, 1) := by decide +kernel
theorem dX3_hold_39 : decode cX3_hold 39 = .ok (.ireturn, 1) := by decide +kernel
theorem dX3_as_0 : decode cX3_as 0 = .ok (.iload_n 1, 1) := by decide +kernel
theorem dX3_as_1 : decode cX3_as 1 = .ok (.bipush 9, 2) := by decide +kernel
theorem dX3_as_3 : decode cX3_as 3 = .ok (.invokestatic 44, 3) := by decide +kernel
theorem dX3_as_6 : decode cX3_as 6 = .ok (.ifCond .eq 12, 3) := by decide +kernel
theorem dX3_as_9 : decode cX3_as 9 = .ok (.iload_n 2, 1) := by decide +kernel
theorem dX3_as_10 : decode cX3_as 10 = .ok (.bipush 6, 2) := by decide +kernel
theorem dX3_as_12 : decode cX3_as 12 = .ok (.invokestatic 44, 3) := by decide +kernel
theorem dX3_as_15 : decode cX3_as 15 = .ok (.ifCond .ne 9, 3) := by decide +kernel
theorem dX3_as_18 : decode cX3_as 18 = .ok (.aload_n 0, 1) := by decide +kernel
theorem dX3_as_19 : decode cX3_as 19 = .ok (.iconst 0, 1) := by decide +kernel
theorem dX3_as_20 : decode cX3_as 20 = .ok (.invokevirtual 48, 3) := by decide +kernel
theorem dX3_as_23 : decode cX3_as 23 = .ok (.ireturn, 1) := by decide +kernel
theorem dX3_as_24 : decode cX3_as 24 = .ok (.aload_n 0, 1) := by decide +kernel
theorem dX3_as_25 : decode cX3_as 25 = .ok (.getfield 10, 3) := by decide +kernel
theorem dX3_as_28 : decode cX3_as 28 = .ok (.getfield 182, 3) := by decide +kernel
theorem dX3_as_31 : decode cX3_as 31 = .ok (.iload_n 1, 1) := by decide +kernel
theorem dX3_as_32 : decode cX3_as 32 = .ok (.iaload, 1) := by decide +kernel
theorem dX3_as_33 : decode cX3_as 33 = .ok (.istore_n 3, 1) := by decide +kernel
theorem dX3_as_34 : decode cX3_as 34 = .ok (.aload_n 0, 1) := by decide +kernel
theorem dX3_as_35 : decode cX3_as 35 = .ok (.iload_n 3, 1) := by decide +kernel
theorem dX3_as_36 : decode cX3_as 36 = .ok (.invokevirtual 72, 3) := by decide +kernel
theorem dX3_as_39 : decode cX3_as 39 = .ok (.ifCond .ne 9, 3) := by decide +kernel
theorem dX3_as_42 : decode cX3_as 42 = .ok (.aload_n 0, 1) := by decide +kernel
theorem dX3_as_43 : decode cX3_as 43 = .ok (.iconst 5, 1) := by decide +kernel
theorem dX3_as_44 : decode cX3_as 44 = .ok (.invokevirtual 48, 3) := by decide +kernel
theorem dX3_as_47 : decode cX3_as 47 = .ok (.ireturn, 1) := by decide +kernel
theorem dX3_as_48 : decode cX3_as 48 = .ok (.aload_n 0, 1) := by decide +kernel
theorem dX3_as_49 : decode cX3_as 49 = .ok (.getfield 10, 3) := by decide +kernel
theorem dX3_as_52 : decode cX3_as 52 = .ok (.getfield 185, 3) := by decide +kernel
theorem dX3_as_55 : decode cX3_as 55 = .ok (.iload_n 3, 1) := by decide +kernel
theorem dX3_as_56 : decode cX3_as 56 = .ok (.iaload, 1) := by decide +kernel
theorem dX3_as_57 : decode cX3_as 57 = .ok (.iload_n 2, 1) := by decide +kernel
theorem dX3_as_58 : decode cX3_as 58 = .ok (.invokestatic 188, 3) := by decide +kernel
theorem dX3_as_61 : decode cX3_as 61 = .ok (.ifCond .ne 9, 3) := by decide +kernel
theorem dX3_as_64 : decode cX3_as 64 = .ok (.aload_n 0, 1) := by decide +kernel
theorem dX3_as_65 : decode cX3_as 65 = .ok (.iconst 2, 1) := by decide +kernel
theorem dX3_as_66 : decode cX3_as 66 = .ok (.invokevirtual 48, 3) := by decide +kernel
theorem dX3_as_69 : decode cX3_as 69 = .ok (.ireturn, 1) := by decide +kernel
theorem dX3_as_70 : decode cX3_as 70 = .ok (.iload_n 3, 1) := by decide +kernel
theorem dX3_as_71 : decode cX3_as 71 = .ok (.ireturn, 1) := by decide +kernel
theorem dX3_sheet_0 : decode cX3_sheet 0 = .ok (.iload_n 2, 1) := by decide +kernel
theorem dX3_sheet_1 : decode cX3_sheet 1 = .ok (.ifCond .eq 21, 3) := by decide +kernel
theorem dX3_sheet_4 : decode cX3_sheet 4 = .ok (.iload_n 2, 1) := by decide +kernel
theorem dX3_sheet_5 : decode cX3_sheet 5 = .ok (.bipush 8, 2) := by decide +kernel
theorem dX3_sheet_7 : decode cX3_sheet 7 = .ok (.if_icmp .eq 15, 3) := by decide +kernel
theorem dX3_sheet_10 : decode cX3_sheet 10 = .ok (.iload_n 2, 1) := by decide +kernel
theorem dX3_sheet_11 : decode cX3_sheet 11 = .ok (.bipush 16, 2) := by decide +kernel
theorem dX3_sheet_13 : decode cX3_sheet 13 = .ok (.if_icmp .eq 9, 3) := by decide +kernel
theorem dX3_sheet_16 : decode cX3_sheet 16 = .ok (.iload_n 2, 1) := by decide +kernel
theorem dX3_sheet_17 : decode cX3_sheet 17 = .ok (.bipush 32, 2) := by decide +kernel
theorem dX3_sheet_19 : decode cX3_sheet 19 = .ok (.if_icmp .ne 7, 3) := by decide +kernel
theorem dX3_sheet_22 : decode cX3_sheet 22 = .ok (.iconst 1, 1) := by decide +kernel
theorem dX3_sheet_23 : decode cX3_sheet 23 = .ok (.goto 4, 3) := by decide +kernel
theorem dX3_sheet_26 : decode cX3_sheet 26 = .ok (.iconst 0, 1) := by decide +kernel
theorem dX3_sheet_27 : decode cX3_sheet 27 = .ok (.istore 4, 2) := by decide +kernel
theorem dX3_sheet_29 : decode cX3_sheet 29 = .ok (.iload_n 1, 1) := by decide +kernel
theorem dX3_sheet_30 : decode cX3_sheet 30 = .ok (.iconst 3, 1) := by decide +kernel
theorem dX3_sheet_31 : decode cX3_sheet 31 = .ok (.invokestatic 44, 3) := by decide +kernel
theorem dX3_sheet_34 : decode cX3_sheet 34 = .ok (.ifCond .eq 8, 3) := by decide +kernel
theorem dX3_sheet_37 : decode cX3_sheet 37 = .ok (.iload 4, 2) := by decide +kernel
theorem dX3_sheet_39 : decode cX3_sheet 39 = .ok (.ifCond .ne 9, 3) := by decide +kernel
theorem dX3_sheet_42 : decode cX3_sheet 42 = .ok (.aload_n 0, 1) := by decide +kernel
theorem dX3_sheet_43 : decode cX3_sheet 43 = .ok (.iconst 0, 1) := by decide +kernel
theorem dX3_sheet_44 : decode cX3_sheet 44 = .ok (.invokevirtual 48, 3) := by decide +kernel
theorem dX3_sheet_47 : decode cX3_sheet 47 = .ok (.ireturn, 1) := by decide +kernel
theorem dX3_sheet_48 : decode cX3_sheet 48 = .ok (.iload_n 3, 1) := by decide +kernel
theorem dX3_sheet_49 : decode cX3_sheet 49 = .ok (.ifCond .ge 10, 3) := by decide +kernel
theorem dX3_sheet_52 : decode cX3_sheet 52 = .ok (.aload_n 0, 1) := by decide +kernel
theorem dX3_sheet_53 : decode cX3_sheet 53 = .ok (.bipush 6, 2) := by decide +kernel
theorem dX3_sheet_55 : decode cX3_sheet 55 = .ok (.invokevirtual 48, 3) := by decide +kernel
theorem dX3_sheet_58 : decode cX3_sheet 58 = .ok (.ireturn, 1) := by decide +kernel
theorem dX3_sheet_59 : decode cX3_sheet 59 = .ok (.iload_n 3, 1) := by decide +kernel
theorem dX3_sheet_60 : decode cX3_sheet 60 = .ok (.bipush 40, 2) := by decide +kernel
theorem dX3_sheet_62 : decode cX3_sheet 62 = .ok (.if_icmp .le 9, 3) := by decide +kernel
theorem dX3_sheet_65 : decode cX3_sheet 65 = .ok (.aload_n 0, 1) := by decide +kernel
theorem dX3_sheet_66 : decode cX3_sheet 66 = .ok (.iconst 0, 1) := by decide +kernel
theorem dX3_sheet_67 : decode cX3_sheet 67 = .ok (.invokevirtual 48, 3) := by decide +kernel
theorem dX3_sheet_70 : decode cX3_sheet 70 = .ok (.ireturn, 1) := by decide +kernel
theorem dX3_sheet_71 : decode cX3_sheet 71 = .ok (.aload_n 0, 1) := by decide +kernel
theorem dX3_sheet_72 : decode cX3_sheet 72 = .ok (.getfield 36, 3) := by decide +kernel
theorem dX3_sheet_75 : decode cX3_sheet 75 = .ok (.iload_n 1, 1) := by decide +kernel
theorem dX3_sheet_76 : decode cX3_sheet 76 = .ok (.iload_n 2, 1) := by decide +kernel
theorem dX3_sheet_77 : decode cX3_sheet 77 = .ok (.iload_n 3, 1) := by decide +kernel
theorem dX3_sheet_78 : decode cX3_sheet 78 = .ok (.invokevirtual 191, 3) := by decide +kernel
theorem dX3_sheet_81 : decode cX3_sheet 81 = .ok (.aload_n 0, 1) := by decide +kernel
theorem dX3_sheet_82 : decode cX3_sheet 82 = .ok (.getfield 36, 3) := by decide +kernel
theorem dX3_sheet_85 : decode cX3_sheet 85 = .ok (.getfield 195, 3) := by decide +kernel
theorem dX3_sheet_88 : decode cX3_sheet 88 = .ok (.iload_n 1, 1) := by decide +kernel
theorem dX3_sheet_89 : decode cX3_sheet 89 = .ok (.iaload, 1) := by decide +kernel
theorem dX3_sheet_90 : decode cX3_sheet 90 = .ok (.ireturn, 1) := by decide +kernel
theorem dX3_write_0 : decode cX3_write 0 = .ok (.aload_n 0, 1) := by decide +kernel
theorem dX3_write_1 : decode cX3_write 1 = .ok (.iload_n 1, 1) := by decide +kernel
theorem dX3_write_2 : decode cX3_write 2 = .ok (.invokevirtual 198, 3) := by decide +kernel
theorem dX3_write_5 : decode cX3_write 5 = .ok (.istore 4, 2) := by decide +kernel
theorem dX3_write_7 : decode cX3_write 7 = .ok (.iload 4, 2) := by decide +kernel
theorem dX3_write_9 : decode cX3_write 9 = .ok (.ifCond .lt 10, 3) := by decide +kernel
theorem dX3_write_12 : decode cX3_write 12 = .ok (.aload_n 0, 1) := by decide +kernel
theorem dX3_write_13 : decode cX3_write 13 = .ok (.iload 4, 2) := by decide +kernel
theorem dX3_write_15 : decode cX3_write 15 = .ok (.invokevirtual 48, 3) := by decide +kernel
theorem dX3_write_18 : decode cX3_write 18 = .ok (.ireturn, 1) := by decide +kernel
theorem dX3_write_19 : decode cX3_write 19 = .ok (.iload_n 2, 1) := by decide +kernel
theorem dX3_write_20 : decode cX3_write 20 = .ok (.aload_n 0, 1) := by decide +kernel
theorem dX3_write_21 : decode cX3_write 21 = .ok (.getfield 36, 3) := by decide +kernel
theorem dX3_write_24 : decode cX3_write 24 = .ok (.getfield 195, 3) := by decide +kernel
theorem dX3_write_27 : decode cX3_write 27 = .ok (.iload_n 1, 1) := by decide +kernel
theorem dX3_write_28 : decode cX3_write 28 = .ok (.iaload, 1) := by decide +kernel
theorem dX3_write_29 : decode cX3_write 29 = .ok (.iconst 1, 1) := by decide +kernel
theorem dX3_write_30 : decode cX3_write 30 = .ok (.isub, 1) := by decide +kernel
theorem dX3_write_31 : decode cX3_write 31 = .ok (.invokestatic 44, 3) := by decide +kernel
theorem dX3_write_34 : decode cX3_write 34 = .ok (.ifCond .ne 9, 3) := by decide +kernel
theorem dX3_write_37 : decode cX3_write 37 = .ok (.aload_n 0, 1) := by decide +kernel
theorem dX3_write_38 : decode cX3_write 38 = .ok (.iconst 0, 1) := by decide +kernel
theorem dX3_write_39 : decode cX3_write 39 = .ok (.invokevirtual 48, 3) := by decide +kernel
theorem dX3_write_42 : decode cX3_write 42 = .ok (.ireturn, 1) := by decide +kernel
theorem dX3_write_43 : decode cX3_write 43 = .ok (.aload_n 0, 1) := by decide +kernel
theorem dX3_write_44 : decode cX3_write 44 = .ok (.getfield 36, 3) := by decide +kernel
theorem dX3_write_47 : decode cX3_write 47 = .ok (.iload_n 1, 1) := by decide +kernel
theorem dX3_write_48 : decode cX3_write 48 = .ok (.iload_n 2, 1) := by decide +kernel
theorem dX3_write_49 : decode cX3_write 49 = .ok (.iload_n 3, 1) := by decide +kernel
theorem dX3_write_50 : decode cX3_write 50 = .ok (.invokevirtual 201, 3) := by decide +kernel
theorem dX3_write_53 : decode cX3_write 53 = .ok (.iconst 1, 1) := by decide +kernel
theorem dX3_write_54 : decode cX3_write 54 = .ok (.ireturn, 1) := by decide +kernel
theorem dX3_copy_0 : decode cX3_copy 0 = .ok (.iload_n 1, 1) := by decide +kernel
theorem dX3_copy_1 : decode cX3_copy 1 = .ok (.iconst 3, 1) := by decide +kernel
theorem dX3_copy_2 : decode cX3_copy 2 = .ok (.invokestatic 44, 3) := by decide +kernel
theorem dX3_copy_5 : decode cX3_copy 5 = .ok (.ifCond .eq 11, 3) := by decide +kernel
theorem dX3_copy_8 : decode cX3_copy 8 = .ok (.iload_n 3, 1) := by decide +kernel
theorem dX3_copy_9 : decode cX3_copy 9 = .ok (.iconst 3, 1) := by decide +kernel
theorem dX3_copy_10 : decode cX3_copy 10 = .ok (.invokestatic 44, 3) := by decide +kernel
theorem dX3_copy_13 : decode cX3_copy 13 = .ok (.ifCond .ne 9, 3) := by decide +kernel
theorem dX3_copy_16 : decode cX3_copy 16 = .ok (.aload_n 0, 1) := by decide +kernel
theorem dX3_copy_17 : decode cX3_copy 17 = .ok (.iconst 0, 1) := by decide +kernel
theorem dX3_copy_18 : decode cX3_copy 18 = .ok (.invokevirtual 48, 3) := by decide +kernel
theorem dX3_copy_21 : decode cX3_copy 21 = .ok (.ireturn, 1) := by decide +kernel
theorem dX3_copy_22 : decode cX3_copy 22 = .ok (.aload_n 0, 1) := by decide +kernel
theorem dX3_copy_23 : decode cX3_copy 23 = .ok (.getfield 36, 3) := by decide +kernel
theorem dX3_copy_26 : decode cX3_copy 26 = .ok (.iload_n 1, 1) := by decide +kernel
theorem dX3_copy_27 : decode cX3_copy 27 = .ok (.invokevirtual 204, 3) := by decide +kernel
theorem dX3_copy_30 : decode cX3_copy 30 = .ok (.ifCond .ne 14, 3) := by decide +kernel
theorem dX3_copy_33 : decode cX3_copy 33 = .ok (.aload_n 0, 1) := by decide +kernel
theorem dX3_copy_34 : decode cX3_copy 34 = .ok (.getfield 36, 3) := by decide +kernel
theorem dX3_copy_37 : decode cX3_copy 37 = .ok (.iload_n 3, 1) := by decide +kernel
theorem dX3_copy_38 : decode cX3_copy 38 = .ok (.invokevirtual 204, 3) := by decide +kernel
theorem dX3_copy_41 : decode cX3_copy 41 = .ok (.ifCond .eq 9, 3) := by decide +kernel
theorem dX3_copy_44 : decode cX3_copy 44 = .ok (.aload_n 0, 1) := by decide +kernel
theorem dX3_copy_45 : decode cX3_copy 45 = .ok (.iconst 5, 1) := by decide +kernel
theorem dX3_copy_46 : decode cX3_copy 46 = .ok (.invokevirtual 48, 3) := by decide +kernel
theorem dX3_copy_49 : decode cX3_copy 49 = .ok (.ireturn, 1) := by decide +kernel
theorem dX3_copy_50 : decode cX3_copy 50 = .ok (.aload_n 0, 1) := by decide +kernel
theorem dX3_copy_51 : decode cX3_copy 51 = .ok (.getfield 36, 3) := by decide +kernel
theorem dX3_copy_54 : decode cX3_copy 54 = .ok (.getfield 207, 3) := by decide +kernel
theorem dX3_copy_57 : decode cX3_copy 57 = .ok (.iload_n 1, 1) := by decide +kernel
theorem dX3_copy_58 : decode cX3_copy 58 = .ok (.iaload, 1) := by decide +kernel
theorem dX3_copy_59 : decode cX3_copy 59 = .ok (.aload_n 0, 1) := by decide +kernel
theorem dX3_copy_60 : decode cX3_copy 60 = .ok (.getfield 36, 3) := by decide +kernel
theorem dX3_copy_63 : decode cX3_copy 63 = .ok (.getfield 207, 3) := by decide +kernel
theorem dX3_copy_66 : decode cX3_copy 66 = .ok (.iload_n 3, 1) := by decide +kernel
theorem dX3_copy_67 : decode cX3_copy 67 = .ok (.iaload, 1) := by decide +kernel
theorem dX3_copy_68 : decode cX3_copy 68 = .ok (.if_icmp .eq 9, 3) := by decide +kernel
theorem dX3_copy_71 : decode cX3_copy 71 = .ok (.aload_n 0, 1) := by decide +kernel
theorem dX3_copy_72 : decode cX3_copy 72 = .ok (.iconst 2, 1) := by decide +kernel
theorem dX3_copy_73 : decode cX3_copy 73 = .ok (.invokevirtual 48, 3) := by decide +kernel
theorem dX3_copy_76 : decode cX3_copy 76 = .ok (.ireturn, 1) := by decide +kernel
theorem dX3_copy_77 : decode cX3_copy 77 = .ok (.aload_n 0, 1) := by decide +kernel
theorem dX3_copy_78 : decode cX3_copy 78 = .ok (.getfield 36, 3) := by decide +kernel
theorem dX3_copy_81 : decode cX3_copy 81 = .ok (.iload_n 1, 1) := by decide +kernel
theorem dX3_copy_82 : decode cX3_copy 82 = .ok (.iload_n 2, 1) := by decide +kernel
theorem dX3_copy_83 : decode cX3_copy 83 = .ok (.iload 5, 2) := by decide +kernel
theorem dX3_copy_85 : decode cX3_copy 85 = .ok (.invokevirtual 210, 3) := by decide +kernel
theorem dX3_copy_88 : decode cX3_copy 88 = .ok (.ifCond .eq 18, 3) := by decide +kernel
theorem dX3_copy_91 : decode cX3_copy 91 = .ok (.aload_n 0, 1) := by decide +kernel
theorem dX3_copy_92 : decode cX3_copy 92 = .ok (.getfield 36, 3) := by decide +kernel
theorem dX3_copy_95 : decode cX3_copy 95 = .ok (.iload_n 3, 1) := by decide +kernel
theorem dX3_copy_96 : decode cX3_copy 96 = .ok (.iload 4, 2) := by decide +kernel
theorem dX3_copy_98 : decode cX3_copy 98 = .ok (.iload 5, 2) := by decide +kernel
theorem dX3_copy_100 : decode cX3_copy 100 = .ok (.invokevirtual 210, 3) := by decide +kernel
theorem dX3_copy_103 : decode cX3_copy 103 = .ok (.ifCond .ne 9, 3) := by decide +kernel
theorem dX3_copy_106 : decode cX3_copy 106 = .ok (.aload_n 0, 1) := by decide +kernel
theorem dX3_copy_107 : decode cX3_copy 107 = .ok (.iconst 0, 1) := by decide +kernel
theorem dX3_copy_108 : decode cX3_copy 108 = .ok (.invokevirtual 48, 3) := by decide +kernel
theorem dX3_copy_111 : decode cX3_copy 111 = .ok (.ireturn, 1) := by decide +kernel
theorem dX3_copy_112 : decode cX3_copy 112 = .ok (.aload_n 0, 1) := by decide +kernel
theorem dX3_copy_113 : decode cX3_copy 113 = .ok (.getfield 36, 3) := by decide +kernel
theorem dX3_copy_116 : decode cX3_copy 116 = .ok (.getfield 213, 3) := by decide +kernel
theorem dX3_copy_119 : decode cX3_copy 119 = .ok (.iload_n 1, 1) := by decide +kernel
theorem dX3_copy_120 : decode cX3_copy 120 = .ok (.aaload, 1) := by decide +kernel
theorem dX3_copy_121 : decode cX3_copy 121 = .ok (.iload_n 2, 1) := by decide +kernel
theorem dX3_copy_122 : decode cX3_copy 122 = .ok (.aload_n 0, 1) := by decide +kernel
theorem dX3_copy_123 : decode cX3_copy 123 = .ok (.getfield 36, 3) := by decide +kernel
theorem dX3_copy_126 : decode cX3_copy 126 = .ok (.getfield 213, 3) := by decide +kernel
theorem dX3_copy_129 : decode cX3_copy 129 = .ok (.iload_n 3, 1) := by decide +kernel
theorem dX3_copy_130 : decode cX3_copy 130 = .ok (.aaload, 1) := by decide +kernel
theorem dX3_copy_131 : decode cX3_copy 131 = .ok (.iload 4, 2) := by decide +kernel
theorem dX3_copy_133 : decode cX3_copy 133 = .ok (.iload 5, 2) := by decide +kernel
theorem dX3_copy_135 : decode cX3_copy 135 = .ok (.invokestatic 217, 3) := by decide +kernel
theorem dX3_copy_138 : decode cX3_copy 138 = .ok (.iload 5, 2) := by decide +kernel
theorem dX3_copy_140 : decode cX3_copy 140 = .ok (.ireturn, 1) := by decide +kernel
theorem dX3_load_0 : decode cX3_load 0 = .ok (.aload_n 0, 1) := by decide +kernel
theorem dX3_load_1 : decode cX3_load 1 = .ok (.iload_n 1, 1) := by decide +kernel
theorem dX3_load_2 : decode cX3_load 2 = .ok (.invokevirtual 198, 3) := by decide +kernel
theorem dX3_load_5 : decode cX3_load 5 = .ok (.istore_n 2, 1) := by decide +kernel
theorem dX3_load_6 : decode cX3_load 6 = .ok (.iload_n 2, 1) := by decide +kernel
theorem dX3_load_7 : decode cX3_load 7 = .ok (.ifCond .lt 9, 3) := by decide +kernel
theorem dX3_load_10 : decode cX3_load 10 = .ok (.aload_n 0, 1) := by decide +kernel
theorem dX3_load_11 : decode cX3_load 11 = .ok (.iload_n 2, 1) := by decide +kernel
theorem dX3_load_12 : decode cX3_load 12 = .ok (.invokevirtual 48, 3) := by decide +kernel
theorem dX3_load_15 : decode cX3_load 15 = .ok (.ireturn, 1) := by decide +kernel
theorem dX3_load_16 : decode cX3_load 16 = .ok (.aload_n 0, 1) := by decide +kernel
theorem dX3_load_17 : decode cX3_load 17 = .ok (.getfield 36, 3) := by decide +kernel
theorem dX3_load_20 : decode cX3_load 20 = .ok (.getfield 195, 3) := by decide +kernel
theorem dX3_load_23 : decode cX3_load 23 = .ok (.iload_n 1, 1) := by decide +kernel
theorem dX3_load_24 : decode cX3_load 24 = .ok (.iaload, 1) := by decide +kernel
theorem dX3_load_25 : decode cX3_load 25 = .ok (.bipush 6, 2) := by decide +kernel
theorem dX3_load_27 : decode cX3_load 27 = .ok (.invokestatic 223, 3) := by decide +kernel
theorem dX3_load_30 : decode cX3_load 30 = .ok (.istore_n 3, 1) := by decide +kernel
theorem dX3_load_31 : decode cX3_load 31 = .ok (.iconst 0, 1) := by decide +kernel
theorem dX3_load_32 : decode cX3_load 32 = .ok (.istore 4, 2) := by decide +kernel
theorem dX3_load_34 : decode cX3_load 34 = .ok (.iload 4, 2) := by decide +kernel
theorem dX3_load_36 : decode cX3_load 36 = .ok (.iload_n 3, 1) := by decide +kernel
theorem dX3_load_37 : decode cX3_load 37 = .ok (.if_icmp .ge 54, 3) := by decide +kernel
theorem dX3_load_40 : decode cX3_load 40 = .ok (.aload_n 0, 1) := by decide +kernel
theorem dX3_load_41 : decode cX3_load 41 = .ok (.getfield 36, 3) := by decide +kernel
theorem dX3_load_44 : decode cX3_load 44 = .ok (.getfield 213, 3) := by decide +kernel
theorem dX3_load_47 : decode cX3_load 47 = .ok (.iload_n 1, 1) := by decide +kernel
theorem dX3_load_48 : decode cX3_load 48 = .ok (.aaload, 1) := by decide +kernel
theorem dX3_load_49 : decode cX3_load 49 = .ok (.iload 4, 2) := by decide +kernel
theorem dX3_load_51 : decode cX3_load 51 = .ok (.iaload, 1) := by decide +kernel
theorem dX3_load_52 : decode cX3_load 52 = .ok (.bipush 99, 2) := by decide +kernel
theorem dX3_load_54 : decode cX3_load 54 = .ok (.invokestatic 44, 3) := by decide +kernel
theorem dX3_load_57 : decode cX3_load 57 = .ok (.ifCond .ne 6, 3) := by decide +kernel
theorem dX3_load_60 : decode cX3_load 60 = .ok (.iload 4, 2) := by decide +kernel
theorem dX3_load_62 : decode cX3_load 62 = .ok (.ireturn, 1) := by decide +kernel
theorem dX3_load_63 : decode cX3_load 63 = .ok (.aload_n 0, 1) := by decide +kernel
theorem dX3_load_64 : decode cX3_load 64 = .ok (.getfield 10, 3) := by decide +kernel
theorem dX3_load_67 : decode cX3_load 67 = .ok (.getfield 55, 3) := by decide +kernel
theorem dX3_load_70 : decode cX3_load 70 = .ok (.iload 4, 2) := by decide +kernel
theorem dX3_load_72 : decode cX3_load 72 = .ok (.aload_n 0, 1) := by decide +kernel
theorem dX3_load_73 : decode cX3_load 73 = .ok (.getfield 36, 3) := by decide +kernel
theorem dX3_load_76 : decode cX3_load 76 = .ok (.getfield 213, 3) := by decide +kernel
theorem dX3_load_79 : decode cX3_load 79 = .ok (.iload_n 1, 1) := by decide +kernel
theorem dX3_load_80 : decode cX3_load 80 = .ok (.aaload, 1) := by decide +kernel
theorem dX3_load_81 : decode cX3_load 81 = .ok (.iload 4, 2) := by decide +kernel
theorem dX3_load_83 : decode cX3_load 83 = .ok (.iaload, 1) := by decide +kernel
theorem dX3_load_84 : decode cX3_load 84 = .ok (.iastore, 1) := by decide +kernel
theorem dX3_load_85 : decode cX3_load 85 = .ok (.iinc 4 1, 3) := by decide +kernel
theorem dX3_load_88 : decode cX3_load 88 = .ok (.goto (-54), 3) := by decide +kernel
theorem dX3_load_91 : decode cX3_load 91 = .ok (.iload_n 3, 1) := by decide +kernel
theorem dX3_load_92 : decode cX3_load 92 = .ok (.ireturn, 1) := by decide +kernel
theorem dX3_judge_0 : decode cX3_judge 0 = .ok (.aload_n 0, 1) := by decide +kernel
theorem dX3_judge_1 : decode cX3_judge 1 = .ok (.iload_n 1, 1) := by decide +kernel
theorem dX3_judge_2 : decode cX3_judge 2 = .ok (.invokevirtual 198, 3) := by decide +kernel
theorem dX3_judge_5 : decode cX3_judge 5 = .ok (.istore_n 2, 1) := by decide +kernel
theorem dX3_judge_6 : decode cX3_judge 6 = .ok (.iload_n 2, 1) := by decide +kernel
theorem dX3_judge_7 : decode cX3_judge 7 = .ok (.ifCond .lt 9, 3) := by decide +kernel
theorem dX3_judge_10 : decode cX3_judge 10 = .ok (.aload_n 0, 1) := by decide +kernel
theorem dX3_judge_11 : decode cX3_judge 11 = .ok (.iload_n 2, 1) := by decide +kernel
theorem dX3_judge_12 : decode cX3_judge 12 = .ok (.invokevirtual 48, 3) := by decide +kernel
theorem dX3_judge_15 : decode cX3_judge 15 = .ok (.ireturn, 1) := by decide +kernel
theorem dX3_judge_16 : decode cX3_judge 16 = .ok (.iconst 0, 1) := by decide +kernel
theorem dX3_judge_17 : decode cX3_judge 17 = .ok (.istore_n 3, 1) := by decide +kernel
theorem dX3_judge_18 : decode cX3_judge 18 = .ok (.iload_n 3, 1) := by decide +kernel
theorem dX3_judge_19 : decode cX3_judge 19 = .ok (.aload_n 0, 1) := by decide +kernel
theorem dX3_judge_20 : decode cX3_judge 20 = .ok (.getfield 36, 3) := by decide +kernel
theorem dX3_judge_23 : decode cX3_judge 23 = .ok (.getfield 195, 3) := by decide +kernel
theorem dX3_judge_26 : decode cX3_judge 26 = .ok (.iload_n 1, 1) := by decide +kernel
theorem dX3_judge_27 : decode cX3_judge 27 = .ok (.iaload, 1) := by decide +kernel
theorem dX3_judge_28 : decode cX3_judge 28 = .ok (.if_icmp .ge 44, 3) := by decide +kernel
theorem dX3_judge_31 : decode cX3_judge 31 = .ok (.aload_n 0, 1) := by decide +kernel
theorem dX3_judge_32 : decode cX3_judge 32 = .ok (.iload_n 3, 1) := by decide +kernel
theorem dX3_judge_33 : decode cX3_judge 33 = .ok (.invokevirtual 72, 3) := by decide +kernel
theorem dX3_judge_36 : decode cX3_judge 36 = .ok (.ifCond .eq 26, 3) := by decide +kernel
theorem dX3_judge_39 : decode cX3_judge 39 = .ok (.aload_n 0, 1) := by decide +kernel
theorem dX3_judge_40 : decode cX3_judge 40 = .ok (.getfield 36, 3) := by decide +kernel
theorem dX3_judge_43 : decode cX3_judge 43 = .ok (.getfield 213, 3) := by decide +kernel
theorem dX3_judge_46 : decode cX3_judge 46 = .ok (.iload_n 1, 1) := by decide +kernel
theorem dX3_judge_47 : decode cX3_judge 47 = .ok (.aaload, 1) := by decide +kernel
theorem dX3_judge_48 : decode cX3_judge 48 = .ok (.iload_n 3, 1) := by decide +kernel
theorem dX3_judge_49 : decode cX3_judge 49 = .ok (.iaload, 1) := by decide +kernel
theorem dX3_judge_50 : decode cX3_judge 50 = .ok (.aload_n 0, 1) := by decide +kernel
theorem dX3_judge_51 : decode cX3_judge 51 = .ok (.getfield 10, 3) := by decide +kernel
theorem dX3_judge_54 : decode cX3_judge 54 = .ok (.getfield 228, 3) := by decide +kernel
theorem dX3_judge_57 : decode cX3_judge 57 = .ok (.iload_n 3, 1) := by decide +kernel
theorem dX3_judge_58 : decode cX3_judge 58 = .ok (.iaload, 1) := by decide +kernel
theorem dX3_judge_59 : decode cX3_judge 59 = .ok (.if_icmp .eq 7, 3) := by decide +kernel
theorem dX3_judge_62 : decode cX3_judge 62 = .ok (.iconst 1, 1) := by decide +kernel
theorem dX3_judge_63 : decode cX3_judge 63 = .ok (.iload_n 3, 1) := by decide +kernel
theorem dX3_judge_64 : decode cX3_judge 64 = .ok (.iadd, 1) := by decide +kernel
theorem dX3_judge_65 : decode cX3_judge 65 = .ok (.ireturn, 1) := by decide +kernel
theorem dX3_judge_66 : decode cX3_judge 66 = .ok (.iinc 3 1, 3) := by decide +kernel
theorem dX3_judge_69 : decode cX3_judge 69 = .ok (.goto (-51), 3) := by decide +kernel
theorem dX3_judge_72 : decode cX3_judge 72 = .ok (.iconst 0, 1) := by decide +kernel
theorem dX3_judge_73 : decode cX3_judge 73 = .ok (.ireturn, 1) := by decide +kernel
theorem dX3_image_0 : decode cX3_image 0 = .ok (.aload_n 0, 1) := by decide +kernel
theorem dX3_image_1 : decode cX3_image 1 = .ok (.getfield 19, 3) := by decide +kernel
theorem dX3_image_4 : decode cX3_image 4 = .ok (.aload_n 0, 1) := by decide +kernel
theorem dX3_image_5 : decode cX3_image 5 = .ok (.getfield 10, 3) := by decide +kernel
theorem dX3_image_8 : decode cX3_image 8 = .ok (.invokevirtual 125, 3) := by decide +kernel
theorem dX3_image_11 : decode cX3_image 11 = .ok (.aload_n 0, 1) := by decide +kernel
theorem dX3_image_12 : decode cX3_image 12 = .ok (.iconst 1, 1) := by decide +kernel
theorem dX3_image_13 : decode cX3_image 13 = .ok (.putfield 22, 3) := by decide +kernel
theorem dX3_image_16 : decode cX3_image 16 = .ok (.iconst 1, 1) := by decide +kernel
theorem dX3_image_17 : decode cX3_image 17 = .ok (.ireturn, 1) := by decide +kernel
theorem dX3_undo_0 : decode cX3_undo 0 = .ok (.aload_n 0, 1) := by decide +kernel
theorem dX3_undo_1 : decode cX3_undo 1 = .ok (.getfield 22, 3) := by decide +kernel
theorem dX3_undo_4 : decode cX3_undo 4 = .ok (.ifCond .ne 9, 3) := by decide +kernel
theorem dX3_undo_7 : decode cX3_undo 7 = .ok (.aload_n 0, 1) := by decide +kernel
theorem dX3_undo_8 : decode cX3_undo 8 = .ok (.iconst 3, 1) := by decide +kernel
theorem dX3_undo_9 : decode cX3_undo 9 = .ok (.invokevirtual 48, 3) := by decide +kernel
theorem dX3_undo_12 : decode cX3_undo 12 = .ok (.ireturn, 1) := by decide +kernel
theorem dX3_undo_13 : decode cX3_undo 13 = .ok (.aload_n 0, 1) := by decide +kernel
theorem dX3_undo_14 : decode cX3_undo 14 = .ok (.getfield 10, 3) := by decide +kernel
theorem dX3_undo_17 : decode cX3_undo 17 = .ok (.aload_n 0, 1) := by decide +kernel
theorem dX3_undo_18 : decode cX3_undo 18 = .ok (.getfield 19, 3) := by decide +kernel
theorem dX3_undo_21 : decode cX3_undo 21 = .ok (.invokevirtual 125, 3) := by decide +kernel
theorem dX3_undo_24 : decode cX3_undo 24 = .ok (.aload_n 0, 1) := by decide +kernel
theorem dX3_undo_25 : decode cX3_undo 25 = .ok (.getfield 10, 3) := by decide +kernel
theorem dX3_undo_28 : decode cX3_undo 28 = .ok (.getfield 96, 3) := by decide +kernel
theorem dX3_undo_31 : decode cX3_undo 31 = .ok (.ireturn, 1) := by decide +kernel
theorem dX3_tear_0 : decode cX3_tear 0 = .ok (.aload_n 0, 1) := by decide +kernel
theorem dX3_tear_1 : decode cX3_tear 1 = .ok (.getfield 22, 3) := by decide +kernel
theorem dX3_tear_4 : decode cX3_tear 4 = .ok (.ifCond .eq 7, 3) := by decide +kernel
theorem dX3_tear_7 : decode cX3_tear 7 = .ok (.iconst 1, 1) := by decide +kernel
theorem dX3_tear_8 : decode cX3_tear 8 = .ok (.goto 4, 3) := by decide +kernel
theorem dX3_tear_11 : decode cX3_tear 11 = .ok (.iconst 0, 1) := by decide +kernel
theorem dX3_tear_12 : decode cX3_tear 12 = .ok (.istore_n 1, 1) := by decide +kernel
theorem dX3_tear_13 : decode cX3_tear 13 = .ok (.aload_n 0, 1) := by decide +kernel
theorem dX3_tear_14 : decode cX3_tear 14 = .ok (.iconst 0, 1) := by decide +kernel
theorem dX3_tear_15 : decode cX3_tear 15 = .ok (.putfield 22, 3) := by decide +kernel
theorem dX3_tear_18 : decode cX3_tear 18 = .ok (.iload_n 1, 1) := by decide +kernel
theorem dX3_tear_19 : decode cX3_tear 19 = .ok (.ireturn, 1) := by decide +kernel
theorem dX3_count_0 : decode cX3_count 0 = .ok (.iload_n 1, 1) := by decide +kernel
theorem dX3_count_1 : decode cX3_count 1 = .ok (.tableswitch 114 0 7 #[47, 55, 63, 72, 80, 90, 98, 106], 47) := by decide +kernel
theorem dX3_count_48 : decode cX3_count 48 = .ok (.aload_n 0, 1) := by decide +kernel
theorem dX3_count_49 : decode cX3_count 49 = .ok (.getfield 10, 3) := by decide +kernel
theorem dX3_count_52 : decode cX3_count 52 = .ok (.getfield 96, 3) := by decide +kernel
theorem dX3_count_55 : decode cX3_count 55 = .ok (.ireturn, 1) := by decide +kernel
theorem dX3_count_56 : decode cX3_count 56 = .ok (.aload_n 0, 1) := by decide +kernel
theorem dX3_count_57 : decode cX3_count 57 = .ok (.getfield 10, 3) := by decide +kernel
theorem dX3_count_60 : decode cX3_count 60 = .ok (.getfield 64, 3) := by decide +kernel
theorem dX3_count_63 : decode cX3_count 63 = .ok (.ireturn, 1) := by decide +kernel
theorem dX3_count_64 : decode cX3_count 64 = .ok (.aload_n 0, 1) := by decide +kernel
theorem dX3_count_65 : decode cX3_count 65 = .ok (.getfield 10, 3) := by decide +kernel
theorem dX3_count_68 : decode cX3_count 68 = .ok (.iconst 2, 1) := by decide +kernel
theorem dX3_count_69 : decode cX3_count 69 = .ok (.invokevirtual 106, 3) := by decide +kernel
theorem dX3_count_72 : decode cX3_count 72 = .ok (.ireturn, 1) := by decide +kernel
theorem dX3_count_73 : decode cX3_count 73 = .ok (.aload_n 0, 1) := by decide +kernel
theorem dX3_count_74 : decode cX3_count 74 = .ok (.getfield 10, 3) := by decide +kernel
theorem dX3_count_77 : decode cX3_count 77 = .ok (.getfield 103, 3) := by decide +kernel
theorem dX3_count_80 : decode cX3_count 80 = .ok (.ireturn, 1) := by decide +kernel
theorem dX3_count_81 : decode cX3_count 81 = .ok (.aload_n 0, 1) := by decide +kernel
theorem dX3_count_82 : decode cX3_count 82 = .ok (.getfield 10, 3) := by decide +kernel
theorem dX3_count_85 : decode cX3_count 85 = .ok (.bipush 6, 2) := by decide +kernel
theorem dX3_count_87 : decode cX3_count 87 = .ok (.invokevirtual 106, 3) := by decide +kernel
theorem dX3_count_90 : decode cX3_count 90 = .ok (.ireturn, 1) := by decide +kernel
theorem dX3_count_91 : decode cX3_count 91 = .ok (.aload_n 0, 1) := by decide +kernel
theorem dX3_count_92 : decode cX3_count 92 = .ok (.getfield 29, 3) := by decide +kernel
theorem dX3_count_95 : decode cX3_count 95 = .ok (.getfield 172, 3) := by decide +kernel
theorem dX3_count_98 : decode cX3_count 98 = .ok (.ireturn, 1) := by decide +kernel
theorem dX3_count_99 : decode cX3_count 99 = .ok (.aload_n 0, 1) := by decide +kernel
theorem dX3_count_100 : decode cX3_count 100 = .ok (.getfield 10, 3) := by decide +kernel
theorem dX3_count_103 : decode cX3_count 103 = .ok (.getfield 169, 3) := by decide +kernel
theorem dX3_count_106 : decode cX3_count 106 = .ok (.ireturn, 1) := by decide +kernel
theorem dX3_count_107 : decode cX3_count 107 = .ok (.aload_n 0, 1) := by decide +kernel
theorem dX3_count_108 : decode cX3_count 108 = .ok (.getfield 10, 3) := by decide +kernel
theorem dX3_count_111 : decode cX3_count 111 = .ok (.invokevirtual 231, 3) := by decide +kernel
theorem dX3_count_114 : decode cX3_count 114 = .ok (.ireturn, 1) := by decide +kernel
theorem dX3_count_115 : decode cX3_count 115 = .ok (.aload_n 0, 1) := by decide +kernel
theorem dX3_count_116 : decode cX3_count 116 = .ok (.iconst 0, 1) := by decide +kernel
theorem dX3_count_117 : decode cX3_count 117 = .ok (.invokevirtual 48, 3) := by decide +kernel
theorem dX3_count_120 : decode cX3_count 120 = .ok (.ireturn, 1) := by decide +kernel
theorem dX3_status_0 : decode cX3_status 0 = .ok (.iload_n 1, 1) := by decide +kernel
theorem dX3_status_1 : decode cX3_status 1 = .ok (.iconst (-1), 1) := by decide +kernel
theorem dX3_status_2 : decode cX3_status 2 = .ok (.if_icmp .ne 30, 3) := by decide +kernel
theorem dX3_status_5 : decode cX3_status 5 = .ok (.iconst 0, 1) := by decide +kernel
theorem dX3_status_6 : decode cX3_status 6 = .ok (.istore_n 2, 1) := by decide +kernel
theorem dX3_status_7 : decode cX3_status 7 = .ok (.iconst 0, 1) := by decide +kernel
theorem dX3_status_8 : decode cX3_status 8 = .ok (.istore_n 3, 1) := by decide +kernel
theorem dX3_status_9 : decode cX3_status 9 = .ok (.iload_n 3, 1) := by decide +kernel
theorem dX3_status_10 : decode cX3_status 10 = .ok (.bipush 7, 2) := by decide +kernel
theorem dX3_status_12 : decode cX3_status 12 = .ok (.if_icmp .ge 18, 3) := by decide +kernel
theorem dX3_status_15 : decode cX3_status 15 = .ok (.iload_n 2, 1) := by decide +kernel
theorem dX3_status_16 : decode cX3_status 16 = .ok (.aload_n 0, 1) := by decide +kernel
theorem dX3_status_17 : decode cX3_status 17 = .ok (.getfield 40, 3) := by decide +kernel
theorem dX3_status_20 : decode cX3_status 20 = .ok (.iload_n 3, 1) := by decide +kernel
theorem dX3_status_21 : decode cX3_status 21 = .ok (.iaload, 1) := by decide +kernel
theorem dX3_status_22 : decode cX3_status 22 = .ok (.iadd, 1) := by decide +kernel
theorem dX3_status_23 : decode cX3_status 23 = .ok (.istore_n 2, 1) := by decide +kernel
theorem dX3_status_24 : decode cX3_status 24 = .ok (.iinc 3 1, 3) := by decide +kernel
theorem dX3_status_27 : decode cX3_status 27 = .ok (.goto (-18), 3) := by decide +kernel
theorem dX3_status_30 : decode cX3_status 30 = .ok (.iload_n 2, 1) := by decide +kernel
theorem dX3_status_31 : decode cX3_status 31 = .ok (.ireturn, 1) := by decide +kernel
theorem dX3_status_32 : decode cX3_status 32 = .ok (.iload_n 1, 1) := by decide +kernel
theorem dX3_status_33 : decode cX3_status 33 = .ok (.bipush 6, 2) := by decide +kernel
theorem dX3_status_35 : decode cX3_status 35 = .ok (.invokestatic 44, 3) := by decide +kernel
theorem dX3_status_38 : decode cX3_status 38 = .ok (.ifCond .eq 12, 3) := by decide +kernel
theorem dX3_status_41 : decode cX3_status 41 = .ok (.aload_n 0, 1) := by decide +kernel
theorem dX3_status_42 : decode cX3_status 42 = .ok (.getfield 40, 3) := by decide +kernel
theorem dX3_status_45 : decode cX3_status 45 = .ok (.iload_n 1, 1) := by decide +kernel
theorem dX3_status_46 : decode cX3_status 46 = .ok (.iaload, 1) := by decide +kernel
theorem dX3_status_47 : decode cX3_status 47 = .ok (.goto 8, 3) := by decide +kernel
theorem dX3_status_50 : decode cX3_status 50 = .ok (.aload_n 0, 1) := by decide +kernel
theorem dX3_status_51 : decode cX3_status 51 = .ok (.iconst 0, 1) := by decide +kernel
theorem dX3_status_52 : decode cX3_status 52 = .ok (.invokevirtual 48, 3) := by decide +kernel
theorem dX3_status_55 : decode cX3_status 55 = .ok (.ireturn, 1) := by decide +kernel
theorem dX3_finding_0 : decode cX3_finding 0 = .ok (.aload_n 0, 1) := by decide +kernel
theorem dX3_finding_1 : decode cX3_finding 1 = .ok (.getfield 40, 3) := by decide +kernel
theorem dX3_finding_4 : decode cX3_finding 4 = .ok (.iload_n 1, 1) := by decide +kernel
theorem dX3_finding_5 : decode cX3_finding 5 = .ok (.dup2, 1) := by decide +kernel
theorem dX3_finding_6 : decode cX3_finding 6 = .ok (.iaload, 1) := by decide +kernel
theorem dX3_finding_7 : decode cX3_finding 7 = .ok (.iconst 1, 1) := by decide +kernel
theorem dX3_finding_8 : decode cX3_finding 8 = .ok (.iadd, 1) := by decide +kernel
theorem dX3_finding_9 : decode cX3_finding 9 = .ok (.iastore, 1) := by decide +kernel
theorem dX3_finding_10 : decode cX3_finding 10 = .ok (.ldc 234, 2) := by decide +kernel
theorem dX3_finding_12 : decode cX3_finding 12 = .ok (.iload_n 1, 1) := by decide +kernel
theorem dX3_finding_13 : decode cX3_finding 13 = .ok (.isub, 1) := by decide +kernel
theorem dX3_finding_14 : decode cX3_finding 14 = .ok (.ireturn, 1) := by decide +kernel
theorem dX3_isWithin_0 : decode cX3_isWithin 0 = .ok (.iload_n 0, 1) := by decide +kernel
theorem dX3_isWithin_1 : decode cX3_isWithin 1 = .ok (.ifCond .lt 12, 3) := by decide +kernel
theorem dX3_isWithin_4 : decode cX3_isWithin 4 = .ok (.iload_n 0, 1) := by decide +kernel
theorem dX3_isWithin_5 : decode cX3_isWithin 5 = .ok (.iload_n 1, 1) := by decide +kernel
theorem dX3_isWithin_6 : decode cX3_isWithin 6 = .ok (.if_icmp .gt 7, 3) := by decide +kernel
theorem dX3_isWithin_9 : decode cX3_isWithin 9 = .ok (.iconst 1, 1) := by decide +kernel
theorem dX3_isWithin_10 : decode cX3_isWithin 10 = .ok (.goto 4, 3) := by decide +kernel
theorem dX3_isWithin_13 : decode cX3_isWithin 13 = .ok (.iconst 0, 1) := by decide +kernel
theorem dX3_isWithin_14 : decode cX3_isWithin 14 = .ok (.ireturn, 1) := by decide +kernel
theorem dX3_isCask_0 : decode cX3_isCask 0 = .ok (.iload_n 1, 1) := by decide +kernel
theorem dX3_isCask_1 : decode cX3_isCask 1 = .ok (.aload_n 0, 1) := by decide +kernel
theorem dX3_isCask_2 : decode cX3_isCask 2 = .ok (.getfield 10, 3) := by decide +kernel
theorem dX3_isCask_5 : decode cX3_isCask 5 = .ok (.getfield 64, 3) := by decide +kernel
theorem dX3_isCask_8 : decode cX3_isCask 8 = .ok (.iconst 1, 1) := by decide +kernel
theorem dX3_isCask_9 : decode cX3_isCask 9 = .ok (.isub, 1) := by decide +kernel
theorem dX3_isCask_10 : decode cX3_isCask 10 = .ok (.invokestatic 44, 3) := by decide +kernel
theorem dX3_isCask_13 : decode cX3_isCask 13 = .ok (.ireturn, 1) := by decide +kernel
theorem dX3_isUnder_0 : decode cX3_isUnder 0 = .ok (.iload_n 0, 1) := by decide +kernel
theorem dX3_isUnder_1 : decode cX3_isUnder 1 = .ok (.istore_n 2, 1) := by decide +kernel
theorem dX3_isUnder_2 : decode cX3_isUnder 2 = .ok (.iconst 0, 1) := by decide +kernel
theorem dX3_isUnder_3 : decode cX3_isUnder 3 = .ok (.istore_n 3, 1) := by decide +kernel
theorem dX3_isUnder_4 : decode cX3_isUnder 4 = .ok (.iload_n 3, 1) := by decide +kernel
theorem dX3_isUnder_5 : decode cX3_isUnder 5 = .ok (.bipush 7, 2) := by decide +kernel
theorem dX3_isUnder_7 : decode cX3_isUnder 7 = .ok (.if_icmp .ge 31, 3) := by decide +kernel
theorem dX3_isUnder_10 : decode cX3_isUnder 10 = .ok (.iload_n 2, 1) := by decide +kernel
theorem dX3_isUnder_11 : decode cX3_isUnder 11 = .ok (.bipush 6, 2) := by decide +kernel
theorem dX3_isUnder_13 : decode cX3_isUnder 13 = .ok (.invokestatic 44, 3) := by decide +kernel
theorem dX3_isUnder_16 : decode cX3_isUnder 16 = .ok (.ifCond .eq 22, 3) := by decide +kernel
theorem dX3_isUnder_19 : decode cX3_isUnder 19 = .ok (.iload_n 2, 1) := by decide +kernel
theorem dX3_isUnder_20 : decode cX3_isUnder 20 = .ok (.iload_n 1, 1) := by decide +kernel
theorem dX3_isUnder_21 : decode cX3_isUnder 21 = .ok (.if_icmp .ne 5, 3) := by decide +kernel
theorem dX3_isUnder_24 : decode cX3_isUnder 24 = .ok (.iconst 1, 1) := by decide +kernel
theorem dX3_isUnder_25 : decode cX3_isUnder 25 = .ok (.ireturn, 1) := by decide +kernel
theorem dX3_isUnder_26 : decode cX3_isUnder 26 = .ok (.getstatic 235, 3) := by decide +kernel
theorem dX3_isUnder_29 : decode cX3_isUnder 29 = .ok (.iload_n 2, 1) := by decide +kernel
theorem dX3_isUnder_30 : decode cX3_isUnder 30 = .ok (.iaload, 1) := by decide +kernel
theorem dX3_isUnder_31 : decode cX3_isUnder 31 = .ok (.istore_n 2, 1) := by decide +kernel
theorem dX3_isUnder_32 : decode cX3_isUnder 32 = .ok (.iinc 3 1, 3) := by decide +kernel
theorem dX3_isUnder_35 : decode cX3_isUnder 35 = .ok (.goto (-31), 3) := by decide +kernel
theorem dX3_isUnder_38 : decode cX3_isUnder 38 = .ok (.iconst 0, 1) := by decide +kernel
theorem dX3_isUnder_39 : decode cX3_isUnder 39 = .ok (.ireturn, 1) := by decide +kernel
theorem dX3_loudestWith_0 : decode cX3_loudestWith 0 = .ok (.aload_n 0, 1) := by decide +kernel
theorem dX3_loudestWith_1 : decode cX3_loudestWith 1 = .ok (.iload_n 1, 1) := by decide +kernel
theorem dX3_loudestWith_2 : decode cX3_loudestWith 2 = .ok (.invokevirtual 72, 3) := by decide +kernel
theorem dX3_loudestWith_5 : decode cX3_loudestWith 5 = .ok (.ifCond .eq 12, 3) := by decide +kernel
theorem dX3_loudestWith_8 : decode cX3_loudestWith 8 = .ok (.iload_n 3, 1) := by decide +kernel
theorem dX3_loudestWith_9 : decode cX3_loudestWith 9 = .ok (.bipush 40, 2) := by decide +kernel
theorem dX3_loudestWith_11 : decode cX3_loudestWith 11 = .ok (.invokestatic 44, 3) := by decide +kernel
theorem dX3_loudestWith_14 : decode cX3_loudestWith 14 = .ok (.ifCond .ne 9, 3) := by decide +kernel
theorem dX3_loudestWith_17 : decode cX3_loudestWith 17 = .ok (.aload_n 0, 1) := by decide +kernel
theorem dX3_loudestWith_18 : decode cX3_loudestWith 18 = .ok (.iconst 0, 1) := by decide +kernel
theorem dX3_loudestWith_19 : decode cX3_loudestWith 19 = .ok (.invokevirtual 48, 3) := by decide +kernel
theorem dX3_loudestWith_22 : decode cX3_loudestWith 22 = .ok (.ireturn, 1) := by decide +kernel
theorem dX3_loudestWith_23 : decode cX3_loudestWith 23 = .ok (.iconst 0, 1) := by decide +kernel
theorem dX3_loudestWith_24 : decode cX3_loudestWith 24 = .ok (.istore 4, 2) := by decide +kernel
theorem dX3_loudestWith_26 : decode cX3_loudestWith 26 = .ok (.iconst (-1), 1) := by decide +kernel
theorem dX3_loudestWith_27 : decode cX3_loudestWith 27 = .ok (.istore 5, 2) := by decide +kernel
theorem dX3_loudestWith_29 : decode cX3_loudestWith 29 = .ok (.iconst 0, 1) := by decide +kernel
theorem dX3_loudestWith_30 : decode cX3_loudestWith 30 = .ok (.istore 6, 2) := by decide +kernel
theorem dX3_loudestWith_32 : decode cX3_loudestWith 32 = .ok (.iload 6, 2) := by decide +kernel
theorem dX3_loudestWith_34 : decode cX3_loudestWith 34 = .ok (.getstatic 89, 3) := by decide +kernel
theorem dX3_loudestWith_37 : decode cX3_loudestWith 37 = .ok (.iload_n 2, 1) := by decide +kernel
theorem dX3_loudestWith_38 : decode cX3_loudestWith 38 = .ok (.iaload, 1) := by decide +kernel
theorem dX3_loudestWith_39 : decode cX3_loudestWith 39 = .ok (.if_icmp .gt 65, 3) := by decide +kernel
theorem dX3_loudestWith_42 : decode cX3_loudestWith 42 = .ok (.aload_n 0, 1) := by decide +kernel
theorem dX3_loudestWith_43 : decode cX3_loudestWith 43 = .ok (.getfield 16, 3) := by decide +kernel
theorem dX3_loudestWith_46 : decode cX3_loudestWith 46 = .ok (.aload_n 0, 1) := by decide +kernel
theorem dX3_loudestWith_47 : decode cX3_loudestWith 47 = .ok (.getfield 10, 3) := by decide +kernel
theorem dX3_loudestWith_50 : decode cX3_loudestWith 50 = .ok (.invokevirtual 125, 3) := by decide +kernel
theorem dX3_loudestWith_53 : decode cX3_loudestWith 53 = .ok (.aload_n 0, 1) := by decide +kernel
theorem dX3_loudestWith_54 : decode cX3_loudestWith 54 = .ok (.getfield 16, 3) := by decide +kernel
theorem dX3_loudestWith_57 : decode cX3_loudestWith 57 = .ok (.iload_n 2, 1) := by decide +kernel
theorem dX3_loudestWith_58 : decode cX3_loudestWith 58 = .ok (.invokevirtual 76, 3) := by decide +kernel
theorem dX3_loudestWith_61 : decode cX3_loudestWith 61 = .ok (.iload_n 1, 1) := by decide +kernel
theorem dX3_loudestWith_62 : decode cX3_loudestWith 62 = .ok (.iload 6, 2) := by decide +kernel
theorem dX3_loudestWith_64 : decode cX3_loudestWith 64 = .ok (.iastore, 1) := by decide +kernel
theorem dX3_loudestWith_65 : decode cX3_loudestWith 65 = .ok (.aload_n 0, 1) := by decide +kernel
theorem dX3_loudestWith_66 : decode cX3_loudestWith 66 = .ok (.getfield 16, 3) := by decide +kernel
theorem dX3_loudestWith_69 : decode cX3_loudestWith 69 = .ok (.iload_n 3, 1) := by decide +kernel
theorem dX3_loudestWith_70 : decode cX3_loudestWith 70 = .ok (.invokevirtual 100, 3) := by decide +kernel
theorem dX3_loudestWith_73 : decode cX3_loudestWith 73 = .ok (.aload_n 0, 1) := by decide +kernel
theorem dX3_loudestWith_74 : decode cX3_loudestWith 74 = .ok (.getfield 16, 3) := by decide +kernel
theorem dX3_loudestWith_77 : decode cX3_loudestWith 77 = .ok (.iload_n 1, 1) := by decide +kernel
theorem dX3_loudestWith_78 : decode cX3_loudestWith 78 = .ok (.invokevirtual 80, 3) := by decide +kernel
theorem dX3_loudestWith_81 : decode cX3_loudestWith 81 = .ok (.istore 7, 2) := by decide +kernel
theorem dX3_loudestWith_83 : decode cX3_loudestWith 83 = .ok (.iload 7, 2) := by decide +kernel
theorem dX3_loudestWith_85 : decode cX3_loudestWith 85 = .ok (.iload 5, 2) := by decide +kernel
theorem dX3_loudestWith_87 : decode cX3_loudestWith 87 = .ok (.if_icmp .le 11, 3) := by decide +kernel
theorem dX3_loudestWith_90 : decode cX3_loudestWith 90 = .ok (.iload 6, 2) := by decide +kernel
theorem dX3_loudestWith_92 : decode cX3_loudestWith 92 = .ok (.istore 4, 2) := by decide +kernel
theorem dX3_loudestWith_94 : decode cX3_loudestWith 94 = .ok (.iload 7, 2) := by decide +kernel
theorem dX3_loudestWith_96 : decode cX3_loudestWith 96 = .ok (.istore 5, 2) := by decide +kernel
theorem dX3_loudestWith_98 : decode cX3_loudestWith 98 = .ok (.iinc 6 1, 3) := by decide +kernel
theorem dX3_loudestWith_101 : decode cX3_loudestWith 101 = .ok (.goto (-69), 3) := by decide +kernel
theorem dX3_loudestWith_104 : decode cX3_loudestWith 104 = .ok (.iload 4, 2) := by decide +kernel
theorem dX3_loudestWith_106 : decode cX3_loudestWith 106 = .ok (.ireturn, 1) := by decide +kernel
theorem dX3_staysWhole_0 : decode cX3_staysWhole 0 = .ok (.iconst 0, 1) := by decide +kernel
theorem dX3_staysWhole_1 : decode cX3_staysWhole 1 = .ok (.istore_n 3, 1) := by decide +kernel
theorem dX3_staysWhole_2 : decode cX3_staysWhole 2 = .ok (.iload_n 3, 1) := by decide +kernel
theorem dX3_staysWhole_3 : decode cX3_staysWhole 3 = .ok (.iload_n 2, 1) := by decide +kernel
theorem dX3_staysWhole_4 : decode cX3_staysWhole 4 = .ok (.if_icmp .ge 40, 3) := by decide +kernel
theorem dX3_staysWhole_7 : decode cX3_staysWhole 7 = .ok (.aload_n 0, 1) := by decide +kernel
theorem dX3_staysWhole_8 : decode cX3_staysWhole 8 = .ok (.getfield 16, 3) := by decide +kernel
theorem dX3_staysWhole_11 : decode cX3_staysWhole 11 = .ok (.iconst 1, 1) := by decide +kernel
theorem dX3_staysWhole_12 : decode cX3_staysWhole 12 = .ok (.invokevirtual 100, 3) := by decide +kernel
theorem dX3_staysWhole_15 : decode cX3_staysWhole 15 = .ok (.aload_n 0, 1) := by decide +kernel
theorem dX3_staysWhole_16 : decode cX3_staysWhole 16 = .ok (.getfield 16, 3) := by decide +kernel
theorem dX3_staysWhole_19 : decode cX3_staysWhole 19 = .ok (.getfield 129, 3) := by decide +kernel
theorem dX3_staysWhole_22 : decode cX3_staysWhole 22 = .ok (.iload_n 1, 1) := by decide +kernel
theorem dX3_staysWhole_23 : decode cX3_staysWhole 23 = .ok (.iaload, 1) := by decide +kernel
theorem dX3_staysWhole_24 : decode cX3_staysWhole 24 = .ok (.aload_n 0, 1) := by decide +kernel
theorem dX3_staysWhole_25 : decode cX3_staysWhole 25 = .ok (.getfield 10, 3) := by decide +kernel
theorem dX3_staysWhole_28 : decode cX3_staysWhole 28 = .ok (.getfield 129, 3) := by decide +kernel
theorem dX3_staysWhole_31 : decode cX3_staysWhole 31 = .ok (.iload_n 1, 1) := by decide +kernel
theorem dX3_staysWhole_32 : decode cX3_staysWhole 32 = .ok (.iaload, 1) := by decide +kernel
theorem dX3_staysWhole_33 : decode cX3_staysWhole 33 = .ok (.if_icmp .eq 5, 3) := by decide +kernel
theorem dX3_staysWhole_36 : decode cX3_staysWhole 36 = .ok (.iconst 0, 1) := by decide +kernel
theorem dX3_staysWhole_37 : decode cX3_staysWhole 37 = .ok (.ireturn, 1) := by decide +kernel
theorem dX3_staysWhole_38 : decode cX3_staysWhole 38 = .ok (.iinc 3 1, 3) := by decide +kernel
theorem dX3_staysWhole_41 : decode cX3_staysWhole 41 = .ok (.goto (-39), 3) := by decide +kernel
theorem dX3_staysWhole_44 : decode cX3_staysWhole 44 = .ok (.iconst 1, 1) := by decide +kernel
theorem dX3_staysWhole_45 : decode cX3_staysWhole 45 = .ok (.ireturn, 1) := by decide +kernel
theorem dX3_staysStill_0 : decode cX3_staysStill 0 = .ok (.iconst 0, 1) := by decide +kernel
theorem dX3_staysStill_1 : decode cX3_staysStill 1 = .ok (.istore_n 2, 1) := by decide +kernel
theorem dX3_staysStill_2 : decode cX3_staysStill 2 = .ok (.iload_n 2, 1) := by decide +kernel
theorem dX3_staysStill_3 : decode cX3_staysStill 3 = .ok (.iload_n 1, 1) := by decide +kernel
theorem dX3_staysStill_4 : decode cX3_staysStill 4 = .ok (.if_icmp .ge 36, 3) := by decide +kernel
theorem dX3_staysStill_7 : decode cX3_staysStill 7 = .ok (.aload_n 0, 1) := by decide +kernel
theorem dX3_staysStill_8 : decode cX3_staysStill 8 = .ok (.getfield 16, 3) := by decide +kernel
theorem dX3_staysStill_11 : decode cX3_staysStill 11 = .ok (.iconst 1, 1) := by decide +kernel
theorem dX3_staysStill_12 : decode cX3_staysStill 12 = .ok (.invokevirtual 100, 3) := by decide +kernel
theorem dX3_staysStill_15 : decode cX3_staysStill 15 = .ok (.aload_n 0, 1) := by decide +kernel
theorem dX3_staysStill_16 : decode cX3_staysStill 16 = .ok (.getfield 16, 3) := by decide +kernel
theorem dX3_staysStill_19 : decode cX3_staysStill 19 = .ok (.getfield 103, 3) := by decide +kernel
theorem dX3_staysStill_22 : decode cX3_staysStill 22 = .ok (.aload_n 0, 1) := by decide +kernel
theorem dX3_staysStill_23 : decode cX3_staysStill 23 = .ok (.getfield 10, 3) := by decide +kernel
theorem dX3_staysStill_26 : decode cX3_staysStill 26 = .ok (.getfield 103, 3) := by decide +kernel
theorem dX3_staysStill_29 : decode cX3_staysStill 29 = .ok (.if_icmp .eq 5, 3) := by decide +kernel
theorem dX3_staysStill_32 : decode cX3_staysStill 32 = .ok (.iconst 0, 1) := by decide +kernel
theorem dX3_staysStill_33 : decode cX3_staysStill 33 = .ok (.ireturn, 1) := by decide +kernel
theorem dX3_staysStill_34 : decode cX3_staysStill 34 = .ok (.iinc 2 1, 3) := by decide +kernel
theorem dX3_staysStill_37 : decode cX3_staysStill 37 = .ok (.goto (-35), 3) := by decide +kernel
theorem dX3_staysStill_40 : decode cX3_staysStill 40 = .ok (.iconst 1, 1) := by decide +kernel
theorem dX3_staysStill_41 : decode cX3_staysStill 41 = .ok (.ireturn, 1) := by decide +kernel
theorem dX3_wrongSheet_0 : decode cX3_wrongSheet 0 = .ok (.iload_n 1, 1) := by decide +kernel
theorem dX3_wrongSheet_1 : decode cX3_wrongSheet 1 = .ok (.iconst 3, 1) := by decide +kernel
theorem dX3_wrongSheet_2 : decode cX3_wrongSheet 2 = .ok (.invokestatic 44, 3) := by decide +kernel
theorem dX3_wrongSheet_5 : decode cX3_wrongSheet 5 = .ok (.ifCond .ne 5, 3) := by decide +kernel
theorem dX3_wrongSheet_8 : decode cX3_wrongSheet 8 = .ok (.iconst 0, 1) := by decide +kernel
theorem dX3_wrongSheet_9 : decode cX3_wrongSheet 9 = .ok (.ireturn, 1) := by decide +kernel
theorem dX3_wrongSheet_10 : decode cX3_wrongSheet 10 = .ok (.aload_n 0, 1) := by decide +kernel
theorem dX3_wrongSheet_11 : decode cX3_wrongSheet 11 = .ok (.getfield 36, 3) := by decide +kernel
theorem dX3_wrongSheet_14 : decode cX3_wrongSheet 14 = .ok (.iload_n 1, 1) := by decide +kernel
theorem dX3_wrongSheet_15 : decode cX3_wrongSheet 15 = .ok (.invokevirtual 204, 3) := by decide +kernel
theorem dX3_wrongSheet_18 : decode cX3_wrongSheet 18 = .ok (.ifCond .eq 7, 3) := by decide +kernel
theorem dX3_wrongSheet_21 : decode cX3_wrongSheet 21 = .ok (.iconst 5, 1) := by decide +kernel
theorem dX3_wrongSheet_22 : decode cX3_wrongSheet 22 = .ok (.goto 4, 3) := by decide +kernel
theorem dX3_wrongSheet_25 : decode cX3_wrongSheet 25 = .ok (.iconst (-1), 1) := by decide +kernel
theorem dX3_wrongSheet_26 : decode cX3_wrongSheet 26 = .ok (.ireturn, 1) := by decide +kernel
theorem dX3_wrongTelling_0 : decode cX3_wrongTelling 0 = .ok (.aload_n 0, 1) := by decide +kernel
theorem dX3_wrongTelling_1 : decode cX3_wrongTelling 1 = .ok (.iload_n 1, 1) := by decide +kernel
theorem dX3_wrongTelling_2 : decode cX3_wrongTelling 2 = .ok (.invokevirtual 198, 3) := by decide +kernel
theorem dX3_wrongTelling_5 : decode cX3_wrongTelling 5 = .ok (.istore_n 3, 1) := by decide +kernel
theorem dX3_wrongTelling_6 : decode cX3_wrongTelling 6 = .ok (.iload_n 3, 1) := by decide +kernel
theorem dX3_wrongTelling_7 : decode cX3_wrongTelling 7 = .ok (.ifCond .lt 5, 3) := by decide +kernel
theorem dX3_wrongTelling_10 : decode cX3_wrongTelling 10 = .ok (.iload_n 3, 1) := by decide +kernel
theorem dX3_wrongTelling_11 : decode cX3_wrongTelling 11 = .ok (.ireturn, 1) := by decide +kernel
theorem dX3_wrongTelling_12 : decode cX3_wrongTelling 12 = .ok (.aload_n 0, 1) := by decide +kernel
theorem dX3_wrongTelling_13 : decode cX3_wrongTelling 13 = .ok (.iload_n 2, 1) := by decide +kernel
theorem dX3_wrongTelling_14 : decode cX3_wrongTelling 14 = .ok (.invokevirtual 72, 3) := by decide +kernel
theorem dX3_wrongTelling_17 : decode cX3_wrongTelling 17 = .ok (.ifCond .eq 7, 3) := by decide +kernel
theorem dX3_wrongTelling_20 : decode cX3_wrongTelling 20 = .ok (.iconst (-1), 1) := by decide +kernel
theorem dX3_wrongTelling_21 : decode cX3_wrongTelling 21 = .ok (.goto 4, 3) := by decide +kernel
theorem dX3_wrongTelling_24 : decode cX3_wrongTelling 24 = .ok (.iconst 0, 1) := by decide +kernel
theorem dX3_wrongTelling_25 : decode cX3_wrongTelling 25 = .ok (.ireturn, 1) := by decide +kernel
theorem dX3_isToldWithPeal_0 : decode cX3_isToldWithPeal 0 = .ok (.aload_n 0, 1) := by decide +kernel
theorem dX3_isToldWithPeal_1 : decode cX3_isToldWithPeal 1 = .ok (.getfield 16, 3) := by decide +kernel
theorem dX3_isToldWithPeal_4 : decode cX3_isToldWithPeal 4 = .ok (.aload_n 0, 1) := by decide +kernel
theorem dX3_isToldWithPeal_5 : decode cX3_isToldWithPeal 5 = .ok (.getfield 10, 3) := by decide +kernel
theorem dX3_isToldWithPeal_8 : decode cX3_isToldWithPeal 8 = .ok (.invokevirtual 125, 3) := by decide +kernel
theorem dX3_isToldWithPeal_11 : decode cX3_isToldWithPeal 11 = .ok (.aload_n 0, 1) := by decide +kernel
theorem dX3_isToldWithPeal_12 : decode cX3_isToldWithPeal 12 = .ok (.getfield 16, 3) := by decide +kernel
theorem dX3_isToldWithPeal_15 : decode cX3_isToldWithPeal 15 = .ok (.getfield 228, 3) := by decide +kernel
theorem dX3_isToldWithPeal_18 : decode cX3_isToldWithPeal 18 = .ok (.iload_n 2, 1) := by decide +kernel
theorem dX3_isToldWithPeal_19 : decode cX3_isToldWithPeal 19 = .ok (.iload_n 3, 1) := by decide +kernel
theorem dX3_isToldWithPeal_20 : decode cX3_isToldWithPeal 20 = .ok (.iastore, 1) := by decide +kernel
theorem dX3_isToldWithPeal_21 : decode cX3_isToldWithPeal 21 = .ok (.iconst 0, 1) := by decide +kernel
theorem dX3_isToldWithPeal_22 : decode cX3_isToldWithPeal 22 = .ok (.istore 4, 2) := by decide +kernel
theorem dX3_isToldWithPeal_24 : decode cX3_isToldWithPeal 24 = .ok (.iload 4, 2) := by decide +kernel
theorem dX3_isToldWithPeal_26 : decode cX3_isToldWithPeal 26 = .ok (.aload_n 0, 1) := by decide +kernel
theorem dX3_isToldWithPeal_27 : decode cX3_isToldWithPeal 27 = .ok (.getfield 36, 3) := by decide +kernel
theorem dX3_isToldWithPeal_30 : decode cX3_isToldWithPeal 30 = .ok (.getfield 195, 3) := by decide +kernel
theorem dX3_isToldWithPeal_33 : decode cX3_isToldWithPeal 33 = .ok (.iload_n 1, 1) := by decide +kernel
theorem dX3_isToldWithPeal_34 : decode cX3_isToldWithPeal 34 = .ok (.iaload, 1) := by decide +kernel
theorem dX3_isToldWithPeal_35 : decode cX3_isToldWithPeal 35 = .ok (.if_icmp .ge 44, 3) := by decide +kernel
theorem dX3_isToldWithPeal_38 : decode cX3_isToldWithPeal 38 = .ok (.iload 4, 2) := by decide +kernel
theorem dX3_isToldWithPeal_40 : decode cX3_isToldWithPeal 40 = .ok (.ifCond .le 11, 3) := by decide +kernel
theorem dX3_isToldWithPeal_43 : decode cX3_isToldWithPeal 43 = .ok (.aload_n 0, 1) := by decide +kernel
theorem dX3_isToldWithPeal_44 : decode cX3_isToldWithPeal 44 = .ok (.getfield 16, 3) := by decide +kernel
theorem dX3_isToldWithPeal_47 : decode cX3_isToldWithPeal 47 = .ok (.iconst 1, 1) := by decide +kernel
theorem dX3_isToldWithPeal_48 : decode cX3_isToldWithPeal 48 = .ok (.invokevirtual 100, 3) := by decide +kernel
theorem dX3_isToldWithPeal_51 : decode cX3_isToldWithPeal 51 = .ok (.aload_n 0, 1) := by decide +kernel
theorem dX3_isToldWithPeal_52 : decode cX3_isToldWithPeal 52 = .ok (.getfield 36, 3) := by decide +kernel
theorem dX3_isToldWithPeal_55 : decode cX3_isToldWithPeal 55 = .ok (.iload_n 1, 1) := by decide +kernel
theorem dX3_isToldWithPeal_56 : decode cX3_isToldWithPeal 56 = .ok (.iload 4, 2) := by decide +kernel
theorem dX3_isToldWithPeal_58 : decode cX3_isToldWithPeal 58 = .ok (.aload_n 0, 1) := by decide +kernel
theorem dX3_isToldWithPeal_59 : decode cX3_isToldWithPeal 59 = .ok (.getfield 16, 3) := by decide +kernel
theorem dX3_isToldWithPeal_62 : decode cX3_isToldWithPeal 62 = .ok (.getfield 103, 3) := by decide +kernel
theorem dX3_isToldWithPeal_65 : decode cX3_isToldWithPeal 65 = .ok (.invokevirtual 238, 3) := by decide +kernel
theorem dX3_isToldWithPeal_68 : decode cX3_isToldWithPeal 68 = .ok (.ifCond .ne 5, 3) := by decide +kernel
theorem dX3_isToldWithPeal_71 : decode cX3_isToldWithPeal 71 = .ok (.iconst 0, 1) := by decide +kernel
theorem dX3_isToldWithPeal_72 : decode cX3_isToldWithPeal 72 = .ok (.ireturn, 1) := by decide +kernel
theorem dX3_isToldWithPeal_73 : decode cX3_isToldWithPeal 73 = .ok (.iinc 4 1, 3) := by decide +kernel
theorem dX3_isToldWithPeal_76 : decode cX3_isToldWithPeal 76 = .ok (.goto (-52), 3) := by decide +kernel
theorem dX3_isToldWithPeal_79 : decode cX3_isToldWithPeal 79 = .ok (.iconst 1, 1) := by decide +kernel
theorem dX3_isToldWithPeal_80 : decode cX3_isToldWithPeal 80 = .ok (.ireturn, 1) := by decide +kernel
theorem dX3_isToldAsKind_0 : decode cX3_isToldAsKind 0 = .ok (.aload_n 0, 1) := by decide +kernel
theorem dX3_isToldAsKind_1 : decode cX3_isToldAsKind 1 = .ok (.getfield 16, 3) := by decide +kernel
theorem dX3_isToldAsKind_4 : decode cX3_isToldAsKind 4 = .ok (.aload_n 0, 1) := by decide +kernel
theorem dX3_isToldAsKind_5 : decode cX3_isToldAsKind 5 = .ok (.getfield 10, 3) := by decide +kernel
theorem dX3_isToldAsKind_8 : decode cX3_isToldAsKind 8 = .ok (.invokevirtual 125, 3) := by decide +kernel
theorem dX3_isToldAsKind_11 : decode cX3_isToldAsKind 11 = .ok (.aload_n 0, 1) := by decide +kernel
theorem dX3_isToldAsKind_12 : decode cX3_isToldAsKind 12 = .ok (.getfield 16, 3) := by decide +kernel
theorem dX3_isToldAsKind_15 : decode cX3_isToldAsKind 15 = .ok (.getfield 185, 3) := by decide +kernel
theorem dX3_isToldAsKind_18 : decode cX3_isToldAsKind 18 = .ok (.iload_n 2, 1) := by decide +kernel
theorem dX3_isToldAsKind_19 : decode cX3_isToldAsKind 19 = .ok (.iload_n 3, 1) := by decide +kernel
theorem dX3_isToldAsKind_20 : decode cX3_isToldAsKind 20 = .ok (.iastore, 1) := by decide +kernel
theorem dX3_isToldAsKind_21 : decode cX3_isToldAsKind 21 = .ok (.iconst 0, 1) := by decide +kernel
theorem dX3_isToldAsKind_22 : decode cX3_isToldAsKind 22 = .ok (.istore 4, 2) := by decide +kernel
theorem dX3_isToldAsKind_24 : decode cX3_isToldAsKind 24 = .ok (.iload 4, 2) := by decide +kernel
theorem dX3_isToldAsKind_26 : decode cX3_isToldAsKind 26 = .ok (.aload_n 0, 1) := by decide +kernel
theorem dX3_isToldAsKind_27 : decode cX3_isToldAsKind 27 = .ok (.getfield 36, 3) := by decide +kernel
theorem dX3_isToldAsKind_30 : decode cX3_isToldAsKind 30 = .ok (.getfield 195, 3) := by decide +kernel
theorem dX3_isToldAsKind_33 : decode cX3_isToldAsKind 33 = .ok (.iload_n 1, 1) := by decide +kernel
theorem dX3_isToldAsKind_34 : decode cX3_isToldAsKind 34 = .ok (.iaload, 1) := by decide +kernel
theorem dX3_isToldAsKind_35 : decode cX3_isToldAsKind 35 = .ok (.if_icmp .ge 46, 3) := by decide +kernel
theorem dX3_isToldAsKind_38 : decode cX3_isToldAsKind 38 = .ok (.iload 4, 2) := by decide +kernel
theorem dX3_isToldAsKind_40 : decode cX3_isToldAsKind 40 = .ok (.ifCond .le 11, 3) := by decide +kernel
theorem dX3_isToldAsKind_43 : decode cX3_isToldAsKind 43 = .ok (.aload_n 0, 1) := by decide +kernel
theorem dX3_isToldAsKind_44 : decode cX3_isToldAsKind 44 = .ok (.getfield 16, 3) := by decide +kernel
theorem dX3_isToldAsKind_47 : decode cX3_isToldAsKind 47 = .ok (.iconst 1, 1) := by decide +kernel
theorem dX3_isToldAsKind_48 : decode cX3_isToldAsKind 48 = .ok (.invokevirtual 100, 3) := by decide +kernel
theorem dX3_isToldAsKind_51 : decode cX3_isToldAsKind 51 = .ok (.aload_n 0, 1) := by decide +kernel
theorem dX3_isToldAsKind_52 : decode cX3_isToldAsKind 52 = .ok (.getfield 36, 3) := by decide +kernel
theorem dX3_isToldAsKind_55 : decode cX3_isToldAsKind 55 = .ok (.iload_n 1, 1) := by decide +kernel
theorem dX3_isToldAsKind_56 : decode cX3_isToldAsKind 56 = .ok (.iload 4, 2) := by decide +kernel
theorem dX3_isToldAsKind_58 : decode cX3_isToldAsKind 58 = .ok (.aload_n 0, 1) := by decide +kernel
theorem dX3_isToldAsKind_59 : decode cX3_isToldAsKind 59 = .ok (.getfield 16, 3) := by decide +kernel
theorem dX3_isToldAsKind_62 : decode cX3_isToldAsKind 62 = .ok (.getfield 228, 3) := by decide +kernel
theorem dX3_isToldAsKind_65 : decode cX3_isToldAsKind 65 = .ok (.iload_n 2, 1) := by decide +kernel
theorem dX3_isToldAsKind_66 : decode cX3_isToldAsKind 66 = .ok (.iaload, 1) := by decide +kernel
theorem dX3_isToldAsKind_67 : decode cX3_isToldAsKind 67 = .ok (.invokevirtual 238, 3) := by decide +kernel
theorem dX3_isToldAsKind_70 : decode cX3_isToldAsKind 70 = .ok (.ifCond .ne 5, 3) := by decide +kernel
theorem dX3_isToldAsKind_73 : decode cX3_isToldAsKind 73 = .ok (.iconst 0, 1) := by decide +kernel
theorem dX3_isToldAsKind_74 : decode cX3_isToldAsKind 74 = .ok (.ireturn, 1) := by decide +kernel
theorem dX3_isToldAsKind_75 : decode cX3_isToldAsKind 75 = .ok (.iinc 4 1, 3) := by decide +kernel
theorem dX3_isToldAsKind_78 : decode cX3_isToldAsKind 78 = .ok (.goto (-54), 3) := by decide +kernel
theorem dX3_isToldAsKind_81 : decode cX3_isToldAsKind 81 = .ok (.iconst 1, 1) := by decide +kernel
theorem dX3_isToldAsKind_82 : decode cX3_isToldAsKind 82 = .ok (.ireturn, 1) := by decide +kernel
theorem dX3_lowestPart_0 : decode cX3_lowestPart 0 = .ok (.iload_n 2, 1) := by decide +kernel
theorem dX3_lowestPart_1 : decode cX3_lowestPart 1 = .ok (.ifCond .ne 7, 3) := by decide +kernel
theorem dX3_lowestPart_4 : decode cX3_lowestPart 4 = .ok (.iload_n 0, 1) := by decide +kernel
theorem dX3_lowestPart_5 : decode cX3_lowestPart 5 = .ok (.goto 4, 3) := by decide +kernel
theorem dX3_lowestPart_8 : decode cX3_lowestPart 8 = .ok (.iload_n 1, 1) := by decide +kernel
theorem dX3_lowestPart_9 : decode cX3_lowestPart 9 = .ok (.istore_n 3, 1) := by decide +kernel
theorem dX3_lowestPart_10 : decode cX3_lowestPart 10 = .ok (.iload_n 1, 1) := by decide +kernel
theorem dX3_lowestPart_11 : decode cX3_lowestPart 11 = .ok (.istore 4, 2) := by decide +kernel
theorem dX3_lowestPart_13 : decode cX3_lowestPart 13 = .ok (.iload 4, 2) := by decide +kernel
theorem dX3_lowestPart_15 : decode cX3_lowestPart 15 = .ok (.iconst 1, 1) := by decide +kernel
theorem dX3_lowestPart_16 : decode cX3_lowestPart 16 = .ok (.if_icmp .le 28, 3) := by decide +kernel
theorem dX3_lowestPart_19 : decode cX3_lowestPart 19 = .ok (.iload_n 0, 1) := by decide +kernel
theorem dX3_lowestPart_20 : decode cX3_lowestPart 20 = .ok (.iload 4, 2) := by decide +kernel
theorem dX3_lowestPart_22 : decode cX3_lowestPart 22 = .ok (.irem, 1) := by decide +kernel
theorem dX3_lowestPart_23 : decode cX3_lowestPart 23 = .ok (.ifCond .ne 15, 3) := by decide +kernel
theorem dX3_lowestPart_26 : decode cX3_lowestPart 26 = .ok (.iload_n 1, 1) := by decide +kernel
theorem dX3_lowestPart_27 : decode cX3_lowestPart 27 = .ok (.iload 4, 2) := by decide +kernel
theorem dX3_lowestPart_29 : decode cX3_lowestPart 29 = .ok (.irem, 1) := by decide +kernel
theorem dX3_lowestPart_30 : decode cX3_lowestPart 30 = .ok (.ifCond .ne 8, 3) := by decide +kernel
theorem dX3_lowestPart_33 : decode cX3_lowestPart 33 = .ok (.iload_n 3, 1) := by decide +kernel
theorem dX3_lowestPart_34 : decode cX3_lowestPart 34 = .ok (.iload 4, 2) := by decide +kernel
theorem dX3_lowestPart_36 : decode cX3_lowestPart 36 = .ok (.idiv, 1) := by decide +kernel
theorem dX3_lowestPart_37 : decode cX3_lowestPart 37 = .ok (.ireturn, 1) := by decide +kernel
theorem dX3_lowestPart_38 : decode cX3_lowestPart 38 = .ok (.iinc 4 (-1), 3) := by decide +kernel
theorem dX3_lowestPart_41 : decode cX3_lowestPart 41 = .ok (.goto (-28), 3) := by decide +kernel
theorem dX3_lowestPart_44 : decode cX3_lowestPart 44 = .ok (.iload_n 3, 1) := by decide +kernel
theorem dX3_lowestPart_45 : decode cX3_lowestPart 45 = .ok (.ireturn, 1) := by decide +kernel
