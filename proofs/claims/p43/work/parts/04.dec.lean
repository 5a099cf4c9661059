theorem dX0_init_0 : decode cX0_init 0 = .ok (.aload_n 0, 1) := by decide +kernel
theorem dX0_init_1 : decode cX0_init 1 = .ok (.invokespecial 3, 3) := by decide +kernel
theorem dX0_init_4 : decode cX0_init 4 = .ok (.aload_n 0, 1) := by decide +kernel
theorem dX0_init_5 : decode cX0_init 5 = .ok (.bipush 20, 2) := by decide +kernel
theorem dX0_init_7 : decode cX0_init 7 = .ok (.anewarray 9, 3) := by decide +kernel
theorem dX0_init_10 : decode cX0_init 10 = .ok (.putfield 11, 3) := by decide +kernel
theorem dX0_init_13 : decode cX0_init 13 = .ok (.aload_n 0, 1) := by decide +kernel
theorem dX0_init_14 : decode cX0_init 14 = .ok (.bipush 20, 2) := by decide +kernel
theorem dX0_init_16 : decode cX0_init 16 = .ok (.newarray .int, 2) := by decide +kernel
theorem dX0_init_18 : decode cX0_init 18 = .ok (.putfield 17, 3) := by decide +kernel
theorem dX0_init_21 : decode cX0_init 21 = .ok (.aload_n 0, 1) := by decide +kernel
theorem dX0_init_22 : decode cX0_init 22 = .ok (.new 21, 3) := by decide +kernel
theorem dX0_init_25 : decode cX0_init 25 = .ok (.dup, 1) := by decide +kernel
theorem dX0_init_26 : decode cX0_init 26 = .ok (.invokespecial 23, 3) := by decide +kernel
theorem dX0_init_29 : decode cX0_init 29 = .ok (.putfield 24, 3) := by decide +kernel
theorem dX0_init_32 : decode cX0_init 32 = .ok (.aload_n 0, 1) := by decide +kernel
theorem dX0_init_33 : decode cX0_init 33 = .ok (.new 28, 3) := by decide +kernel
theorem dX0_init_36 : decode cX0_init 36 = .ok (.dup, 1) := by decide +kernel
theorem dX0_init_37 : decode cX0_init 37 = .ok (.invokespecial 30, 3) := by decide +kernel
theorem dX0_init_40 : decode cX0_init 40 = .ok (.putfield 31, 3) := by decide +kernel
theorem dX0_init_43 : decode cX0_init 43 = .ok (.aload_n 0, 1) := by decide +kernel
theorem dX0_init_44 : decode cX0_init 44 = .ok (.new 28, 3) := by decide +kernel
theorem dX0_init_47 : decode cX0_init 47 = .ok (.dup, 1) := by decide +kernel
theorem dX0_init_48 : decode cX0_init 48 = .ok (.invokespecial 30, 3) := by decide +kernel
theorem dX0_init_51 : decode cX0_init 51 = .ok (.putfield 35, 3) := by decide +kernel
theorem dX0_init_54 : decode cX0_init 54 = .ok (.aload_n 0, 1) := by decide +kernel
theorem dX0_init_55 : decode cX0_init 55 = .ok (.iconst (-1), 1) := by decide +kernel
theorem dX0_init_56 : decode cX0_init 56 = .ok (.putfield 38, 3) := by decide +kernel
theorem dX0_init_59 : decode cX0_init 59 = .ok (.aload_n 0, 1) := by decide +kernel
theorem dX0_init_60 : decode cX0_init 60 = .ok (.iconst (-1), 1) := by decide +kernel
theorem dX0_init_61 : decode cX0_init 61 = .ok (.putfield 42, 3) := by decide +kernel
theorem dX0_init_64 : decode cX0_init 64 = .ok (.aload_n 0, 1) := by decide +kernel
theorem dX0_init_65 : decode cX0_init 65 = .ok (.iconst (-1), 1) := by decide +kernel
theorem dX0_init_66 : decode cX0_init 66 = .ok (.putfield 45, 3) := by decide +kernel
theorem dX0_init_69 : decode cX0_init 69 = .ok (.iconst 0, 1) := by decide +kernel
theorem dX0_init_70 : decode cX0_init 70 = .ok (.istore_n 1, 1) := by decide +kernel
theorem dX0_init_71 : decode cX0_init 71 = .ok (.iload_n 1, 1) := by decide +kernel
theorem dX0_init_72 : decode cX0_init 72 = .ok (.aload_n 0, 1) := by decide +kernel
theorem dX0_init_73 : decode cX0_init 73 = .ok (.getfield 11, 3) := by decide +kernel
theorem dX0_init_76 : decode cX0_init 76 = .ok (.arraylength, 1) := by decide +kernel
theorem dX0_init_77 : decode cX0_init 77 = .ok (.if_icmp .ge 22, 3) := by decide +kernel
theorem dX0_init_80 : decode cX0_init 80 = .ok (.aload_n 0, 1) := by decide +kernel
theorem dX0_init_81 : decode cX0_init 81 = .ok (.getfield 11, 3) := by decide +kernel
theorem dX0_init_84 : decode cX0_init 84 = .ok (.iload_n 1, 1) := by decide +kernel
theorem dX0_init_85 : decode cX0_init 85 = .ok (.new 9, 3) := by decide +kernel
theorem dX0_init_88 : decode cX0_init 88 = .ok (.dup, 1) := by decide +kernel
theorem dX0_init_89 : decode cX0_init 89 = .ok (.invokespecial 48, 3) := by decide +kernel
theorem dX0_init_92 : decode cX0_init 92 = .ok (.aastore, 1) := by decide +kernel
theorem dX0_init_93 : decode cX0_init 93 = .ok (.iinc 1 1, 3) := by decide +kernel
theorem dX0_init_96 : decode cX0_init 96 = .ok (.goto (-25), 3) := by decide +kernel
theorem dX0_init_99 : decode cX0_init 99 = .ok (.return_, 1) := by decide +kernel
theorem dX0_addWhole_0 : decode cX0_addWhole 0 = .ok (.aload_n 0, 1) := by decide +kernel
theorem dX0_addWhole_1 : decode cX0_addWhole 1 = .ok (.getfield 11, 3) := by decide +kernel
theorem dX0_addWhole_4 : decode cX0_addWhole 4 = .ok (.aload_n 0, 1) := by decide +kernel
theorem dX0_addWhole_5 : decode cX0_addWhole 5 = .ok (.getfield 49, 3) := by decide +kernel
theorem dX0_addWhole_8 : decode cX0_addWhole 8 = .ok (.aaload, 1) := by decide +kernel
theorem dX0_addWhole_9 : decode cX0_addWhole 9 = .ok (.aload_n 1, 1) := by decide +kernel
theorem dX0_addWhole_10 : decode cX0_addWhole 10 = .ok (.invokevirtual 52, 3) := by decide +kernel
theorem dX0_addWhole_13 : decode cX0_addWhole 13 = .ok (.aload_n 0, 1) := by decide +kernel
theorem dX0_addWhole_14 : decode cX0_addWhole 14 = .ok (.dup, 1) := by decide +kernel
theorem dX0_addWhole_15 : decode cX0_addWhole 15 = .ok (.getfield 49, 3) := by decide +kernel
theorem dX0_addWhole_18 : decode cX0_addWhole 18 = .ok (.iconst 1, 1) := by decide +kernel
theorem dX0_addWhole_19 : decode cX0_addWhole 19 = .ok (.iadd, 1) := by decide +kernel
theorem dX0_addWhole_20 : decode cX0_addWhole 20 = .ok (.putfield 49, 3) := by decide +kernel
theorem dX0_addWhole_23 : decode cX0_addWhole 23 = .ok (.aload_n 0, 1) := by decide +kernel
theorem dX0_addWhole_24 : decode cX0_addWhole 24 = .ok (.getfield 49, 3) := by decide +kernel
theorem dX0_addWhole_27 : decode cX0_addWhole 27 = .ok (.iconst 1, 1) := by decide +kernel
theorem dX0_addWhole_28 : decode cX0_addWhole 28 = .ok (.isub, 1) := by decide +kernel
theorem dX0_addWhole_29 : decode cX0_addWhole 29 = .ok (.ireturn, 1) := by decide +kernel
theorem dX0_addResting_0 : decode cX0_addResting 0 = .ok (.aload_n 0, 1) := by decide +kernel
theorem dX0_addResting_1 : decode cX0_addResting 1 = .ok (.getfield 24, 3) := by decide +kernel
theorem dX0_addResting_4 : decode cX0_addResting 4 = .ok (.aload_n 0, 1) := by decide +kernel
theorem dX0_addResting_5 : decode cX0_addResting 5 = .ok (.getfield 31, 3) := by decide +kernel
theorem dX0_addResting_8 : decode cX0_addResting 8 = .ok (.iload_n 3, 1) := by decide +kernel
theorem dX0_addResting_9 : decode cX0_addResting 9 = .ok (.sipush 256, 3) := by decide +kernel
theorem dX0_addResting_12 : decode cX0_addResting 12 = .ok (.invokevirtual 56, 3) := by decide +kernel
theorem dX0_addResting_15 : decode cX0_addResting 15 = .ok (.aload_n 0, 1) := by decide +kernel
theorem dX0_addResting_16 : decode cX0_addResting 16 = .ok (.getfield 11, 3) := by decide +kernel
theorem dX0_addResting_19 : decode cX0_addResting 19 = .ok (.aload_n 0, 1) := by decide +kernel
theorem dX0_addResting_20 : decode cX0_addResting 20 = .ok (.getfield 49, 3) := by decide +kernel
theorem dX0_addResting_23 : decode cX0_addResting 23 = .ok (.aaload, 1) := by decide +kernel
theorem dX0_addResting_24 : decode cX0_addResting 24 = .ok (.astore 4, 2) := by decide +kernel
theorem dX0_addResting_26 : decode cX0_addResting 26 = .ok (.aload 4, 2) := by decide +kernel
theorem dX0_addResting_28 : decode cX0_addResting 28 = .ok (.iconst 1, 1) := by decide +kernel
theorem dX0_addResting_29 : decode cX0_addResting 29 = .ok (.putfield 60, 3) := by decide +kernel
theorem dX0_addResting_32 : decode cX0_addResting 32 = .ok (.aload 4, 2) := by decide +kernel
theorem dX0_addResting_34 : decode cX0_addResting 34 = .ok (.iload_n 2, 1) := by decide +kernel
theorem dX0_addResting_35 : decode cX0_addResting 35 = .ok (.putfield 63, 3) := by decide +kernel
theorem dX0_addResting_38 : decode cX0_addResting 38 = .ok (.aload 4, 2) := by decide +kernel
theorem dX0_addResting_40 : decode cX0_addResting 40 = .ok (.getfield 66, 3) := by decide +kernel
theorem dX0_addResting_43 : decode cX0_addResting 43 = .ok (.aload_n 0, 1) := by decide +kernel
theorem dX0_addResting_44 : decode cX0_addResting 44 = .ok (.getfield 24, 3) := by decide +kernel
theorem dX0_addResting_47 : decode cX0_addResting 47 = .ok (.aload_n 1, 1) := by decide +kernel
theorem dX0_addResting_48 : decode cX0_addResting 48 = .ok (.invokevirtual 70, 3) := by decide +kernel
theorem dX0_addResting_51 : decode cX0_addResting 51 = .ok (.aload_n 0, 1) := by decide +kernel
theorem dX0_addResting_52 : decode cX0_addResting 52 = .ok (.dup, 1) := by decide +kernel
theorem dX0_addResting_53 : decode cX0_addResting 53 = .ok (.getfield 49, 3) := by decide +kernel
theorem dX0_addResting_56 : decode cX0_addResting 56 = .ok (.iconst 1, 1) := by decide +kernel
theorem dX0_addResting_57 : decode cX0_addResting 57 = .ok (.iadd, 1) := by decide +kernel
theorem dX0_addResting_58 : decode cX0_addResting 58 = .ok (.putfield 49, 3) := by decide +kernel
theorem dX0_addResting_61 : decode cX0_addResting 61 = .ok (.aload_n 0, 1) := by decide +kernel
theorem dX0_addResting_62 : decode cX0_addResting 62 = .ok (.getfield 49, 3) := by decide +kernel
theorem dX0_addResting_65 : decode cX0_addResting 65 = .ok (.iconst 1, 1) := by decide +kernel
theorem dX0_addResting_66 : decode cX0_addResting 66 = .ok (.isub, 1) := by decide +kernel
theorem dX0_addResting_67 : decode cX0_addResting 67 = .ok (.ireturn, 1) := by decide +kernel
theorem dX0_putTogether_0 : decode cX0_putTogether 0 = .ok (.aload_n 0, 1) := by decide +kernel
theorem dX0_putTogether_1 : decode cX0_putTogether 1 = .ok (.iconst (-1), 1) := by decide +kernel
theorem dX0_putTogether_2 : decode cX0_putTogether 2 = .ok (.putfield 38, 3) := by decide +kernel
theorem dX0_putTogether_5 : decode cX0_putTogether 5 = .ok (.aload_n 0, 1) := by decide +kernel
theorem dX0_putTogether_6 : decode cX0_putTogether 6 = .ok (.iconst (-1), 1) := by decide +kernel
theorem dX0_putTogether_7 : decode cX0_putTogether 7 = .ok (.putfield 42, 3) := by decide +kernel
theorem dX0_putTogether_10 : decode cX0_putTogether 10 = .ok (.aload_n 0, 1) := by decide +kernel
theorem dX0_putTogether_11 : decode cX0_putTogether 11 = .ok (.iconst (-1), 1) := by decide +kernel
theorem dX0_putTogether_12 : decode cX0_putTogether 12 = .ok (.putfield 45, 3) := by decide +kernel
theorem dX0_putTogether_15 : decode cX0_putTogether 15 = .ok (.iconst 0, 1) := by decide +kernel
theorem dX0_putTogether_16 : decode cX0_putTogether 16 = .ok (.istore_n 2, 1) := by decide +kernel
theorem dX0_putTogether_17 : decode cX0_putTogether 17 = .ok (.iload_n 1, 1) := by decide +kernel
theorem dX0_putTogether_18 : decode cX0_putTogether 18 = .ok (.istore_n 3, 1) := by decide +kernel
theorem dX0_putTogether_19 : decode cX0_putTogether 19 = .ok (.aload_n 0, 1) := by decide +kernel
theorem dX0_putTogether_20 : decode cX0_putTogether 20 = .ok (.getfield 11, 3) := by decide +kernel
theorem dX0_putTogether_23 : decode cX0_putTogether 23 = .ok (.iload_n 3, 1) := by decide +kernel
theorem dX0_putTogether_24 : decode cX0_putTogether 24 = .ok (.aaload, 1) := by decide +kernel
theorem dX0_putTogether_25 : decode cX0_putTogether 25 = .ok (.getfield 60, 3) := by decide +kernel
theorem dX0_putTogether_28 : decode cX0_putTogether 28 = .ok (.iconst 1, 1) := by decide +kernel
theorem dX0_putTogether_29 : decode cX0_putTogether 29 = .ok (.if_icmp .ne 35, 3) := by decide +kernel
theorem dX0_putTogether_32 : decode cX0_putTogether 32 = .ok (.iload_n 2, 1) := by decide +kernel
theorem dX0_putTogether_33 : decode cX0_putTogether 33 = .ok (.aload_n 0, 1) := by decide +kernel
theorem dX0_putTogether_34 : decode cX0_putTogether 34 = .ok (.getfield 17, 3) := by decide +kernel
theorem dX0_putTogether_37 : decode cX0_putTogether 37 = .ok (.arraylength, 1) := by decide +kernel
theorem dX0_putTogether_38 : decode cX0_putTogether 38 = .ok (.if_icmp .ge 26, 3) := by decide +kernel
theorem dX0_putTogether_41 : decode cX0_putTogether 41 = .ok (.aload_n 0, 1) := by decide +kernel
theorem dX0_putTogether_42 : decode cX0_putTogether 42 = .ok (.getfield 17, 3) := by decide +kernel
theorem dX0_putTogether_45 : decode cX0_putTogether 45 = .ok (.iload_n 2, 1) := by decide +kernel
theorem dX0_putTogether_46 : decode cX0_putTogether 46 = .ok (.iload_n 3, 1) := by decide +kernel
theorem dX0_putTogether_47 : decode cX0_putTogether 47 = .ok (.iastore, 1) := by decide +kernel
theorem dX0_putTogether_48 : decode cX0_putTogether 48 = .ok (.iinc 2 1, 3) := by decide +kernel
theorem dX0_putTogether_51 : decode cX0_putTogether 51 = .ok (.aload_n 0, 1) := by decide +kernel
theorem dX0_putTogether_52 : decode cX0_putTogether 52 = .ok (.getfield 11, 3) := by decide +kernel
theorem dX0_putTogether_55 : decode cX0_putTogether 55 = .ok (.iload_n 3, 1) := by decide +kernel
theorem dX0_putTogether_56 : decode cX0_putTogether 56 = .ok (.aaload, 1) := by decide +kernel
theorem dX0_putTogether_57 : decode cX0_putTogether 57 = .ok (.getfield 63, 3) := by decide +kernel
theorem dX0_putTogether_60 : decode cX0_putTogether 60 = .ok (.istore_n 3, 1) := by decide +kernel
theorem dX0_putTogether_61 : decode cX0_putTogether 61 = .ok (.goto (-42), 3) := by decide +kernel
theorem dX0_putTogether_64 : decode cX0_putTogether 64 = .ok (.aload_n 0, 1) := by decide +kernel
theorem dX0_putTogether_65 : decode cX0_putTogether 65 = .ok (.getfield 11, 3) := by decide +kernel
theorem dX0_putTogether_68 : decode cX0_putTogether 68 = .ok (.iload_n 3, 1) := by decide +kernel
theorem dX0_putTogether_69 : decode cX0_putTogether 69 = .ok (.aaload, 1) := by decide +kernel
theorem dX0_putTogether_70 : decode cX0_putTogether 70 = .ok (.getfield 60, 3) := by decide +kernel
theorem dX0_putTogether_73 : decode cX0_putTogether 73 = .ok (.iconst 2, 1) := by decide +kernel
theorem dX0_putTogether_74 : decode cX0_putTogether 74 = .ok (.if_icmp .ne 11, 3) := by decide +kernel
theorem dX0_putTogether_77 : decode cX0_putTogether 77 = .ok (.aload_n 0, 1) := by decide +kernel
theorem dX0_putTogether_78 : decode cX0_putTogether 78 = .ok (.iload_n 3, 1) := by decide +kernel
theorem dX0_putTogether_79 : decode cX0_putTogether 79 = .ok (.iload_n 2, 1) := by decide +kernel
theorem dX0_putTogether_80 : decode cX0_putTogether 80 = .ok (.iconst 1, 1) := by decide +kernel
theorem dX0_putTogether_81 : decode cX0_putTogether 81 = .ok (.invokevirtual 75, 3) := by decide +kernel
theorem dX0_putTogether_84 : decode cX0_putTogether 84 = .ok (.return_, 1) := by decide +kernel
theorem dX0_putTogether_85 : decode cX0_putTogether 85 = .ok (.aload_n 0, 1) := by decide +kernel
theorem dX0_putTogether_86 : decode cX0_putTogether 86 = .ok (.getfield 31, 3) := by decide +kernel
theorem dX0_putTogether_89 : decode cX0_putTogether 89 = .ok (.aload_n 0, 1) := by decide +kernel
theorem dX0_putTogether_90 : decode cX0_putTogether 90 = .ok (.getfield 11, 3) := by decide +kernel
theorem dX0_putTogether_93 : decode cX0_putTogether 93 = .ok (.iload_n 3, 1) := by decide +kernel
theorem dX0_putTogether_94 : decode cX0_putTogether 94 = .ok (.aaload, 1) := by decide +kernel
theorem dX0_putTogether_95 : decode cX0_putTogether 95 = .ok (.getfield 79, 3) := by decide +kernel
theorem dX0_putTogether_98 : decode cX0_putTogether 98 = .ok (.invokevirtual 82, 3) := by decide +kernel
theorem dX0_putTogether_101 : decode cX0_putTogether 101 = .ok (.aload_n 0, 1) := by decide +kernel
theorem dX0_putTogether_102 : decode cX0_putTogether 102 = .ok (.iload_n 2, 1) := by decide +kernel
theorem dX0_putTogether_103 : decode cX0_putTogether 103 = .ok (.invokevirtual 85, 3) := by decide +kernel
theorem dX0_putTogether_106 : decode cX0_putTogether 106 = .ok (.return_, 1) := by decide +kernel
theorem dX0_climb_0 : decode cX0_climb 0 = .ok (.iload_n 1, 1) := by decide +kernel
theorem dX0_climb_1 : decode cX0_climb 1 = .ok (.iconst 1, 1) := by decide +kernel
theorem dX0_climb_2 : decode cX0_climb 2 = .ok (.isub, 1) := by decide +kernel
theorem dX0_climb_3 : decode cX0_climb 3 = .ok (.istore_n 2, 1) := by decide +kernel
theorem dX0_climb_4 : decode cX0_climb 4 = .ok (.iload_n 2, 1) := by decide +kernel
theorem dX0_climb_5 : decode cX0_climb 5 = .ok (.ifCond .lt 71, 3) := by decide +kernel
theorem dX0_climb_8 : decode cX0_climb 8 = .ok (.aload_n 0, 1) := by decide +kernel
theorem dX0_climb_9 : decode cX0_climb 9 = .ok (.getfield 11, 3) := by decide +kernel
theorem dX0_climb_12 : decode cX0_climb 12 = .ok (.aload_n 0, 1) := by decide +kernel
theorem dX0_climb_13 : decode cX0_climb 13 = .ok (.getfield 17, 3) := by decide +kernel
theorem dX0_climb_16 : decode cX0_climb 16 = .ok (.iload_n 2, 1) := by decide +kernel
theorem dX0_climb_17 : decode cX0_climb 17 = .ok (.iaload, 1) := by decide +kernel
theorem dX0_climb_18 : decode cX0_climb 18 = .ok (.aaload, 1) := by decide +kernel
theorem dX0_climb_19 : decode cX0_climb 19 = .ok (.getfield 66, 3) := by decide +kernel
theorem dX0_climb_22 : decode cX0_climb 22 = .ok (.astore_n 3, 1) := by decide +kernel
theorem dX0_climb_23 : decode cX0_climb 23 = .ok (.aload_n 3, 1) := by decide +kernel
theorem dX0_climb_24 : decode cX0_climb 24 = .ok (.aload_n 0, 1) := by decide +kernel
theorem dX0_climb_25 : decode cX0_climb 25 = .ok (.getfield 31, 3) := by decide +kernel
theorem dX0_climb_28 : decode cX0_climb 28 = .ok (.invokevirtual 89, 3) := by decide +kernel
theorem dX0_climb_31 : decode cX0_climb 31 = .ok (.ifCond .ne 16, 3) := by decide +kernel
theorem dX0_climb_34 : decode cX0_climb 34 = .ok (.aload_n 0, 1) := by decide +kernel
theorem dX0_climb_35 : decode cX0_climb 35 = .ok (.aload_n 0, 1) := by decide +kernel
theorem dX0_climb_36 : decode cX0_climb 36 = .ok (.getfield 17, 3) := by decide +kernel
theorem dX0_climb_39 : decode cX0_climb 39 = .ok (.iload_n 2, 1) := by decide +kernel
theorem dX0_climb_40 : decode cX0_climb 40 = .ok (.iaload, 1) := by decide +kernel
theorem dX0_climb_41 : decode cX0_climb 41 = .ok (.iload_n 2, 1) := by decide +kernel
theorem dX0_climb_42 : decode cX0_climb 42 = .ok (.iconst 2, 1) := by decide +kernel
theorem dX0_climb_43 : decode cX0_climb 43 = .ok (.invokevirtual 75, 3) := by decide +kernel
theorem dX0_climb_46 : decode cX0_climb 46 = .ok (.return_, 1) := by decide +kernel
theorem dX0_climb_47 : decode cX0_climb 47 = .ok (.aload_n 3, 1) := by decide +kernel
theorem dX0_climb_48 : decode cX0_climb 48 = .ok (.aload_n 0, 1) := by decide +kernel
theorem dX0_climb_49 : decode cX0_climb 49 = .ok (.getfield 31, 3) := by decide +kernel
theorem dX0_climb_52 : decode cX0_climb 52 = .ok (.aload_n 0, 1) := by decide +kernel
theorem dX0_climb_53 : decode cX0_climb 53 = .ok (.getfield 35, 3) := by decide +kernel
theorem dX0_climb_56 : decode cX0_climb 56 = .ok (.invokevirtual 93, 3) := by decide +kernel
theorem dX0_climb_59 : decode cX0_climb 59 = .ok (.aload_n 0, 1) := by decide +kernel
theorem dX0_climb_60 : decode cX0_climb 60 = .ok (.getfield 31, 3) := by decide +kernel
theorem dX0_climb_63 : decode cX0_climb 63 = .ok (.aload_n 0, 1) := by decide +kernel
theorem dX0_climb_64 : decode cX0_climb 64 = .ok (.getfield 35, 3) := by decide +kernel
theorem dX0_climb_67 : decode cX0_climb 67 = .ok (.invokevirtual 82, 3) := by decide +kernel
theorem dX0_climb_70 : decode cX0_climb 70 = .ok (.iinc 2 (-1), 3) := by decide +kernel
theorem dX0_climb_73 : decode cX0_climb 73 = .ok (.goto (-69), 3) := by decide +kernel
theorem dX0_climb_76 : decode cX0_climb 76 = .ok (.return_, 1) := by decide +kernel
theorem dX0_breakAt_0 : decode cX0_breakAt 0 = .ok (.aload_n 0, 1) := by decide +kernel
theorem dX0_breakAt_1 : decode cX0_breakAt 1 = .ok (.iload_n 1, 1) := by decide +kernel
theorem dX0_breakAt_2 : decode cX0_breakAt 2 = .ok (.putfield 38, 3) := by decide +kernel
theorem dX0_breakAt_5 : decode cX0_breakAt 5 = .ok (.aload_n 0, 1) := by decide +kernel
theorem dX0_breakAt_6 : decode cX0_breakAt 6 = .ok (.iload_n 2, 1) := by decide +kernel
theorem dX0_breakAt_7 : decode cX0_breakAt 7 = .ok (.putfield 42, 3) := by decide +kernel
theorem dX0_breakAt_10 : decode cX0_breakAt 10 = .ok (.aload_n 0, 1) := by decide +kernel
theorem dX0_breakAt_11 : decode cX0_breakAt 11 = .ok (.iload_n 3, 1) := by decide +kernel
theorem dX0_breakAt_12 : decode cX0_breakAt 12 = .ok (.putfield 45, 3) := by decide +kernel
theorem dX0_breakAt_15 : decode cX0_breakAt 15 = .ok (.return_, 1) := by decide +kernel
theorem dX1_init_0 : decode cX1_init 0 = .ok (.aload_n 0, 1) := by decide +kernel
theorem dX1_init_1 : decode cX1_init 1 = .ok (.invokespecial 3, 3) := by decide +kernel
theorem dX1_init_4 : decode cX1_init 4 = .ok (.aload_n 0, 1) := by decide +kernel
theorem dX1_init_5 : decode cX1_init 5 = .ok (.bipush 40, 2) := by decide +kernel
theorem dX1_init_7 : decode cX1_init 7 = .ok (.newarray .int, 2) := by decide +kernel
theorem dX1_init_9 : decode cX1_init 9 = .ok (.putfield 9, 3) := by decide +kernel
theorem dX1_init_12 : decode cX1_init 12 = .ok (.return_, 1) := by decide +kernel
theorem dX1_fill_0 : decode cX1_fill 0 = .ok (.aload_n 0, 1) := by decide +kernel
theorem dX1_fill_1 : decode cX1_fill 1 = .ok (.iload_n 3, 1) := by decide +kernel
theorem dX1_fill_2 : decode cX1_fill 2 = .ok (.aload_n 0, 1) := by decide +kernel
theorem dX1_fill_3 : decode cX1_fill 3 = .ok (.getfield 9, 3) := by decide +kernel
theorem dX1_fill_6 : decode cX1_fill 6 = .ok (.arraylength, 1) := by decide +kernel
theorem dX1_fill_7 : decode cX1_fill 7 = .ok (.invokestatic 15, 3) := by decide +kernel
theorem dX1_fill_10 : decode cX1_fill 10 = .ok (.putfield 21, 3) := by decide +kernel
theorem dX1_fill_13 : decode cX1_fill 13 = .ok (.iconst 0, 1) := by decide +kernel
theorem dX1_fill_14 : decode cX1_fill 14 = .ok (.istore 4, 2) := by decide +kernel
theorem dX1_fill_16 : decode cX1_fill 16 = .ok (.iload 4, 2) := by decide +kernel
theorem dX1_fill_18 : decode cX1_fill 18 = .ok (.aload_n 0, 1) := by decide +kernel
theorem dX1_fill_19 : decode cX1_fill 19 = .ok (.getfield 21, 3) := by decide +kernel
theorem dX1_fill_22 : decode cX1_fill 22 = .ok (.if_icmp .ge 24, 3) := by decide +kernel
theorem dX1_fill_25 : decode cX1_fill 25 = .ok (.aload_n 0, 1) := by decide +kernel
theorem dX1_fill_26 : decode cX1_fill 26 = .ok (.getfield 9, 3) := by decide +kernel
theorem dX1_fill_29 : decode cX1_fill 29 = .ok (.iload 4, 2) := by decide +kernel
theorem dX1_fill_31 : decode cX1_fill 31 = .ok (.aload_n 1, 1) := by decide +kernel
theorem dX1_fill_32 : decode cX1_fill 32 = .ok (.iload_n 2, 1) := by decide +kernel
theorem dX1_fill_33 : decode cX1_fill 33 = .ok (.iload 4, 2) := by decide +kernel
theorem dX1_fill_35 : decode cX1_fill 35 = .ok (.iadd, 1) := by decide +kernel
theorem dX1_fill_36 : decode cX1_fill 36 = .ok (.invokevirtual 25, 3) := by decide +kernel
theorem dX1_fill_39 : decode cX1_fill 39 = .ok (.iastore, 1) := by decide +kernel
theorem dX1_fill_40 : decode cX1_fill 40 = .ok (.iinc 4 1, 3) := by decide +kernel
theorem dX1_fill_43 : decode cX1_fill 43 = .ok (.goto (-27), 3) := by decide +kernel
theorem dX1_fill_46 : decode cX1_fill 46 = .ok (.return_, 1) := by decide +kernel
theorem dX1_isIn_0 : decode cX1_isIn 0 = .ok (.aload_n 0, 1) := by decide +kernel
theorem dX1_isIn_1 : decode cX1_isIn 1 = .ok (.getfield 21, 3) := by decide +kernel
theorem dX1_isIn_4 : decode cX1_isIn 4 = .ok (.iload_n 3, 1) := by decide +kernel
theorem dX1_isIn_5 : decode cX1_isIn 5 = .ok (.if_icmp .eq 5, 3) := by decide +kernel
theorem dX1_isIn_8 : decode cX1_isIn 8 = .ok (.iconst 0, 1) := by decide +kernel
theorem dX1_isIn_9 : decode cX1_isIn 9 = .ok (.ireturn, 1) := by decide +kernel
theorem dX1_isIn_10 : decode cX1_isIn 10 = .ok (.iconst 0, 1) := by decide +kernel
theorem dX1_isIn_11 : decode cX1_isIn 11 = .ok (.istore 4, 2) := by decide +kernel
theorem dX1_isIn_13 : decode cX1_isIn 13 = .ok (.iload 4, 2) := by decide +kernel
theorem dX1_isIn_15 : decode cX1_isIn 15 = .ok (.aload_n 0, 1) := by decide +kernel
theorem dX1_isIn_16 : decode cX1_isIn 16 = .ok (.getfield 21, 3) := by decide +kernel
theorem dX1_isIn_19 : decode cX1_isIn 19 = .ok (.if_icmp .ge 29, 3) := by decide +kernel
theorem dX1_isIn_22 : decode cX1_isIn 22 = .ok (.aload_n 0, 1) := by decide +kernel
theorem dX1_isIn_23 : decode cX1_isIn 23 = .ok (.getfield 9, 3) := by decide +kernel
theorem dX1_isIn_26 : decode cX1_isIn 26 = .ok (.iload 4, 2) := by decide +kernel
theorem dX1_isIn_28 : decode cX1_isIn 28 = .ok (.iaload, 1) := by decide +kernel
theorem dX1_isIn_29 : decode cX1_isIn 29 = .ok (.aload_n 1, 1) := by decide +kernel
theorem dX1_isIn_30 : decode cX1_isIn 30 = .ok (.iload_n 2, 1) := by decide +kernel
theorem dX1_isIn_31 : decode cX1_isIn 31 = .ok (.iload 4, 2) := by decide +kernel
theorem dX1_isIn_33 : decode cX1_isIn 33 = .ok (.iadd, 1) := by decide +kernel
theorem dX1_isIn_34 : decode cX1_isIn 34 = .ok (.invokevirtual 25, 3) := by decide +kernel
theorem dX1_isIn_37 : decode cX1_isIn 37 = .ok (.if_icmp .eq 5, 3) := by decide +kernel
theorem dX1_isIn_40 : decode cX1_isIn 40 = .ok (.iconst 0, 1) := by decide +kernel
theorem dX1_isIn_41 : decode cX1_isIn 41 = .ok (.ireturn, 1) := by decide +kernel
theorem dX1_isIn_42 : decode cX1_isIn 42 = .ok (.iinc 4 1, 3) := by decide +kernel
theorem dX1_isIn_45 : decode cX1_isIn 45 = .ok (.goto (-32), 3) := by decide +kernel
theorem dX1_isIn_48 : decode cX1_isIn 48 = .ok (.iconst 1, 1) := by decide +kernel
theorem dX1_isIn_49 : decode cX1_isIn 49 = .ok (.ireturn, 1) := by decide +kernel
theorem dX2_init_0 : decode cX2_init 0 = .ok (.aload_n 0, 1) := by decide +kernel
theorem dX2_init_1 : decode cX2_init 1 = .ok (.invokespecial 3, 3) := by decide +kernel
theorem dX2_init_4 : decode cX2_init 4 = .ok (.aload_n 0, 1) := by decide +kernel
theorem dX2_init_5 : decode cX2_init 5 = .ok (.bipush 120, 2) := by decide +kernel
theorem dX2_init_7 : decode cX2_init 7 = .ok (.newarray .boolean, 2) := by decide +kernel
theorem dX2_init_9 : decode cX2_init 9 = .ok (.putfield 9, 3) := by decide +kernel
theorem dX2_init_12 : decode cX2_init 12 = .ok (.aload_n 0, 1) := by decide +kernel
theorem dX2_init_13 : decode cX2_init 13 = .ok (.bipush 120, 2) := by decide +kernel
theorem dX2_init_15 : decode cX2_init 15 = .ok (.newarray .int, 2) := by decide +kernel
theorem dX2_init_17 : decode cX2_init 17 = .ok (.putfield 15, 3) := by decide +kernel
theorem dX2_init_20 : decode cX2_init 20 = .ok (.aload_n 0, 1) := by decide +kernel
theorem dX2_init_21 : decode cX2_init 21 = .ok (.bipush 120, 2) := by decide +kernel
theorem dX2_init_23 : decode cX2_init 23 = .ok (.newarray .int, 2) := by decide +kernel
theorem dX2_init_25 : decode cX2_init 25 = .ok (.putfield 19, 3) := by decide +kernel
theorem dX2_init_28 : decode cX2_init 28 = .ok (.aload_n 0, 1) := by decide +kernel
theorem dX2_init_29 : decode cX2_init 29 = .ok (.new 22, 3) := by decide +kernel
theorem dX2_init_32 : decode cX2_init 32 = .ok (.dup, 1) := by decide +kernel
theorem dX2_init_33 : decode cX2_init 33 = .ok (.invokespecial 24, 3) := by decide +kernel
theorem dX2_init_36 : decode cX2_init 36 = .ok (.putfield 25, 3) := by decide +kernel
theorem dX2_init_39 : decode cX2_init 39 = .ok (.aload_n 0, 1) := by decide +kernel
theorem dX2_init_40 : decode cX2_init 40 = .ok (.iconst (-1), 1) := by decide +kernel
theorem dX2_init_41 : decode cX2_init 41 = .ok (.putfield 29, 3) := by decide +kernel
theorem dX2_init_44 : decode cX2_init 44 = .ok (.return_, 1) := by decide +kernel
theorem dX2_make_0 : decode cX2_make 0 = .ok (.aload_n 0, 1) := by decide +kernel
theorem dX2_make_1 : decode cX2_make 1 = .ok (.iconst 1, 1) := by decide +kernel
theorem dX2_make_2 : decode cX2_make 2 = .ok (.putfield 33, 3) := by decide +kernel
theorem dX2_make_5 : decode cX2_make 5 = .ok (.aload_n 0, 1) := by decide +kernel
theorem dX2_make_6 : decode cX2_make 6 = .ok (.iconst 0, 1) := by decide +kernel
theorem dX2_make_7 : decode cX2_make 7 = .ok (.putfield 37, 3) := by decide +kernel
theorem dX2_make_10 : decode cX2_make 10 = .ok (.aload_n 0, 1) := by decide +kernel
theorem dX2_make_11 : decode cX2_make 11 = .ok (.iconst 0, 1) := by decide +kernel
theorem dX2_make_12 : decode cX2_make 12 = .ok (.putfield 40, 3) := by decide +kernel
theorem dX2_make_15 : decode cX2_make 15 = .ok (.aload_n 0, 1) := by decide +kernel
theorem dX2_make_16 : decode cX2_make 16 = .ok (.iconst (-1), 1) := by decide +kernel
theorem dX2_make_17 : decode cX2_make 17 = .ok (.putfield 29, 3) := by decide +kernel
theorem dX2_make_20 : decode cX2_make 20 = .ok (.aload_n 0, 1) := by decide +kernel
theorem dX2_make_21 : decode cX2_make 21 = .ok (.getfield 25, 3) := by decide +kernel
theorem dX2_make_24 : decode cX2_make 24 = .ok (.aload_n 2, 1) := by decide +kernel
theorem dX2_make_25 : decode cX2_make 25 = .ok (.invokevirtual 43, 3) := by decide +kernel
theorem dX2_make_28 : decode cX2_make 28 = .ok (.iconst 0, 1) := by decide +kernel
theorem dX2_make_29 : decode cX2_make 29 = .ok (.istore_n 3, 1) := by decide +kernel
theorem dX2_make_30 : decode cX2_make 30 = .ok (.iload_n 3, 1) := by decide +kernel
theorem dX2_make_31 : decode cX2_make 31 = .ok (.aload_n 2, 1) := by decide +kernel
theorem dX2_make_32 : decode cX2_make 32 = .ok (.getfield 47, 3) := by decide +kernel
theorem dX2_make_35 : decode cX2_make 35 = .ok (.if_icmp .ge 19, 3) := by decide +kernel
theorem dX2_make_38 : decode cX2_make 38 = .ok (.iload_n 3, 1) := by decide +kernel
theorem dX2_make_39 : decode cX2_make 39 = .ok (.iconst 1, 1) := by decide +kernel
theorem dX2_make_40 : decode cX2_make 40 = .ok (.aload_n 0, 1) := by decide +kernel
theorem dX2_make_41 : decode cX2_make 41 = .ok (.aload_n 1, 1) := by decide +kernel
theorem dX2_make_42 : decode cX2_make 42 = .ok (.iload_n 3, 1) := by decide +kernel
theorem dX2_make_43 : decode cX2_make 43 = .ok (.invokevirtual 50, 3) := by decide +kernel
theorem dX2_make_46 : decode cX2_make 46 = .ok (.invokestatic 54, 3) := by decide +kernel
theorem dX2_make_49 : decode cX2_make 49 = .ok (.iadd, 1) := by decide +kernel
theorem dX2_make_50 : decode cX2_make 50 = .ok (.istore_n 3, 1) := by decide +kernel
theorem dX2_make_51 : decode cX2_make 51 = .ok (.goto (-21), 3) := by decide +kernel
theorem dX2_make_54 : decode cX2_make 54 = .ok (.return_, 1) := by decide +kernel
theorem dX2_goOn_0 : decode cX2_goOn 0 = .ok (.aload_n 1, 1) := by decide +kernel
theorem dX2_goOn_1 : decode cX2_goOn 1 = .ok (.aload_n 0, 1) := by decide +kernel
theorem dX2_goOn_2 : decode cX2_goOn 2 = .ok (.getfield 25, 3) := by decide +kernel
theorem dX2_goOn_5 : decode cX2_goOn 5 = .ok (.getfield 47, 3) := by decide +kernel
theorem dX2_goOn_8 : decode cX2_goOn 8 = .ok (.iload_n 2, 1) := by decide +kernel
theorem dX2_goOn_9 : decode cX2_goOn 9 = .ok (.isub, 1) := by decide +kernel
theorem dX2_goOn_10 : decode cX2_goOn 10 = .ok (.invokevirtual 60, 3) := by decide +kernel
theorem dX2_goOn_13 : decode cX2_goOn 13 = .ok (.istore_n 3, 1) := by decide +kernel
theorem dX2_goOn_14 : decode cX2_goOn 14 = .ok (.iload_n 3, 1) := by decide +kernel
theorem dX2_goOn_15 : decode cX2_goOn 15 = .ok (.ifCond .ne 7, 3) := by decide +kernel
theorem dX2_goOn_18 : decode cX2_goOn 18 = .ok (.iconst (-1), 1) := by decide +kernel
theorem dX2_goOn_19 : decode cX2_goOn 19 = .ok (.goto 10, 3) := by decide +kernel
theorem dX2_goOn_22 : decode cX2_goOn 22 = .ok (.aload_n 0, 1) := by decide +kernel
theorem dX2_goOn_23 : decode cX2_goOn 23 = .ok (.aload_n 1, 1) := by decide +kernel
theorem dX2_goOn_24 : decode cX2_goOn 24 = .ok (.iload_n 2, 1) := by decide +kernel
theorem dX2_goOn_25 : decode cX2_goOn 25 = .ok (.iload_n 3, 1) := by decide +kernel
theorem dX2_goOn_26 : decode cX2_goOn 26 = .ok (.invokevirtual 66, 3) := by decide +kernel
theorem dX2_goOn_29 : decode cX2_goOn 29 = .ok (.istore 4, 2) := by decide +kernel
theorem dX2_goOn_31 : decode cX2_goOn 31 = .ok (.iload 4, 2) := by decide +kernel
theorem dX2_goOn_33 : decode cX2_goOn 33 = .ok (.iconst (-1), 1) := by decide +kernel
theorem dX2_goOn_34 : decode cX2_goOn 34 = .ok (.if_icmp .ne 10, 3) := by decide +kernel
theorem dX2_goOn_37 : decode cX2_goOn 37 = .ok (.aload_n 0, 1) := by decide +kernel
theorem dX2_goOn_38 : decode cX2_goOn 38 = .ok (.iload_n 2, 1) := by decide +kernel
theorem dX2_goOn_39 : decode cX2_goOn 39 = .ok (.invokevirtual 70, 3) := by decide +kernel
theorem dX2_goOn_42 : decode cX2_goOn 42 = .ok (.iconst 1, 1) := by decide +kernel
theorem dX2_goOn_43 : decode cX2_goOn 43 = .ok (.ireturn, 1) := by decide +kernel
theorem dX2_goOn_44 : decode cX2_goOn 44 = .ok (.aload_n 0, 1) := by decide +kernel
theorem dX2_goOn_45 : decode cX2_goOn 45 = .ok (.iload 4, 2) := by decide +kernel
theorem dX2_goOn_47 : decode cX2_goOn 47 = .ok (.iload 4, 2) := by decide +kernel
theorem dX2_goOn_49 : decode cX2_goOn 49 = .ok (.aload_n 1, 1) := by decide +kernel
theorem dX2_goOn_50 : decode cX2_goOn 50 = .ok (.getfield 74, 3) := by decide +kernel
theorem dX2_goOn_53 : decode cX2_goOn 53 = .ok (.imul, 1) := by decide +kernel
theorem dX2_goOn_54 : decode cX2_goOn 54 = .ok (.iload_n 3, 1) := by decide +kernel
theorem dX2_goOn_55 : decode cX2_goOn 55 = .ok (.invokevirtual 77, 3) := by decide +kernel
theorem dX2_goOn_58 : decode cX2_goOn 58 = .ok (.iload_n 3, 1) := by decide +kernel
theorem dX2_goOn_59 : decode cX2_goOn 59 = .ok (.ireturn, 1) := by decide +kernel
theorem dX2_matchingBlock_0 : decode cX2_matchingBlock 0 = .ok (.aload_n 0, 1) := by decide +kernel
theorem dX2_matchingBlock_1 : decode cX2_matchingBlock 1 = .ok (.getfield 25, 3) := by decide +kernel
theorem dX2_matchingBlock_4 : decode cX2_matchingBlock 4 = .ok (.iload_n 2, 1) := by decide +kernel
theorem dX2_matchingBlock_5 : decode cX2_matchingBlock 5 = .ok (.iload_n 3, 1) := by decide +kernel
theorem dX2_matchingBlock_6 : decode cX2_matchingBlock 6 = .ok (.aload_n 1, 1) := by decide +kernel
theorem dX2_matchingBlock_7 : decode cX2_matchingBlock 7 = .ok (.getfield 81, 3) := by decide +kernel
theorem dX2_matchingBlock_10 : decode cX2_matchingBlock 10 = .ok (.invokevirtual 84, 3) := by decide +kernel
theorem dX2_matchingBlock_13 : decode cX2_matchingBlock 13 = .ok (.istore 4, 2) := by decide +kernel
theorem dX2_matchingBlock_15 : decode cX2_matchingBlock 15 = .ok (.aload_n 0, 1) := by decide +kernel
theorem dX2_matchingBlock_16 : decode cX2_matchingBlock 16 = .ok (.getfield 25, 3) := by decide +kernel
theorem dX2_matchingBlock_19 : decode cX2_matchingBlock 19 = .ok (.iload_n 2, 1) := by decide +kernel
theorem dX2_matchingBlock_20 : decode cX2_matchingBlock 20 = .ok (.iload_n 3, 1) := by decide +kernel
theorem dX2_matchingBlock_21 : decode cX2_matchingBlock 21 = .ok (.invokevirtual 88, 3) := by decide +kernel
theorem dX2_matchingBlock_24 : decode cX2_matchingBlock 24 = .ok (.lstore 5, 2) := by decide +kernel
theorem dX2_matchingBlock_26 : decode cX2_matchingBlock 26 = .ok (.iconst (-1), 1) := by decide +kernel
theorem dX2_matchingBlock_27 : decode cX2_matchingBlock 27 = .ok (.istore 7, 2) := by decide +kernel
theorem dX2_matchingBlock_29 : decode cX2_matchingBlock 29 = .ok (.iconst 0, 1) := by decide +kernel
theorem dX2_matchingBlock_30 : decode cX2_matchingBlock 30 = .ok (.istore 8, 2) := by decide +kernel
theorem dX2_matchingBlock_32 : decode cX2_matchingBlock 32 = .ok (.iconst 0, 1) := by decide +kernel
theorem dX2_matchingBlock_33 : decode cX2_matchingBlock 33 = .ok (.istore 9, 2) := by decide +kernel
theorem dX2_matchingBlock_35 : decode cX2_matchingBlock 35 = .ok (.iload 9, 2) := by decide +kernel
theorem dX2_matchingBlock_37 : decode cX2_matchingBlock 37 = .ok (.aload_n 1, 1) := by decide +kernel
theorem dX2_matchingBlock_38 : decode cX2_matchingBlock 38 = .ok (.getfield 92, 3) := by decide +kernel
theorem dX2_matchingBlock_41 : decode cX2_matchingBlock 41 = .ok (.if_icmp .ge 74, 3) := by decide +kernel
theorem dX2_matchingBlock_44 : decode cX2_matchingBlock 44 = .ok (.aload_n 1, 1) := by decide +kernel
theorem dX2_matchingBlock_45 : decode cX2_matchingBlock 45 = .ok (.iload 9, 2) := by decide +kernel
theorem dX2_matchingBlock_47 : decode cX2_matchingBlock 47 = .ok (.invokevirtual 93, 3) := by decide +kernel
theorem dX2_matchingBlock_50 : decode cX2_matchingBlock 50 = .ok (.iload_n 3, 1) := by decide +kernel
theorem dX2_matchingBlock_51 : decode cX2_matchingBlock 51 = .ok (.if_icmp .ne 58, 3) := by decide +kernel
theorem dX2_matchingBlock_54 : decode cX2_matchingBlock 54 = .ok (.aload_n 1, 1) := by decide +kernel
theorem dX2_matchingBlock_55 : decode cX2_matchingBlock 55 = .ok (.getfield 96, 3) := by decide +kernel
theorem dX2_matchingBlock_58 : decode cX2_matchingBlock 58 = .ok (.iload 9, 2) := by decide +kernel
theorem dX2_matchingBlock_60 : decode cX2_matchingBlock 60 = .ok (.iaload, 1) := by decide +kernel
theorem dX2_matchingBlock_61 : decode cX2_matchingBlock 61 = .ok (.iload 4, 2) := by decide +kernel
theorem dX2_matchingBlock_63 : decode cX2_matchingBlock 63 = .ok (.if_icmp .ne 46, 3) := by decide +kernel
theorem dX2_matchingBlock_66 : decode cX2_matchingBlock 66 = .ok (.iconst 1, 1) := by decide +kernel
theorem dX2_matchingBlock_67 : decode cX2_matchingBlock 67 = .ok (.istore 8, 2) := by decide +kernel
theorem dX2_matchingBlock_69 : decode cX2_matchingBlock 69 = .ok (.aload_n 1, 1) := by decide +kernel
theorem dX2_matchingBlock_70 : decode cX2_matchingBlock 70 = .ok (.getfield 99, 3) := by decide +kernel
theorem dX2_matchingBlock_73 : decode cX2_matchingBlock 73 = .ok (.iload 9, 2) := by decide +kernel
theorem dX2_matchingBlock_75 : decode cX2_matchingBlock 75 = .ok (.laload, 1) := by decide +kernel
theorem dX2_matchingBlock_76 : decode cX2_matchingBlock 76 = .ok (.lload 5, 2) := by decide +kernel
theorem dX2_matchingBlock_78 : decode cX2_matchingBlock 78 = .ok (.lcmp, 1) := by decide +kernel
theorem dX2_matchingBlock_79 : decode cX2_matchingBlock 79 = .ok (.ifCond .ne 30, 3) := by decide +kernel
theorem dX2_matchingBlock_82 : decode cX2_matchingBlock 82 = .ok (.iload 9, 2) := by decide +kernel
theorem dX2_matchingBlock_84 : decode cX2_matchingBlock 84 = .ok (.aload_n 0, 1) := by decide +kernel
theorem dX2_matchingBlock_85 : decode cX2_matchingBlock 85 = .ok (.getfield 29, 3) := by decide +kernel
theorem dX2_matchingBlock_88 : decode cX2_matchingBlock 88 = .ok (.if_icmp .ne 6, 3) := by decide +kernel
theorem dX2_matchingBlock_91 : decode cX2_matchingBlock 91 = .ok (.iload 9, 2) := by decide +kernel
theorem dX2_matchingBlock_93 : decode cX2_matchingBlock 93 = .ok (.ireturn, 1) := by decide +kernel
theorem dX2_matchingBlock_94 : decode cX2_matchingBlock 94 = .ok (.iload 7, 2) := by decide +kernel
theorem dX2_matchingBlock_96 : decode cX2_matchingBlock 96 = .ok (.iconst (-1), 1) := by decide +kernel
theorem dX2_matchingBlock_97 : decode cX2_matchingBlock 97 = .ok (.if_icmp .ne 8, 3) := by decide +kernel
theorem dX2_matchingBlock_100 : decode cX2_matchingBlock 100 = .ok (.iload 9, 2) := by decide +kernel
theorem dX2_matchingBlock_102 : decode cX2_matchingBlock 102 = .ok (.goto 5, 3) := by decide +kernel
theorem dX2_matchingBlock_105 : decode cX2_matchingBlock 105 = .ok (.iload 7, 2) := by decide +kernel
theorem dX2_matchingBlock_107 : decode cX2_matchingBlock 107 = .ok (.istore 7, 2) := by decide +kernel
theorem dX2_matchingBlock_109 : decode cX2_matchingBlock 109 = .ok (.iinc 9 1, 3) := by decide +kernel
theorem dX2_matchingBlock_112 : decode cX2_matchingBlock 112 = .ok (.goto (-77), 3) := by decide +kernel
theorem dX2_matchingBlock_115 : decode cX2_matchingBlock 115 = .ok (.iload 8, 2) := by decide +kernel
theorem dX2_matchingBlock_117 : decode cX2_matchingBlock 117 = .ok (.ifCond .eq 19, 3) := by decide +kernel
theorem dX2_matchingBlock_120 : decode cX2_matchingBlock 120 = .ok (.iload 7, 2) := by decide +kernel
theorem dX2_matchingBlock_122 : decode cX2_matchingBlock 122 = .ok (.iconst (-1), 1) := by decide +kernel
theorem dX2_matchingBlock_123 : decode cX2_matchingBlock 123 = .ok (.if_icmp .ne 13, 3) := by decide +kernel
theorem dX2_matchingBlock_126 : decode cX2_matchingBlock 126 = .ok (.aload_n 0, 1) := by decide +kernel
theorem dX2_matchingBlock_127 : decode cX2_matchingBlock 127 = .ok (.dup, 1) := by decide +kernel
theorem dX2_matchingBlock_128 : decode cX2_matchingBlock 128 = .ok (.getfield 40, 3) := by decide +kernel
theorem dX2_matchingBlock_131 : decode cX2_matchingBlock 131 = .ok (.iconst 1, 1) := by decide +kernel
theorem dX2_matchingBlock_132 : decode cX2_matchingBlock 132 = .ok (.iadd, 1) := by decide +kernel
theorem dX2_matchingBlock_133 : decode cX2_matchingBlock 133 = .ok (.putfield 40, 3) := by decide +kernel
theorem dX2_matchingBlock_136 : decode cX2_matchingBlock 136 = .ok (.iload 7, 2) := by decide +kernel
theorem dX2_matchingBlock_138 : decode cX2_matchingBlock 138 = .ok (.ireturn, 1) := by decide +kernel
theorem dX2_addCopy_0 : decode cX2_addCopy 0 = .ok (.iload_n 1, 1) := by decide +kernel
theorem dX2_addCopy_1 : decode cX2_addCopy 1 = .ok (.aload_n 0, 1) := by decide +kernel
theorem dX2_addCopy_2 : decode cX2_addCopy 2 = .ok (.getfield 29, 3) := by decide +kernel
theorem dX2_addCopy_5 : decode cX2_addCopy 5 = .ok (.if_icmp .ne 28, 3) := by decide +kernel
theorem dX2_addCopy_8 : decode cX2_addCopy 8 = .ok (.aload_n 0, 1) := by decide +kernel
theorem dX2_addCopy_9 : decode cX2_addCopy 9 = .ok (.getfield 37, 3) := by decide +kernel
theorem dX2_addCopy_12 : decode cX2_addCopy 12 = .ok (.ifCond .le 21, 3) := by decide +kernel
theorem dX2_addCopy_15 : decode cX2_addCopy 15 = .ok (.aload_n 0, 1) := by decide +kernel
theorem dX2_addCopy_16 : decode cX2_addCopy 16 = .ok (.getfield 19, 3) := by decide +kernel
theorem dX2_addCopy_19 : decode cX2_addCopy 19 = .ok (.aload_n 0, 1) := by decide +kernel
theorem dX2_addCopy_20 : decode cX2_addCopy 20 = .ok (.getfield 37, 3) := by decide +kernel
theorem dX2_addCopy_23 : decode cX2_addCopy 23 = .ok (.iconst 1, 1) := by decide +kernel
theorem dX2_addCopy_24 : decode cX2_addCopy 24 = .ok (.isub, 1) := by decide +kernel
theorem dX2_addCopy_25 : decode cX2_addCopy 25 = .ok (.dup2, 1) := by decide +kernel
theorem dX2_addCopy_26 : decode cX2_addCopy 26 = .ok (.iaload, 1) := by decide +kernel
theorem dX2_addCopy_27 : decode cX2_addCopy 27 = .ok (.iload_n 3, 1) := by decide +kernel
theorem dX2_addCopy_28 : decode cX2_addCopy 28 = .ok (.iadd, 1) := by decide +kernel
theorem dX2_addCopy_29 : decode cX2_addCopy 29 = .ok (.iastore, 1) := by decide +kernel
theorem dX2_addCopy_30 : decode cX2_addCopy 30 = .ok (.goto 10, 3) := by decide +kernel
theorem dX2_addCopy_33 : decode cX2_addCopy 33 = .ok (.aload_n 0, 1) := by decide +kernel
theorem dX2_addCopy_34 : decode cX2_addCopy 34 = .ok (.iconst 1, 1) := by decide +kernel
theorem dX2_addCopy_35 : decode cX2_addCopy 35 = .ok (.iload_n 2, 1) := by decide +kernel
theorem dX2_addCopy_36 : decode cX2_addCopy 36 = .ok (.iload_n 3, 1) := by decide +kernel
theorem dX2_addCopy_37 : decode cX2_addCopy 37 = .ok (.invokevirtual 103, 3) := by decide +kernel
theorem dX2_addCopy_40 : decode cX2_addCopy 40 = .ok (.aload_n 0, 1) := by decide +kernel
theorem dX2_addCopy_41 : decode cX2_addCopy 41 = .ok (.iload_n 1, 1) := by decide +kernel
theorem dX2_addCopy_42 : decode cX2_addCopy 42 = .ok (.iconst 1, 1) := by decide +kernel
theorem dX2_addCopy_43 : decode cX2_addCopy 43 = .ok (.iadd, 1) := by decide +kernel
theorem dX2_addCopy_44 : decode cX2_addCopy 44 = .ok (.putfield 29, 3) := by decide +kernel
theorem dX2_addCopy_47 : decode cX2_addCopy 47 = .ok (.return_, 1) := by decide +kernel
theorem dX2_addLiteral_0 : decode cX2_addLiteral 0 = .ok (.aload_n 0, 1) := by decide +kernel
theorem dX2_addLiteral_1 : decode cX2_addLiteral 1 = .ok (.getfield 37, 3) := by decide +kernel
theorem dX2_addLiteral_4 : decode cX2_addLiteral 4 = .ok (.ifCond .le 35, 3) := by decide +kernel
theorem dX2_addLiteral_7 : decode cX2_addLiteral 7 = .ok (.aload_n 0, 1) := by decide +kernel
theorem dX2_addLiteral_8 : decode cX2_addLiteral 8 = .ok (.getfield 9, 3) := by decide +kernel
theorem dX2_addLiteral_11 : decode cX2_addLiteral 11 = .ok (.aload_n 0, 1) := by decide +kernel
theorem dX2_addLiteral_12 : decode cX2_addLiteral 12 = .ok (.getfield 37, 3) := by decide +kernel
theorem dX2_addLiteral_15 : decode cX2_addLiteral 15 = .ok (.iconst 1, 1) := by decide +kernel
theorem dX2_addLiteral_16 : decode cX2_addLiteral 16 = .ok (.isub, 1) := by decide +kernel
theorem dX2_addLiteral_17 : decode cX2_addLiteral 17 = .ok (.baload, 1) := by decide +kernel
theorem dX2_addLiteral_18 : decode cX2_addLiteral 18 = .ok (.ifCond .ne 21, 3) := by decide +kernel
theorem dX2_addLiteral_21 : decode cX2_addLiteral 21 = .ok (.aload_n 0, 1) := by decide +kernel
theorem dX2_addLiteral_22 : decode cX2_addLiteral 22 = .ok (.getfield 19, 3) := by decide +kernel
theorem dX2_addLiteral_25 : decode cX2_addLiteral 25 = .ok (.aload_n 0, 1) := by decide +kernel
theorem dX2_addLiteral_26 : decode cX2_addLiteral 26 = .ok (.getfield 37, 3) := by decide +kernel
theorem dX2_addLiteral_29 : decode cX2_addLiteral 29 = .ok (.iconst 1, 1) := by decide +kernel
theorem dX2_addLiteral_30 : decode cX2_addLiteral 30 = .ok (.isub, 1) := by decide +kernel
theorem dX2_addLiteral_31 : decode cX2_addLiteral 31 = .ok (.dup2, 1) := by decide +kernel
theorem dX2_addLiteral_32 : decode cX2_addLiteral 32 = .ok (.iaload, 1) := by decide +kernel
theorem dX2_addLiteral_33 : decode cX2_addLiteral 33 = .ok (.iconst 1, 1) := by decide +kernel
theorem dX2_addLiteral_34 : decode cX2_addLiteral 34 = .ok (.iadd, 1) := by decide +kernel
theorem dX2_addLiteral_35 : decode cX2_addLiteral 35 = .ok (.iastore, 1) := by decide +kernel
theorem dX2_addLiteral_36 : decode cX2_addLiteral 36 = .ok (.goto 10, 3) := by decide +kernel
theorem dX2_addLiteral_39 : decode cX2_addLiteral 39 = .ok (.aload_n 0, 1) := by decide +kernel
theorem dX2_addLiteral_40 : decode cX2_addLiteral 40 = .ok (.iconst 0, 1) := by decide +kernel
theorem dX2_addLiteral_41 : decode cX2_addLiteral 41 = .ok (.iload_n 1, 1) := by decide +kernel
theorem dX2_addLiteral_42 : decode cX2_addLiteral 42 = .ok (.iconst 1, 1) := by decide +kernel
theorem dX2_addLiteral_43 : decode cX2_addLiteral 43 = .ok (.invokevirtual 103, 3) := by decide +kernel
theorem dX2_addLiteral_46 : decode cX2_addLiteral 46 = .ok (.aload_n 0, 1) := by decide +kernel
theorem dX2_addLiteral_47 : decode cX2_addLiteral 47 = .ok (.iconst (-1), 1) := by decide +kernel
theorem dX2_addLiteral_48 : decode cX2_addLiteral 48 = .ok (.putfield 29, 3) := by decide +kernel
theorem dX2_addLiteral_51 : decode cX2_addLiteral 51 = .ok (.return_, 1) := by decide +kernel
theorem dX2_begin_0 : decode cX2_begin 0 = .ok (.aload_n 0, 1) := by decide +kernel
theorem dX2_begin_1 : decode cX2_begin 1 = .ok (.getfield 37, 3) := by decide +kernel
theorem dX2_begin_4 : decode cX2_begin 4 = .ok (.aload_n 0, 1) := by decide +kernel
theorem dX2_begin_5 : decode cX2_begin 5 = .ok (.getfield 9, 3) := by decide +kernel
theorem dX2_begin_8 : decode cX2_begin 8 = .ok (.arraylength, 1) := by decide +kernel
theorem dX2_begin_9 : decode cX2_begin 9 = .ok (.if_icmp .ge 43, 3) := by decide +kernel
theorem dX2_begin_12 : decode cX2_begin 12 = .ok (.aload_n 0, 1) := by decide +kernel
theorem dX2_begin_13 : decode cX2_begin 13 = .ok (.getfield 9, 3) := by decide +kernel
theorem dX2_begin_16 : decode cX2_begin 16 = .ok (.aload_n 0, 1) := by decide +kernel
theorem dX2_begin_17 : decode cX2_begin 17 = .ok (.getfield 37, 3) := by decide +kernel
theorem dX2_begin_20 : decode cX2_begin 20 = .ok (.iload_n 1, 1) := by decide +kernel
theorem dX2_begin_21 : decode cX2_begin 21 = .ok (.bastore, 1) := by decide +kernel
theorem dX2_begin_22 : decode cX2_begin 22 = .ok (.aload_n 0, 1) := by decide +kernel
theorem dX2_begin_23 : decode cX2_begin 23 = .ok (.getfield 15, 3) := by decide +kernel
theorem dX2_begin_26 : decode cX2_begin 26 = .ok (.aload_n 0, 1) := by decide +kernel
theorem dX2_begin_27 : decode cX2_begin 27 = .ok (.getfield 37, 3) := by decide +kernel
theorem dX2_begin_30 : decode cX2_begin 30 = .ok (.iload_n 2, 1) := by decide +kernel
theorem dX2_begin_31 : decode cX2_begin 31 = .ok (.iastore, 1) := by decide +kernel
theorem dX2_begin_32 : decode cX2_begin 32 = .ok (.aload_n 0, 1) := by decide +kernel
theorem dX2_begin_33 : decode cX2_begin 33 = .ok (.getfield 19, 3) := by decide +kernel
theorem dX2_begin_36 : decode cX2_begin 36 = .ok (.aload_n 0, 1) := by decide +kernel
theorem dX2_begin_37 : decode cX2_begin 37 = .ok (.getfield 37, 3) := by decide +kernel
theorem dX2_begin_40 : decode cX2_begin 40 = .ok (.iload_n 3, 1) := by decide +kernel
theorem dX2_begin_41 : decode cX2_begin 41 = .ok (.iastore, 1) := by decide +kernel
theorem dX2_begin_42 : decode cX2_begin 42 = .ok (.aload_n 0, 1) := by decide +kernel
theorem dX2_begin_43 : decode cX2_begin 43 = .ok (.dup, 1) := by decide +kernel
theorem dX2_begin_44 : decode cX2_begin 44 = .ok (.getfield 37, 3) := by decide +kernel
theorem dX2_begin_47 : decode cX2_begin 47 = .ok (.iconst 1, 1) := by decide +kernel
theorem dX2_begin_48 : decode cX2_begin 48 = .ok (.iadd, 1) := by decide +kernel
theorem dX2_begin_49 : decode cX2_begin 49 = .ok (.putfield 37, 3) := by decide +kernel
theorem dX2_begin_52 : decode cX2_begin 52 = .ok (.return_, 1) := by decide +kernel
theorem dX2_price_0 : decode cX2_price 0 = .ok (.iconst 0, 1) := by decide +kernel
theorem dX2_price_1 : decode cX2_price 1 = .ok (.istore_n 1, 1) := by decide +kernel
theorem dX2_price_2 : decode cX2_price 2 = .ok (.iconst 0, 1) := by decide +kernel
theorem dX2_price_3 : decode cX2_price 3 = .ok (.istore_n 2, 1) := by decide +kernel
theorem dX2_price_4 : decode cX2_price 4 = .ok (.iload_n 2, 1) := by decide +kernel
theorem dX2_price_5 : decode cX2_price 5 = .ok (.aload_n 0, 1) := by decide +kernel
theorem dX2_price_6 : decode cX2_price 6 = .ok (.getfield 37, 3) := by decide +kernel
theorem dX2_price_9 : decode cX2_price 9 = .ok (.if_icmp .ge 33, 3) := by decide +kernel
theorem dX2_price_12 : decode cX2_price 12 = .ok (.iload_n 1, 1) := by decide +kernel
theorem dX2_price_13 : decode cX2_price 13 = .ok (.aload_n 0, 1) := by decide +kernel
theorem dX2_price_14 : decode cX2_price 14 = .ok (.getfield 9, 3) := by decide +kernel
theorem dX2_price_17 : decode cX2_price 17 = .ok (.iload_n 2, 1) := by decide +kernel
theorem dX2_price_18 : decode cX2_price 18 = .ok (.baload, 1) := by decide +kernel
theorem dX2_price_19 : decode cX2_price 19 = .ok (.ifCond .eq 7, 3) := by decide +kernel
theorem dX2_price_22 : decode cX2_price 22 = .ok (.iconst 3, 1) := by decide +kernel
theorem dX2_price_23 : decode cX2_price 23 = .ok (.goto 11, 3) := by decide +kernel
theorem dX2_price_26 : decode cX2_price 26 = .ok (.iconst 1, 1) := by decide +kernel
theorem dX2_price_27 : decode cX2_price 27 = .ok (.aload_n 0, 1) := by decide +kernel
theorem dX2_price_28 : decode cX2_price 28 = .ok (.getfield 19, 3) := by decide +kernel
theorem dX2_price_31 : decode cX2_price 31 = .ok (.iload_n 2, 1) := by decide +kernel
theorem dX2_price_32 : decode cX2_price 32 = .ok (.iaload, 1) := by decide +kernel
theorem dX2_price_33 : decode cX2_price 33 = .ok (.iadd, 1) := by decide +kernel
theorem dX2_price_34 : decode cX2_price 34 = .ok (.iadd, 1) := by decide +kernel
theorem dX2_price_35 : decode cX2_price 35 = .ok (.istore_n 1, 1) := by decide +kernel
theorem dX2_price_36 : decode cX2_price 36 = .ok (.iinc 2 1, 3) := by decide +kernel
theorem dX2_price_39 : decode cX2_price 39 = .ok (.goto (-35), 3) := by decide +kernel
theorem dX2_price_42 : decode cX2_price 42 = .ok (.iload_n 1, 1) := by decide +kernel
theorem dX2_price_43 : decode cX2_price 43 = .ok (.ireturn, 1) := by decide +kernel
theorem dX2_fits_0 : decode cX2_fits 0 = .ok (.iconst 0, 1) := by decide +kernel
theorem dX2_fits_1 : decode cX2_fits 1 = .ok (.istore_n 2, 1) := by decide +kernel
theorem dX2_fits_2 : decode cX2_fits 2 = .ok (.iload_n 2, 1) := by decide +kernel
theorem dX2_fits_3 : decode cX2_fits 3 = .ok (.aload_n 0, 1) := by decide +kernel
theorem dX2_fits_4 : decode cX2_fits 4 = .ok (.getfield 37, 3) := by decide +kernel
theorem dX2_fits_7 : decode cX2_fits 7 = .ok (.if_icmp .ge 40, 3) := by decide +kernel
theorem dX2_fits_10 : decode cX2_fits 10 = .ok (.aload_n 0, 1) := by decide +kernel
theorem dX2_fits_11 : decode cX2_fits 11 = .ok (.getfield 9, 3) := by decide +kernel
theorem dX2_fits_14 : decode cX2_fits 14 = .ok (.iload_n 2, 1) := by decide +kernel
theorem dX2_fits_15 : decode cX2_fits 15 = .ok (.baload, 1) := by decide +kernel
theorem dX2_fits_16 : decode cX2_fits 16 = .ok (.ifCond .eq 25, 3) := by decide +kernel
theorem dX2_fits_19 : decode cX2_fits 19 = .ok (.aload_n 0, 1) := by decide +kernel
theorem dX2_fits_20 : decode cX2_fits 20 = .ok (.getfield 15, 3) := by decide +kernel
theorem dX2_fits_23 : decode cX2_fits 23 = .ok (.iload_n 2, 1) := by decide +kernel
theorem dX2_fits_24 : decode cX2_fits 24 = .ok (.iaload, 1) := by decide +kernel
theorem dX2_fits_25 : decode cX2_fits 25 = .ok (.aload_n 0, 1) := by decide +kernel
theorem dX2_fits_26 : decode cX2_fits 26 = .ok (.getfield 19, 3) := by decide +kernel
theorem dX2_fits_29 : decode cX2_fits 29 = .ok (.iload_n 2, 1) := by decide +kernel
theorem dX2_fits_30 : decode cX2_fits 30 = .ok (.iaload, 1) := by decide +kernel
theorem dX2_fits_31 : decode cX2_fits 31 = .ok (.iadd, 1) := by decide +kernel
theorem dX2_fits_32 : decode cX2_fits 32 = .ok (.aload_n 1, 1) := by decide +kernel
theorem dX2_fits_33 : decode cX2_fits 33 = .ok (.getfield 47, 3) := by decide +kernel
theorem dX2_fits_36 : decode cX2_fits 36 = .ok (.if_icmp .le 5, 3) := by decide +kernel
theorem dX2_fits_39 : decode cX2_fits 39 = .ok (.iconst 0, 1) := by decide +kernel
theorem dX2_fits_40 : decode cX2_fits 40 = .ok (.ireturn, 1) := by decide +kernel
theorem dX2_fits_41 : decode cX2_fits 41 = .ok (.iinc 2 1, 3) := by decide +kernel
theorem dX2_fits_44 : decode cX2_fits 44 = .ok (.goto (-42), 3) := by decide +kernel
theorem dX2_fits_47 : decode cX2_fits 47 = .ok (.iconst 1, 1) := by decide +kernel
theorem dX2_fits_48 : decode cX2_fits 48 = .ok (.ireturn, 1) := by decide +kernel
theorem dX2_give_0 : decode cX2_give 0 = .ok (.aload_n 2, 1) := by decide +kernel
theorem dX2_give_1 : decode cX2_give 1 = .ok (.iconst 0, 1) := by decide +kernel
theorem dX2_give_2 : decode cX2_give 2 = .ok (.putfield 47, 3) := by decide +kernel
theorem dX2_give_5 : decode cX2_give 5 = .ok (.iconst 0, 1) := by decide +kernel
theorem dX2_give_6 : decode cX2_give 6 = .ok (.istore_n 3, 1) := by decide +kernel
theorem dX2_give_7 : decode cX2_give 7 = .ok (.iload_n 3, 1) := by decide +kernel
theorem dX2_give_8 : decode cX2_give 8 = .ok (.aload_n 0, 1) := by decide +kernel
theorem dX2_give_9 : decode cX2_give 9 = .ok (.getfield 37, 3) := by decide +kernel
theorem dX2_give_12 : decode cX2_give 12 = .ok (.if_icmp .ge 42, 3) := by decide +kernel
theorem dX2_give_15 : decode cX2_give 15 = .ok (.aload_n 2, 1) := by decide +kernel
theorem dX2_give_16 : decode cX2_give 16 = .ok (.aload_n 0, 1) := by decide +kernel
theorem dX2_give_17 : decode cX2_give 17 = .ok (.getfield 9, 3) := by decide +kernel
theorem dX2_give_20 : decode cX2_give 20 = .ok (.iload_n 3, 1) := by decide +kernel
theorem dX2_give_21 : decode cX2_give 21 = .ok (.baload, 1) := by decide +kernel
theorem dX2_give_22 : decode cX2_give 22 = .ok (.ifCond .eq 7, 3) := by decide +kernel
theorem dX2_give_25 : decode cX2_give 25 = .ok (.aload_n 1, 1) := by decide +kernel
theorem dX2_give_26 : decode cX2_give 26 = .ok (.goto 7, 3) := by decide +kernel
theorem dX2_give_29 : decode cX2_give 29 = .ok (.aload_n 0, 1) := by decide +kernel
theorem dX2_give_30 : decode cX2_give 30 = .ok (.getfield 25, 3) := by decide +kernel
theorem dX2_give_33 : decode cX2_give 33 = .ok (.aload_n 0, 1) := by decide +kernel
theorem dX2_give_34 : decode cX2_give 34 = .ok (.getfield 15, 3) := by decide +kernel
theorem dX2_give_37 : decode cX2_give 37 = .ok (.iload_n 3, 1) := by decide +kernel
theorem dX2_give_38 : decode cX2_give 38 = .ok (.iaload, 1) := by decide +kernel
theorem dX2_give_39 : decode cX2_give 39 = .ok (.aload_n 0, 1) := by decide +kernel
theorem dX2_give_40 : decode cX2_give 40 = .ok (.getfield 19, 3) := by decide +kernel
theorem dX2_give_43 : decode cX2_give 43 = .ok (.iload_n 3, 1) := by decide +kernel
theorem dX2_give_44 : decode cX2_give 44 = .ok (.iaload, 1) := by decide +kernel
theorem dX2_give_45 : decode cX2_give 45 = .ok (.invokevirtual 107, 3) := by decide +kernel
theorem dX2_give_48 : decode cX2_give 48 = .ok (.iinc 3 1, 3) := by decide +kernel
theorem dX2_give_51 : decode cX2_give 51 = .ok (.goto (-44), 3) := by decide +kernel
theorem dX2_give_54 : decode cX2_give 54 = .ok (.return_, 1) := by decide +kernel
theorem dX3_init_0 : decode cX3_init 0 = .ok (.aload_n 0, 1) := by decide +kernel
theorem dX3_init_1 : decode cX3_init 1 = .ok (.invokespecial 1, 3) := by decide +kernel
theorem dX3_init_4 : decode cX3_init 4 = .ok (.aload_n 0, 1) := by decide +kernel
theorem dX3_init_5 : decode cX3_init 5 = .ok (.new 7, 3) := by decide +kernel
theorem dX3_init_8 : decode cX3_init 8 = .ok (.dup, 1) := by decide +kernel
theorem dX3_init_9 : decode cX3_init 9 = .ok (.invokespecial 9, 3) := by decide +kernel
theorem dX3_init_12 : decode cX3_init 12 = .ok (.putfield 10, 3) := by decide +kernel
theorem dX3_init_15 : decode cX3_init 15 = .ok (.return_, 1) := by decide +kernel
theorem dX3_writeTo_0 : decode cX3_writeTo 0 = .ok (.aload_n 1, 1) := by decide +kernel
theorem dX3_writeTo_1 : decode cX3_writeTo 1 = .ok (.iconst 0, 1) := by decide +kernel
theorem dX3_writeTo_2 : decode cX3_writeTo 2 = .ok (.putfield 16, 3) := by decide +kernel
theorem dX3_writeTo_5 : decode cX3_writeTo 5 = .ok (.iconst 0, 1) := by decide +kernel
theorem dX3_writeTo_6 : decode cX3_writeTo 6 = .ok (.istore_n 2, 1) := by decide +kernel
theorem dX3_writeTo_7 : decode cX3_writeTo 7 = .ok (.iload_n 2, 1) := by decide +kernel
theorem dX3_writeTo_8 : decode cX3_writeTo 8 = .ok (.aload_n 0, 1) := by decide +kernel
theorem dX3_writeTo_9 : decode cX3_writeTo 9 = .ok (.getfield 10, 3) := by decide +kernel
theorem dX3_writeTo_12 : decode cX3_writeTo 12 = .ok (.invokevirtual 22, 3) := by decide +kernel
theorem dX3_writeTo_15 : decode cX3_writeTo 15 = .ok (.if_icmp .ge 50, 3) := by decide +kernel
theorem dX3_writeTo_18 : decode cX3_writeTo 18 = .ok (.aload_n 0, 1) := by decide +kernel
theorem dX3_writeTo_19 : decode cX3_writeTo 19 = .ok (.getfield 10, 3) := by decide +kernel
theorem dX3_writeTo_22 : decode cX3_writeTo 22 = .ok (.iload_n 2, 1) := by decide +kernel
theorem dX3_writeTo_23 : decode cX3_writeTo 23 = .ok (.invokevirtual 25, 3) := by decide +kernel
theorem dX3_writeTo_26 : decode cX3_writeTo 26 = .ok (.checkcast 29, 3) := by decide +kernel
theorem dX3_writeTo_29 : decode cX3_writeTo 29 = .ok (.astore_n 3, 1) := by decide +kernel
theorem dX3_writeTo_30 : decode cX3_writeTo 30 = .ok (.iconst 0, 1) := by decide +kernel
theorem dX3_writeTo_31 : decode cX3_writeTo 31 = .ok (.istore 4, 2) := by decide +kernel
theorem dX3_writeTo_33 : decode cX3_writeTo 33 = .ok (.iload 4, 2) := by decide +kernel
theorem dX3_writeTo_35 : decode cX3_writeTo 35 = .ok (.aload_n 3, 1) := by decide +kernel
theorem dX3_writeTo_36 : decode cX3_writeTo 36 = .ok (.getfield 31, 3) := by decide +kernel
theorem dX3_writeTo_39 : decode cX3_writeTo 39 = .ok (.if_icmp .ge 20, 3) := by decide +kernel
theorem dX3_writeTo_42 : decode cX3_writeTo 42 = .ok (.aload_n 1, 1) := by decide +kernel
theorem dX3_writeTo_43 : decode cX3_writeTo 43 = .ok (.aload_n 3, 1) := by decide +kernel
theorem dX3_writeTo_44 : decode cX3_writeTo 44 = .ok (.getfield 32, 3) := by decide +kernel
theorem dX3_writeTo_47 : decode cX3_writeTo 47 = .ok (.iload 4, 2) := by decide +kernel
theorem dX3_writeTo_49 : decode cX3_writeTo 49 = .ok (.iaload, 1) := by decide +kernel
theorem dX3_writeTo_50 : decode cX3_writeTo 50 = .ok (.invokevirtual 36, 3) := by decide +kernel
theorem dX3_writeTo_53 : decode cX3_writeTo 53 = .ok (.iinc 4 1, 3) := by decide +kernel
theorem dX3_writeTo_56 : decode cX3_writeTo 56 = .ok (.goto (-23), 3) := by decide +kernel
theorem dX3_writeTo_59 : decode cX3_writeTo 59 = .ok (.iinc 2 1, 3) := by decide +kernel
theorem dX3_writeTo_62 : decode cX3_writeTo 62 = .ok (.goto (-55), 3) := by decide +kernel
theorem dX3_writeTo_65 : decode cX3_writeTo 65 = .ok (.return_, 1) := by decide +kernel
theorem dX4_init_0 : decode cX4_init 0 = .ok (.aload_n 0, 1) := by decide +kernel
theorem dX4_init_1 : decode cX4_init 1 = .ok (.invokespecial 3, 3) := by decide +kernel
theorem dX4_init_4 : decode cX4_init 4 = .ok (.aload_n 0, 1) := by decide +kernel
theorem dX4_init_5 : decode cX4_init 5 = .ok (.bipush 120, 2) := by decide +kernel
theorem dX4_init_7 : decode cX4_init 7 = .ok (.newarray .int, 2) := by decide +kernel
theorem dX4_init_9 : decode cX4_init 9 = .ok (.putfield 9, 3) := by decide +kernel
theorem dX4_init_12 : decode cX4_init 12 = .ok (.return_, 1) := by decide +kernel
theorem dX4_at_0 : decode cX4_at 0 = .ok (.iload_n 1, 1) := by decide +kernel
theorem dX4_at_1 : decode cX4_at 1 = .ok (.ifCond .lt 20, 3) := by decide +kernel
theorem dX4_at_4 : decode cX4_at 4 = .ok (.iload_n 1, 1) := by decide +kernel
theorem dX4_at_5 : decode cX4_at 5 = .ok (.aload_n 0, 1) := by decide +kernel
theorem dX4_at_6 : decode cX4_at 6 = .ok (.getfield 15, 3) := by decide +kernel
theorem dX4_at_9 : decode cX4_at 9 = .ok (.if_icmp .ge 12, 3) := by decide +kernel
theorem dX4_at_12 : decode cX4_at 12 = .ok (.aload_n 0, 1) := by decide +kernel
theorem dX4_at_13 : decode cX4_at 13 = .ok (.getfield 9, 3) := by decide +kernel
theorem dX4_at_16 : decode cX4_at 16 = .ok (.iload_n 1, 1) := by decide +kernel
theorem dX4_at_17 : decode cX4_at 17 = .ok (.iaload, 1) := by decide +kernel
theorem dX4_at_18 : decode cX4_at 18 = .ok (.goto 4, 3) := by decide +kernel
theorem dX4_at_21 : decode cX4_at 21 = .ok (.iconst 0, 1) := by decide +kernel
theorem dX4_at_22 : decode cX4_at 22 = .ok (.ireturn, 1) := by decide +kernel
theorem dX4_append_0 : decode cX4_append 0 = .ok (.aload_n 0, 1) := by decide +kernel
theorem dX4_append_1 : decode cX4_append 1 = .ok (.getfield 15, 3) := by decide +kernel
theorem dX4_append_4 : decode cX4_append 4 = .ok (.aload_n 0, 1) := by decide +kernel
theorem dX4_append_5 : decode cX4_append 5 = .ok (.getfield 9, 3) := by decide +kernel
theorem dX4_append_8 : decode cX4_append 8 = .ok (.arraylength, 1) := by decide +kernel
theorem dX4_append_9 : decode cX4_append 9 = .ok (.if_icmp .ge 23, 3) := by decide +kernel
theorem dX4_append_12 : decode cX4_append 12 = .ok (.aload_n 0, 1) := by decide +kernel
theorem dX4_append_13 : decode cX4_append 13 = .ok (.getfield 9, 3) := by decide +kernel
theorem dX4_append_16 : decode cX4_append 16 = .ok (.aload_n 0, 1) := by decide +kernel
theorem dX4_append_17 : decode cX4_append 17 = .ok (.getfield 15, 3) := by decide +kernel
theorem dX4_append_20 : decode cX4_append 20 = .ok (.iload_n 1, 1) := by decide +kernel
theorem dX4_append_21 : decode cX4_append 21 = .ok (.iastore, 1) := by decide +kernel
theorem dX4_append_22 : decode cX4_append 22 = .ok (.aload_n 0, 1) := by decide +kernel
theorem dX4_append_23 : decode cX4_append 23 = .ok (.dup, 1) := by decide +kernel
theorem dX4_append_24 : decode cX4_append 24 = .ok (.getfield 15, 3) := by decide +kernel
theorem dX4_append_27 : decode cX4_append 27 = .ok (.iconst 1, 1) := by decide +kernel
theorem dX4_append_28 : decode cX4_append 28 = .ok (.iadd, 1) := by decide +kernel
theorem dX4_append_29 : decode cX4_append 29 = .ok (.putfield 15, 3) := by decide +kernel
theorem dX4_append_32 : decode cX4_append 32 = .ok (.return_, 1) := by decide +kernel
theorem dX4_appendFrom_0 : decode cX4_appendFrom 0 = .ok (.iconst 0, 1) := by decide +kernel
theorem dX4_appendFrom_1 : decode cX4_appendFrom 1 = .ok (.istore 4, 2) := by decide +kernel
theorem dX4_appendFrom_3 : decode cX4_appendFrom 3 = .ok (.iload 4, 2) := by decide +kernel
theorem dX4_appendFrom_5 : decode cX4_appendFrom 5 = .ok (.iload_n 3, 1) := by decide +kernel
theorem dX4_appendFrom_6 : decode cX4_appendFrom 6 = .ok (.if_icmp .ge 21, 3) := by decide +kernel
theorem dX4_appendFrom_9 : decode cX4_appendFrom 9 = .ok (.aload_n 0, 1) := by decide +kernel
theorem dX4_appendFrom_10 : decode cX4_appendFrom 10 = .ok (.aload_n 1, 1) := by decide +kernel
theorem dX4_appendFrom_11 : decode cX4_appendFrom 11 = .ok (.iload_n 2, 1) := by decide +kernel
theorem dX4_appendFrom_12 : decode cX4_appendFrom 12 = .ok (.iload 4, 2) := by decide +kernel
theorem dX4_appendFrom_14 : decode cX4_appendFrom 14 = .ok (.iadd, 1) := by decide +kernel
theorem dX4_appendFrom_15 : decode cX4_appendFrom 15 = .ok (.invokevirtual 19, 3) := by decide +kernel
theorem dX4_appendFrom_18 : decode cX4_appendFrom 18 = .ok (.invokevirtual 23, 3) := by decide +kernel
theorem dX4_appendFrom_21 : decode cX4_appendFrom 21 = .ok (.iinc 4 1, 3) := by decide +kernel
theorem dX4_appendFrom_24 : decode cX4_appendFrom 24 = .ok (.goto (-21), 3) := by decide +kernel
theorem dX4_appendFrom_27 : decode cX4_appendFrom 27 = .ok (.return_, 1) := by decide +kernel
theorem dX4_become_0 : decode cX4_become 0 = .ok (.iconst 0, 1) := by decide +kernel
theorem dX4_become_1 : decode cX4_become 1 = .ok (.istore_n 2, 1) := by decide +kernel
theorem dX4_become_2 : decode cX4_become 2 = .ok (.iload_n 2, 1) := by decide +kernel
theorem dX4_become_3 : decode cX4_become 3 = .ok (.aload_n 1, 1) := by decide +kernel
theorem dX4_become_4 : decode cX4_become 4 = .ok (.getfield 15, 3) := by decide +kernel
theorem dX4_become_7 : decode cX4_become 7 = .ok (.if_icmp .ge 21, 3) := by decide +kernel
theorem dX4_become_10 : decode cX4_become 10 = .ok (.aload_n 0, 1) := by decide +kernel
theorem dX4_become_11 : decode cX4_become 11 = .ok (.getfield 9, 3) := by decide +kernel
theorem dX4_become_14 : decode cX4_become 14 = .ok (.iload_n 2, 1) := by decide +kernel
theorem dX4_become_15 : decode cX4_become 15 = .ok (.aload_n 1, 1) := by decide +kernel
theorem dX4_become_16 : decode cX4_become 16 = .ok (.getfield 9, 3) := by decide +kernel
theorem dX4_become_19 : decode cX4_become 19 = .ok (.iload_n 2, 1) := by decide +kernel
theorem dX4_become_20 : decode cX4_become 20 = .ok (.iaload, 1) := by decide +kernel
theorem dX4_become_21 : decode cX4_become 21 = .ok (.iastore, 1) := by decide +kernel
theorem dX4_become_22 : decode cX4_become 22 = .ok (.iinc 2 1, 3) := by decide +kernel
theorem dX4_become_25 : decode cX4_become 25 = .ok (.goto (-23), 3) := by decide +kernel
theorem dX4_become_28 : decode cX4_become 28 = .ok (.aload_n 0, 1) := by decide +kernel
theorem dX4_become_29 : decode cX4_become 29 = .ok (.aload_n 1, 1) := by decide +kernel
theorem dX4_become_30 : decode cX4_become 30 = .ok (.getfield 15, 3) := by decide +kernel
theorem dX4_become_33 : decode cX4_become 33 = .ok (.putfield 15, 3) := by decide +kernel
theorem dX4_become_36 : decode cX4_become 36 = .ok (.return_, 1) := by decide +kernel
theorem dX4_putIn_0 : decode cX4_putIn 0 = .ok (.aload_n 0, 1) := by decide +kernel
theorem dX4_putIn_1 : decode cX4_putIn 1 = .ok (.iload_n 2, 1) := by decide +kernel
theorem dX4_putIn_2 : decode cX4_putIn 2 = .ok (.invokevirtual 23, 3) := by decide +kernel
theorem dX4_putIn_5 : decode cX4_putIn 5 = .ok (.aload_n 0, 1) := by decide +kernel
theorem dX4_putIn_6 : decode cX4_putIn 6 = .ok (.getfield 15, 3) := by decide +kernel
theorem dX4_putIn_9 : decode cX4_putIn 9 = .ok (.iconst 1, 1) := by decide +kernel
theorem dX4_putIn_10 : decode cX4_putIn 10 = .ok (.isub, 1) := by decide +kernel
theorem dX4_putIn_11 : decode cX4_putIn 11 = .ok (.istore_n 3, 1) := by decide +kernel
theorem dX4_putIn_12 : decode cX4_putIn 12 = .ok (.iload_n 3, 1) := by decide +kernel
theorem dX4_putIn_13 : decode cX4_putIn 13 = .ok (.iload_n 1, 1) := by decide +kernel
theorem dX4_putIn_14 : decode cX4_putIn 14 = .ok (.if_icmp .le 23, 3) := by decide +kernel
theorem dX4_putIn_17 : decode cX4_putIn 17 = .ok (.aload_n 0, 1) := by decide +kernel
theorem dX4_putIn_18 : decode cX4_putIn 18 = .ok (.getfield 9, 3) := by decide +kernel
theorem dX4_putIn_21 : decode cX4_putIn 21 = .ok (.iload_n 3, 1) := by decide +kernel
theorem dX4_putIn_22 : decode cX4_putIn 22 = .ok (.aload_n 0, 1) := by decide +kernel
theorem dX4_putIn_23 : decode cX4_putIn 23 = .ok (.getfield 9, 3) := by decide +kernel
theorem dX4_putIn_26 : decode cX4_putIn 26 = .ok (.iload_n 3, 1) := by decide +kernel
theorem dX4_putIn_27 : decode cX4_putIn 27 = .ok (.iconst 1, 1) := by decide +kernel
theorem dX4_putIn_28 : decode cX4_putIn 28 = .ok (.isub, 1) := by decide +kernel
theorem dX4_putIn_29 : decode cX4_putIn 29 = .ok (.iaload, 1) := by decide +kernel
theorem dX4_putIn_30 : decode cX4_putIn 30 = .ok (.iastore, 1) := by decide +kernel
theorem dX4_putIn_31 : decode cX4_putIn 31 = .ok (.iinc 3 (-1), 3) := by decide +kernel
theorem dX4_putIn_34 : decode cX4_putIn 34 = .ok (.goto (-22), 3) := by decide +kernel
theorem dX4_putIn_37 : decode cX4_putIn 37 = .ok (.aload_n 0, 1) := by decide +kernel
theorem dX4_putIn_38 : decode cX4_putIn 38 = .ok (.getfield 9, 3) := by decide +kernel
theorem dX4_putIn_41 : decode cX4_putIn 41 = .ok (.iload_n 1, 1) := by decide +kernel
theorem dX4_putIn_42 : decode cX4_putIn 42 = .ok (.iload_n 2, 1) := by decide +kernel
theorem dX4_putIn_43 : decode cX4_putIn 43 = .ok (.iastore, 1) := by decide +kernel
theorem dX4_putIn_44 : decode cX4_putIn 44 = .ok (.return_, 1) := by decide +kernel
theorem dX4_takeOut_0 : decode cX4_takeOut 0 = .ok (.iload_n 1, 1) := by decide +kernel
theorem dX4_takeOut_1 : decode cX4_takeOut 1 = .ok (.istore_n 3, 1) := by decide +kernel
theorem dX4_takeOut_2 : decode cX4_takeOut 2 = .ok (.iload_n 3, 1) := by decide +kernel
theorem dX4_takeOut_3 : decode cX4_takeOut 3 = .ok (.iload_n 2, 1) := by decide +kernel
theorem dX4_takeOut_4 : decode cX4_takeOut 4 = .ok (.iadd, 1) := by decide +kernel
theorem dX4_takeOut_5 : decode cX4_takeOut 5 = .ok (.aload_n 0, 1) := by decide +kernel
theorem dX4_takeOut_6 : decode cX4_takeOut 6 = .ok (.getfield 15, 3) := by decide +kernel
theorem dX4_takeOut_9 : decode cX4_takeOut 9 = .ok (.if_icmp .ge 23, 3) := by decide +kernel
theorem dX4_takeOut_12 : decode cX4_takeOut 12 = .ok (.aload_n 0, 1) := by decide +kernel
theorem dX4_takeOut_13 : decode cX4_takeOut 13 = .ok (.getfield 9, 3) := by decide +kernel
theorem dX4_takeOut_16 : decode cX4_takeOut 16 = .ok (.iload_n 3, 1) := by decide +kernel
theorem dX4_takeOut_17 : decode cX4_takeOut 17 = .ok (.aload_n 0, 1) := by decide +kernel
theorem dX4_takeOut_18 : decode cX4_takeOut 18 = .ok (.getfield 9, 3) := by decide +kernel
theorem dX4_takeOut_21 : decode cX4_takeOut 21 = .ok (.iload_n 3, 1) := by decide +kernel
theorem dX4_takeOut_22 : decode cX4_takeOut 22 = .ok (.iload_n 2, 1) := by decide +kernel
theorem dX4_takeOut_23 : decode cX4_takeOut 23 = .ok (.iadd, 1) := by decide +kernel
theorem dX4_takeOut_24 : decode cX4_takeOut 24 = .ok (.iaload, 1) := by decide +kernel
theorem dX4_takeOut_25 : decode cX4_takeOut 25 = .ok (.iastore, 1) := by decide +kernel
theorem dX4_takeOut_26 : decode cX4_takeOut 26 = .ok (.iinc 3 1, 3) := by decide +kernel
theorem dX4_takeOut_29 : decode cX4_takeOut 29 = .ok (.goto (-27), 3) := by decide +kernel
theorem dX4_takeOut_32 : decode cX4_takeOut 32 = .ok (.aload_n 0, 1) := by decide +kernel
theorem dX4_takeOut_33 : decode cX4_takeOut 33 = .ok (.dup, 1) := by decide +kernel
theorem dX4_takeOut_34 : decode cX4_takeOut 34 = .ok (.getfield 15, 3) := by decide +kernel
theorem dX4_takeOut_37 : decode cX4_takeOut 37 = .ok (.iload_n 2, 1) := by decide +kernel
theorem dX4_takeOut_38 : decode cX4_takeOut 38 = .ok (.isub, 1) := by decide +kernel
theorem dX4_takeOut_39 : decode cX4_takeOut 39 = .ok (.putfield 15, 3) := by decide +kernel
theorem dX4_takeOut_42 : decode cX4_takeOut 42 = .ok (.return_, 1) := by decide +kernel
theorem dX4_weakSum_0 : decode cX4_weakSum 0 = .ok (.iconst 0, 1) := by decide +kernel
theorem dX4_weakSum_1 : decode cX4_weakSum 1 = .ok (.istore 4, 2) := by decide +kernel
theorem dX4_weakSum_3 : decode cX4_weakSum 3 = .ok (.iconst 0, 1) := by decide +kernel
theorem dX4_weakSum_4 : decode cX4_weakSum 4 = .ok (.istore 5, 2) := by decide +kernel
theorem dX4_weakSum_6 : decode cX4_weakSum 6 = .ok (.iconst 0, 1) := by decide +kernel
theorem dX4_weakSum_7 : decode cX4_weakSum 7 = .ok (.istore 6, 2) := by decide +kernel
theorem dX4_weakSum_9 : decode cX4_weakSum 9 = .ok (.iload 6, 2) := by decide +kernel
theorem dX4_weakSum_11 : decode cX4_weakSum 11 = .ok (.iload_n 2, 1) := by decide +kernel
theorem dX4_weakSum_12 : decode cX4_weakSum 12 = .ok (.if_icmp .ge 40, 3) := by decide +kernel
theorem dX4_weakSum_15 : decode cX4_weakSum 15 = .ok (.iload 4, 2) := by decide +kernel
theorem dX4_weakSum_17 : decode cX4_weakSum 17 = .ok (.aload_n 0, 1) := by decide +kernel
theorem dX4_weakSum_18 : decode cX4_weakSum 18 = .ok (.iload_n 1, 1) := by decide +kernel
theorem dX4_weakSum_19 : decode cX4_weakSum 19 = .ok (.iload 6, 2) := by decide +kernel
theorem dX4_weakSum_21 : decode cX4_weakSum 21 = .ok (.iadd, 1) := by decide +kernel
theorem dX4_weakSum_22 : decode cX4_weakSum 22 = .ok (.invokevirtual 19, 3) := by decide +kernel
theorem dX4_weakSum_25 : decode cX4_weakSum 25 = .ok (.iadd, 1) := by decide +kernel
theorem dX4_weakSum_26 : decode cX4_weakSum 26 = .ok (.istore 4, 2) := by decide +kernel
theorem dX4_weakSum_28 : decode cX4_weakSum 28 = .ok (.iload 5, 2) := by decide +kernel
theorem dX4_weakSum_30 : decode cX4_weakSum 30 = .ok (.iload_n 2, 1) := by decide +kernel
theorem dX4_weakSum_31 : decode cX4_weakSum 31 = .ok (.iload 6, 2) := by decide +kernel
theorem dX4_weakSum_33 : decode cX4_weakSum 33 = .ok (.isub, 1) := by decide +kernel
theorem dX4_weakSum_34 : decode cX4_weakSum 34 = .ok (.aload_n 0, 1) := by decide +kernel
theorem dX4_weakSum_35 : decode cX4_weakSum 35 = .ok (.iload_n 1, 1) := by decide +kernel
theorem dX4_weakSum_36 : decode cX4_weakSum 36 = .ok (.iload 6, 2) := by decide +kernel
theorem dX4_weakSum_38 : decode cX4_weakSum 38 = .ok (.iadd, 1) := by decide +kernel
theorem dX4_weakSum_39 : decode cX4_weakSum 39 = .ok (.invokevirtual 19, 3) := by decide +kernel
theorem dX4_weakSum_42 : decode cX4_weakSum 42 = .ok (.imul, 1) := by decide +kernel
theorem dX4_weakSum_43 : decode cX4_weakSum 43 = .ok (.iadd, 1) := by decide +kernel
theorem dX4_weakSum_44 : decode cX4_weakSum 44 = .ok (.istore 5, 2) := by decide +kernel
theorem dX4_weakSum_46 : decode cX4_weakSum 46 = .ok (.iinc 6 1, 3) := by decide +kernel
theorem dX4_weakSum_49 : decode cX4_weakSum 49 = .ok (.goto (-40), 3) := by decide +kernel
theorem dX4_weakSum_52 : decode cX4_weakSum 52 = .ok (.iload 5, 2) := by decide +kernel
theorem dX4_weakSum_54 : decode cX4_weakSum 54 = .ok (.iload_n 3, 1) := by decide +kernel
theorem dX4_weakSum_55 : decode cX4_weakSum 55 = .ok (.irem, 1) := by decide +kernel
theorem dX4_weakSum_56 : decode cX4_weakSum 56 = .ok (.iload_n 3, 1) := by decide +kernel
theorem dX4_weakSum_57 : decode cX4_weakSum 57 = .ok (.imul, 1) := by decide +kernel
theorem dX4_weakSum_58 : decode cX4_weakSum 58 = .ok (.iload 4, 2) := by decide +kernel
theorem dX4_weakSum_60 : decode cX4_weakSum 60 = .ok (.iload_n 3, 1) := by decide +kernel
theorem dX4_weakSum_61 : decode cX4_weakSum 61 = .ok (.irem, 1) := by decide +kernel
theorem dX4_weakSum_62 : decode cX4_weakSum 62 = .ok (.iadd, 1) := by decide +kernel
theorem dX4_weakSum_63 : decode cX4_weakSum 63 = .ok (.ireturn, 1) := by decide +kernel
theorem dX4_strongSum_0 : decode cX4_strongSum 0 = .ok (.lconst 0, 1) := by decide +kernel
theorem dX4_strongSum_1 : decode cX4_strongSum 1 = .ok (.lstore_n 3, 1) := by decide +kernel
theorem dX4_strongSum_2 : decode cX4_strongSum 2 = .ok (.iload_n 2, 1) := by decide +kernel
theorem dX4_strongSum_3 : decode cX4_strongSum 3 = .ok (.iconst 1, 1) := by decide +kernel
theorem dX4_strongSum_4 : decode cX4_strongSum 4 = .ok (.isub, 1) := by decide +kernel
theorem dX4_strongSum_5 : decode cX4_strongSum 5 = .ok (.istore 5, 2) := by decide +kernel
theorem dX4_strongSum_7 : decode cX4_strongSum 7 = .ok (.iload 5, 2) := by decide +kernel
theorem dX4_strongSum_9 : decode cX4_strongSum 9 = .ok (.ifCond .lt 27, 3) := by decide +kernel
theorem dX4_strongSum_12 : decode cX4_strongSum 12 = .ok (.lload_n 3, 1) := by decide +kernel
theorem dX4_strongSum_13 : decode cX4_strongSum 13 = .ok (.ldc2_w 27, 3) := by decide +kernel
theorem dX4_strongSum_16 : decode cX4_strongSum 16 = .ok (.lmul, 1) := by decide +kernel
theorem dX4_strongSum_17 : decode cX4_strongSum 17 = .ok (.aload_n 0, 1) := by decide +kernel
theorem dX4_strongSum_18 : decode cX4_strongSum 18 = .ok (.iload_n 1, 1) := by decide +kernel
theorem dX4_strongSum_19 : decode cX4_strongSum 19 = .ok (.iload 5, 2) := by decide +kernel
theorem dX4_strongSum_21 : decode cX4_strongSum 21 = .ok (.iadd, 1) := by decide +kernel
theorem dX4_strongSum_22 : decode cX4_strongSum 22 = .ok (.invokevirtual 19, 3) := by decide +kernel
theorem dX4_strongSum_25 : decode cX4_strongSum 25 = .ok (.i2l, 1) := by decide +kernel
theorem dX4_strongSum_26 : decode cX4_strongSum 26 = .ok (.ladd, 1) := by decide +kernel
theorem dX4_strongSum_27 : decode cX4_strongSum 27 = .ok (.lconst 1, 1) := by decide +kernel
theorem dX4_strongSum_28 : decode cX4_strongSum 28 = .ok (.ladd, 1) := by decide +kernel
theorem dX4_strongSum_29 : decode cX4_strongSum 29 = .ok (.lstore_n 3, 1) := by decide +kernel
theorem dX4_strongSum_30 : decode cX4_strongSum 30 = .ok (.iinc 5 (-1), 3) := by decide +kernel
theorem dX4_strongSum_33 : decode cX4_strongSum 33 = .ok (.goto (-26), 3) := by decide +kernel
theorem dX4_strongSum_36 : decode cX4_strongSum 36 = .ok (.lload_n 3, 1) := by decide +kernel
theorem dX4_strongSum_37 : decode cX4_strongSum 37 = .ok (.lreturn, 1) := by decide +kernel
theorem dX5_init_0 : decode cX5_init 0 = .ok (.aload_n 0, 1) := by decide +kernel
theorem dX5_init_1 : decode cX5_init 1 = .ok (.invokespecial 3, 3) := by decide +kernel
theorem dX5_init_4 : decode cX5_init 4 = .ok (.aload_n 0, 1) := by decide +kernel
theorem dX5_init_5 : decode cX5_init 5 = .ok (.bipush 12, 2) := by decide +kernel
theorem dX5_init_7 : decode cX5_init 7 = .ok (.anewarray 9, 3) := by decide +kernel
theorem dX5_init_10 : decode cX5_init 10 = .ok (.putfield 11, 3) := by decide +kernel
theorem dX5_init_13 : decode cX5_init 13 = .ok (.aload_n 0, 1) := by decide +kernel
theorem dX5_init_14 : decode cX5_init 14 = .ok (.new 17, 3) := by decide +kernel
theorem dX5_init_17 : decode cX5_init 17 = .ok (.dup, 1) := by decide +kernel
theorem dX5_init_18 : decode cX5_init 18 = .ok (.invokespecial 19, 3) := by decide +kernel
theorem dX5_init_21 : decode cX5_init 21 = .ok (.putfield 20, 3) := by decide +kernel
theorem dX5_init_24 : decode cX5_init 24 = .ok (.aload_n 0, 1) := by decide +kernel
theorem dX5_init_25 : decode cX5_init 25 = .ok (.iconst 4, 1) := by decide +kernel
theorem dX5_init_26 : decode cX5_init 26 = .ok (.putfield 24, 3) := by decide +kernel
theorem dX5_init_29 : decode cX5_init 29 = .ok (.aload_n 0, 1) := by decide +kernel
theorem dX5_init_30 : decode cX5_init 30 = .ok (.bipush 16, 2) := by decide +kernel
theorem dX5_init_32 : decode cX5_init 32 = .ok (.putfield 28, 3) := by decide +kernel
theorem dX5_init_35 : decode cX5_init 35 = .ok (.aload_n 0, 1) := by decide +kernel
theorem dX5_init_36 : decode cX5_init 36 = .ok (.bipush 8, 2) := by decide +kernel
theorem dX5_init_38 : decode cX5_init 38 = .ok (.putfield 31, 3) := by decide +kernel
theorem dX5_init_41 : decode cX5_init 41 = .ok (.iconst 0, 1) := by decide +kernel
theorem dX5_init_42 : decode cX5_init 42 = .ok (.istore_n 1, 1) := by decide +kernel
theorem dX5_init_43 : decode cX5_init 43 = .ok (.iload_n 1, 1) := by decide +kernel
theorem dX5_init_44 : decode cX5_init 44 = .ok (.aload_n 0, 1) := by decide +kernel
theorem dX5_init_45 : decode cX5_init 45 = .ok (.getfield 11, 3) := by decide +kernel
theorem dX5_init_48 : decode cX5_init 48 = .ok (.arraylength, 1) := by decide +kernel
theorem dX5_init_49 : decode cX5_init 49 = .ok (.if_icmp .ge 22, 3) := by decide +kernel
theorem dX5_init_52 : decode cX5_init 52 = .ok (.aload_n 0, 1) := by decide +kernel
theorem dX5_init_53 : decode cX5_init 53 = .ok (.getfield 11, 3) := by decide +kernel
theorem dX5_init_56 : decode cX5_init 56 = .ok (.iload_n 1, 1) := by decide +kernel
theorem dX5_init_57 : decode cX5_init 57 = .ok (.new 9, 3) := by decide +kernel
theorem dX5_init_60 : decode cX5_init 60 = .ok (.dup, 1) := by decide +kernel
theorem dX5_init_61 : decode cX5_init 61 = .ok (.invokespecial 34, 3) := by decide +kernel
theorem dX5_init_64 : decode cX5_init 64 = .ok (.aastore, 1) := by decide +kernel
theorem dX5_init_65 : decode cX5_init 65 = .ok (.iinc 1 1, 3) := by decide +kernel
theorem dX5_init_68 : decode cX5_init 68 = .ok (.goto (-25), 3) := by decide +kernel
theorem dX5_init_71 : decode cX5_init 71 = .ok (.return_, 1) := by decide +kernel
theorem dX5_lowestFree_0 : decode cX5_lowestFree 0 = .ok (.iconst 0, 1) := by decide +kernel
theorem dX5_lowestFree_1 : decode cX5_lowestFree 1 = .ok (.istore_n 1, 1) := by decide +kernel
theorem dX5_lowestFree_2 : decode cX5_lowestFree 2 = .ok (.iload_n 1, 1) := by decide +kernel
theorem dX5_lowestFree_3 : decode cX5_lowestFree 3 = .ok (.aload_n 0, 1) := by decide +kernel
theorem dX5_lowestFree_4 : decode cX5_lowestFree 4 = .ok (.getfield 11, 3) := by decide +kernel
theorem dX5_lowestFree_7 : decode cX5_lowestFree 7 = .ok (.arraylength, 1) := by decide +kernel
theorem dX5_lowestFree_8 : decode cX5_lowestFree 8 = .ok (.if_icmp .ge 23, 3) := by decide +kernel
theorem dX5_lowestFree_11 : decode cX5_lowestFree 11 = .ok (.aload_n 0, 1) := by decide +kernel
theorem dX5_lowestFree_12 : decode cX5_lowestFree 12 = .ok (.getfield 11, 3) := by decide +kernel
theorem dX5_lowestFree_15 : decode cX5_lowestFree 15 = .ok (.iload_n 1, 1) := by decide +kernel
theorem dX5_lowestFree_16 : decode cX5_lowestFree 16 = .ok (.aaload, 1) := by decide +kernel
theorem dX5_lowestFree_17 : decode cX5_lowestFree 17 = .ok (.getfield 35, 3) := by decide +kernel
theorem dX5_lowestFree_20 : decode cX5_lowestFree 20 = .ok (.ifCond .ne 5, 3) := by decide +kernel
theorem dX5_lowestFree_23 : decode cX5_lowestFree 23 = .ok (.iload_n 1, 1) := by decide +kernel
theorem dX5_lowestFree_24 : decode cX5_lowestFree 24 = .ok (.ireturn, 1) := by decide +kernel
theorem dX5_lowestFree_25 : decode cX5_lowestFree 25 = .ok (.iinc 1 1, 3) := by decide +kernel
theorem dX5_lowestFree_28 : decode cX5_lowestFree 28 = .ok (.goto (-26), 3) := by decide +kernel
theorem dX5_lowestFree_31 : decode cX5_lowestFree 31 = .ok (.iconst (-1), 1) := by decide +kernel
theorem dX5_lowestFree_32 : decode cX5_lowestFree 32 = .ok (.ireturn, 1) := by decide +kernel
theorem dX5_putPaper_0 : decode cX5_putPaper 0 = .ok (.aload_n 0, 1) := by decide +kernel
theorem dX5_putPaper_1 : decode cX5_putPaper 1 = .ok (.getfield 11, 3) := by decide +kernel
theorem dX5_putPaper_4 : decode cX5_putPaper 4 = .ok (.iload_n 1, 1) := by decide +kernel
theorem dX5_putPaper_5 : decode cX5_putPaper 5 = .ok (.aaload, 1) := by decide +kernel
theorem dX5_putPaper_6 : decode cX5_putPaper 6 = .ok (.astore_n 3, 1) := by decide +kernel
theorem dX5_putPaper_7 : decode cX5_putPaper 7 = .ok (.aload_n 3, 1) := by decide +kernel
theorem dX5_putPaper_8 : decode cX5_putPaper 8 = .ok (.iconst 1, 1) := by decide +kernel
theorem dX5_putPaper_9 : decode cX5_putPaper 9 = .ok (.putfield 35, 3) := by decide +kernel
theorem dX5_putPaper_12 : decode cX5_putPaper 12 = .ok (.iconst 0, 1) := by decide +kernel
theorem dX5_putPaper_13 : decode cX5_putPaper 13 = .ok (.istore 4, 2) := by decide +kernel
theorem dX5_putPaper_15 : decode cX5_putPaper 15 = .ok (.iconst 0, 1) := by decide +kernel
theorem dX5_putPaper_16 : decode cX5_putPaper 16 = .ok (.istore 5, 2) := by decide +kernel
theorem dX5_putPaper_18 : decode cX5_putPaper 18 = .ok (.iload 5, 2) := by decide +kernel
theorem dX5_putPaper_20 : decode cX5_putPaper 20 = .ok (.aload_n 2, 1) := by decide +kernel
theorem dX5_putPaper_21 : decode cX5_putPaper 21 = .ok (.getfield 39, 3) := by decide +kernel
theorem dX5_putPaper_24 : decode cX5_putPaper 24 = .ok (.if_icmp .ge 69, 3) := by decide +kernel
theorem dX5_putPaper_27 : decode cX5_putPaper 27 = .ok (.aload_n 0, 1) := by decide +kernel
theorem dX5_putPaper_28 : decode cX5_putPaper 28 = .ok (.aload_n 2, 1) := by decide +kernel
theorem dX5_putPaper_29 : decode cX5_putPaper 29 = .ok (.iload 5, 2) := by decide +kernel
theorem dX5_putPaper_31 : decode cX5_putPaper 31 = .ok (.iload 5, 2) := by decide +kernel
theorem dX5_putPaper_33 : decode cX5_putPaper 33 = .ok (.iconst 1, 1) := by decide +kernel
theorem dX5_putPaper_34 : decode cX5_putPaper 34 = .ok (.iadd, 1) := by decide +kernel
theorem dX5_putPaper_35 : decode cX5_putPaper 35 = .ok (.iload 4, 2) := by decide +kernel
theorem dX5_putPaper_37 : decode cX5_putPaper 37 = .ok (.isub, 1) := by decide +kernel
theorem dX5_putPaper_38 : decode cX5_putPaper 38 = .ok (.invokevirtual 44, 3) := by decide +kernel
theorem dX5_putPaper_41 : decode cX5_putPaper 41 = .ok (.ifCond .eq 46, 3) := by decide +kernel
theorem dX5_putPaper_44 : decode cX5_putPaper 44 = .ok (.aload_n 0, 1) := by decide +kernel
theorem dX5_putPaper_45 : decode cX5_putPaper 45 = .ok (.aload_n 2, 1) := by decide +kernel
theorem dX5_putPaper_46 : decode cX5_putPaper 46 = .ok (.iload 4, 2) := by decide +kernel
theorem dX5_putPaper_48 : decode cX5_putPaper 48 = .ok (.iload 5, 2) := by decide +kernel
theorem dX5_putPaper_50 : decode cX5_putPaper 50 = .ok (.iconst 1, 1) := by decide +kernel
theorem dX5_putPaper_51 : decode cX5_putPaper 51 = .ok (.iadd, 1) := by decide +kernel
theorem dX5_putPaper_52 : decode cX5_putPaper 52 = .ok (.iload 4, 2) := by decide +kernel
theorem dX5_putPaper_54 : decode cX5_putPaper 54 = .ok (.isub, 1) := by decide +kernel
theorem dX5_putPaper_55 : decode cX5_putPaper 55 = .ok (.invokevirtual 48, 3) := by decide +kernel
theorem dX5_putPaper_58 : decode cX5_putPaper 58 = .ok (.astore 6, 2) := by decide +kernel
theorem dX5_putPaper_60 : decode cX5_putPaper 60 = .ok (.aload 6, 2) := by decide +kernel
theorem dX5_putPaper_62 : decode cX5_putPaper 62 = .ok (.dup, 1) := by decide +kernel
theorem dX5_putPaper_63 : decode cX5_putPaper 63 = .ok (.getfield 52, 3) := by decide +kernel
theorem dX5_putPaper_66 : decode cX5_putPaper 66 = .ok (.iconst 1, 1) := by decide +kernel
theorem dX5_putPaper_67 : decode cX5_putPaper 67 = .ok (.iadd, 1) := by decide +kernel
theorem dX5_putPaper_68 : decode cX5_putPaper 68 = .ok (.putfield 52, 3) := by decide +kernel
theorem dX5_putPaper_71 : decode cX5_putPaper 71 = .ok (.aload_n 3, 1) := by decide +kernel
theorem dX5_putPaper_72 : decode cX5_putPaper 72 = .ok (.getfield 57, 3) := by decide +kernel
theorem dX5_putPaper_75 : decode cX5_putPaper 75 = .ok (.aload 6, 2) := by decide +kernel
theorem dX5_putPaper_77 : decode cX5_putPaper 77 = .ok (.invokevirtual 60, 3) := by decide +kernel
theorem dX5_putPaper_80 : decode cX5_putPaper 80 = .ok (.pop, 1) := by decide +kernel
theorem dX5_putPaper_81 : decode cX5_putPaper 81 = .ok (.iload 5, 2) := by decide +kernel
theorem dX5_putPaper_83 : decode cX5_putPaper 83 = .ok (.iconst 1, 1) := by decide +kernel
theorem dX5_putPaper_84 : decode cX5_putPaper 84 = .ok (.iadd, 1) := by decide +kernel
theorem dX5_putPaper_85 : decode cX5_putPaper 85 = .ok (.istore 4, 2) := by decide +kernel
theorem dX5_putPaper_87 : decode cX5_putPaper 87 = .ok (.iinc 5 1, 3) := by decide +kernel
theorem dX5_putPaper_90 : decode cX5_putPaper 90 = .ok (.goto (-72), 3) := by decide +kernel
theorem dX5_putPaper_93 : decode cX5_putPaper 93 = .ok (.return_, 1) := by decide +kernel
theorem dX5_endsBehind_0 : decode cX5_endsBehind 0 = .ok (.iload_n 3, 1) := by decide +kernel
theorem dX5_endsBehind_1 : decode cX5_endsBehind 1 = .ok (.aload_n 0, 1) := by decide +kernel
theorem dX5_endsBehind_2 : decode cX5_endsBehind 2 = .ok (.getfield 28, 3) := by decide +kernel
theorem dX5_endsBehind_5 : decode cX5_endsBehind 5 = .ok (.if_icmp .ge 13, 3) := by decide +kernel
theorem dX5_endsBehind_8 : decode cX5_endsBehind 8 = .ok (.iload_n 2, 1) := by decide +kernel
theorem dX5_endsBehind_9 : decode cX5_endsBehind 9 = .ok (.aload_n 1, 1) := by decide +kernel
theorem dX5_endsBehind_10 : decode cX5_endsBehind 10 = .ok (.getfield 39, 3) := by decide +kernel
theorem dX5_endsBehind_13 : decode cX5_endsBehind 13 = .ok (.iconst 1, 1) := by decide +kernel
theorem dX5_endsBehind_14 : decode cX5_endsBehind 14 = .ok (.isub, 1) := by decide +kernel
theorem dX5_endsBehind_15 : decode cX5_endsBehind 15 = .ok (.if_icmp .ne 5, 3) := by decide +kernel
theorem dX5_endsBehind_18 : decode cX5_endsBehind 18 = .ok (.iconst 1, 1) := by decide +kernel
theorem dX5_endsBehind_19 : decode cX5_endsBehind 19 = .ok (.ireturn, 1) := by decide +kernel
theorem dX5_endsBehind_20 : decode cX5_endsBehind 20 = .ok (.aload_n 1, 1) := by decide +kernel
theorem dX5_endsBehind_21 : decode cX5_endsBehind 21 = .ok (.iload_n 2, 1) := by decide +kernel
theorem dX5_endsBehind_22 : decode cX5_endsBehind 22 = .ok (.invokevirtual 64, 3) := by decide +kernel
theorem dX5_endsBehind_25 : decode cX5_endsBehind 25 = .ok (.iconst 2, 1) := by decide +kernel
theorem dX5_endsBehind_26 : decode cX5_endsBehind 26 = .ok (.aload_n 1, 1) := by decide +kernel
theorem dX5_endsBehind_27 : decode cX5_endsBehind 27 = .ok (.iload_n 2, 1) := by decide +kernel
theorem dX5_endsBehind_28 : decode cX5_endsBehind 28 = .ok (.iconst 1, 1) := by decide +kernel
theorem dX5_endsBehind_29 : decode cX5_endsBehind 29 = .ok (.isub, 1) := by decide +kernel
theorem dX5_endsBehind_30 : decode cX5_endsBehind 30 = .ok (.invokevirtual 64, 3) := by decide +kernel
theorem dX5_endsBehind_33 : decode cX5_endsBehind 33 = .ok (.imul, 1) := by decide +kernel
theorem dX5_endsBehind_34 : decode cX5_endsBehind 34 = .ok (.iadd, 1) := by decide +kernel
theorem dX5_endsBehind_35 : decode cX5_endsBehind 35 = .ok (.iconst 3, 1) := by decide +kernel
theorem dX5_endsBehind_36 : decode cX5_endsBehind 36 = .ok (.aload_n 1, 1) := by decide +kernel
theorem dX5_endsBehind_37 : decode cX5_endsBehind 37 = .ok (.iload_n 2, 1) := by decide +kernel
theorem dX5_endsBehind_38 : decode cX5_endsBehind 38 = .ok (.iconst 2, 1) := by decide +kernel
theorem dX5_endsBehind_39 : decode cX5_endsBehind 39 = .ok (.isub, 1) := by decide +kernel
theorem dX5_endsBehind_40 : decode cX5_endsBehind 40 = .ok (.invokevirtual 64, 3) := by decide +kernel
theorem dX5_endsBehind_43 : decode cX5_endsBehind 43 = .ok (.imul, 1) := by decide +kernel
theorem dX5_endsBehind_44 : decode cX5_endsBehind 44 = .ok (.iadd, 1) := by decide +kernel
theorem dX5_endsBehind_45 : decode cX5_endsBehind 45 = .ok (.iconst 4, 1) := by decide +kernel
theorem dX5_endsBehind_46 : decode cX5_endsBehind 46 = .ok (.aload_n 1, 1) := by decide +kernel
theorem dX5_endsBehind_47 : decode cX5_endsBehind 47 = .ok (.iload_n 2, 1) := by decide +kernel
theorem dX5_endsBehind_48 : decode cX5_endsBehind 48 = .ok (.iconst 3, 1) := by decide +kernel
theorem dX5_endsBehind_49 : decode cX5_endsBehind 49 = .ok (.isub, 1) := by decide +kernel
theorem dX5_endsBehind_50 : decode cX5_endsBehind 50 = .ok (.invokevirtual 64, 3) := by decide +kernel
theorem dX5_endsBehind_53 : decode cX5_endsBehind 53 = .ok (.imul, 1) := by decide +kernel
theorem dX5_endsBehind_54 : decode cX5_endsBehind 54 = .ok (.iadd, 1) := by decide +kernel
theorem dX5_endsBehind_55 : decode cX5_endsBehind 55 = .ok (.istore 4, 2) := by decide +kernel
theorem dX5_endsBehind_57 : decode cX5_endsBehind 57 = .ok (.iload_n 3, 1) := by decide +kernel
theorem dX5_endsBehind_58 : decode cX5_endsBehind 58 = .ok (.aload_n 0, 1) := by decide +kernel
theorem dX5_endsBehind_59 : decode cX5_endsBehind 59 = .ok (.getfield 24, 3) := by decide +kernel
theorem dX5_endsBehind_62 : decode cX5_endsBehind 62 = .ok (.if_icmp .lt 23, 3) := by decide +kernel
theorem dX5_endsBehind_65 : decode cX5_endsBehind 65 = .ok (.iload 4, 2) := by decide +kernel
theorem dX5_endsBehind_67 : decode cX5_endsBehind 67 = .ok (.aload_n 0, 1) := by decide +kernel
theorem dX5_endsBehind_68 : decode cX5_endsBehind 68 = .ok (.getfield 31, 3) := by decide +kernel
theorem dX5_endsBehind_71 : decode cX5_endsBehind 71 = .ok (.irem, 1) := by decide +kernel
theorem dX5_endsBehind_72 : decode cX5_endsBehind 72 = .ok (.aload_n 0, 1) := by decide +kernel
theorem dX5_endsBehind_73 : decode cX5_endsBehind 73 = .ok (.getfield 31, 3) := by decide +kernel
theorem dX5_endsBehind_76 : decode cX5_endsBehind 76 = .ok (.iconst 1, 1) := by decide +kernel
theorem dX5_endsBehind_77 : decode cX5_endsBehind 77 = .ok (.isub, 1) := by decide +kernel
theorem dX5_endsBehind_78 : decode cX5_endsBehind 78 = .ok (.if_icmp .ne 7, 3) := by decide +kernel
theorem dX5_endsBehind_81 : decode cX5_endsBehind 81 = .ok (.iconst 1, 1) := by decide +kernel
theorem dX5_endsBehind_82 : decode cX5_endsBehind 82 = .ok (.goto 4, 3) := by decide +kernel
theorem dX5_endsBehind_85 : decode cX5_endsBehind 85 = .ok (.iconst 0, 1) := by decide +kernel
theorem dX5_endsBehind_86 : decode cX5_endsBehind 86 = .ok (.ireturn, 1) := by decide +kernel
theorem dX5_chunkOf_0 : decode cX5_chunkOf 0 = .ok (.aconst_null, 1) := by decide +kernel
theorem dX5_chunkOf_1 : decode cX5_chunkOf 1 = .ok (.astore 4, 2) := by decide +kernel
theorem dX5_chunkOf_3 : decode cX5_chunkOf 3 = .ok (.iconst 0, 1) := by decide +kernel
theorem dX5_chunkOf_4 : decode cX5_chunkOf 4 = .ok (.istore 5, 2) := by decide +kernel
theorem dX5_chunkOf_6 : decode cX5_chunkOf 6 = .ok (.iload 5, 2) := by decide +kernel
theorem dX5_chunkOf_8 : decode cX5_chunkOf 8 = .ok (.aload_n 0, 1) := by decide +kernel
theorem dX5_chunkOf_9 : decode cX5_chunkOf 9 = .ok (.getfield 20, 3) := by decide +kernel
theorem dX5_chunkOf_12 : decode cX5_chunkOf 12 = .ok (.invokevirtual 68, 3) := by decide +kernel
theorem dX5_chunkOf_15 : decode cX5_chunkOf 15 = .ok (.if_icmp .ge 52, 3) := by decide +kernel
theorem dX5_chunkOf_18 : decode cX5_chunkOf 18 = .ok (.aload_n 0, 1) := by decide +kernel
theorem dX5_chunkOf_19 : decode cX5_chunkOf 19 = .ok (.getfield 20, 3) := by decide +kernel
theorem dX5_chunkOf_22 : decode cX5_chunkOf 22 = .ok (.iload 5, 2) := by decide +kernel
theorem dX5_chunkOf_24 : decode cX5_chunkOf 24 = .ok (.invokevirtual 71, 3) := by decide +kernel
theorem dX5_chunkOf_27 : decode cX5_chunkOf 27 = .ok (.checkcast 53, 3) := by decide +kernel
theorem dX5_chunkOf_30 : decode cX5_chunkOf 30 = .ok (.astore 6, 2) := by decide +kernel
theorem dX5_chunkOf_32 : decode cX5_chunkOf 32 = .ok (.aload 6, 2) := by decide +kernel
theorem dX5_chunkOf_34 : decode cX5_chunkOf 34 = .ok (.getfield 52, 3) := by decide +kernel
theorem dX5_chunkOf_37 : decode cX5_chunkOf 37 = .ok (.ifCond .ne 10, 3) := by decide +kernel
theorem dX5_chunkOf_40 : decode cX5_chunkOf 40 = .ok (.aload 6, 2) := by decide +kernel
theorem dX5_chunkOf_42 : decode cX5_chunkOf 42 = .ok (.astore 4, 2) := by decide +kernel
theorem dX5_chunkOf_44 : decode cX5_chunkOf 44 = .ok (.goto 17, 3) := by decide +kernel
theorem dX5_chunkOf_47 : decode cX5_chunkOf 47 = .ok (.aload 6, 2) := by decide +kernel
theorem dX5_chunkOf_49 : decode cX5_chunkOf 49 = .ok (.aload_n 1, 1) := by decide +kernel
theorem dX5_chunkOf_50 : decode cX5_chunkOf 50 = .ok (.iload_n 2, 1) := by decide +kernel
theorem dX5_chunkOf_51 : decode cX5_chunkOf 51 = .ok (.iload_n 3, 1) := by decide +kernel
theorem dX5_chunkOf_52 : decode cX5_chunkOf 52 = .ok (.invokevirtual 75, 3) := by decide +kernel
theorem dX5_chunkOf_55 : decode cX5_chunkOf 55 = .ok (.ifCond .eq 6, 3) := by decide +kernel
theorem dX5_chunkOf_58 : decode cX5_chunkOf 58 = .ok (.aload 6, 2) := by decide +kernel
theorem dX5_chunkOf_60 : decode cX5_chunkOf 60 = .ok (.areturn, 1) := by decide +kernel
theorem dX5_chunkOf_61 : decode cX5_chunkOf 61 = .ok (.iinc 5 1, 3) := by decide +kernel
theorem dX5_chunkOf_64 : decode cX5_chunkOf 64 = .ok (.goto (-58), 3) := by decide +kernel
theorem dX5_chunkOf_67 : decode cX5_chunkOf 67 = .ok (.aload 4, 2) := by decide +kernel
theorem dX5_chunkOf_69 : decode cX5_chunkOf 69 = .ok (.ifnonnull 22, 3) := by decide +kernel
theorem dX5_chunkOf_72 : decode cX5_chunkOf 72 = .ok (.new 53, 3) := by decide +kernel
theorem dX5_chunkOf_75 : decode cX5_chunkOf 75 = .ok (.dup, 1) := by decide +kernel
theorem dX5_chunkOf_76 : decode cX5_chunkOf 76 = .ok (.invokespecial 78, 3) := by decide +kernel
theorem dX5_chunkOf_79 : decode cX5_chunkOf 79 = .ok (.astore 4, 2) := by decide +kernel
theorem dX5_chunkOf_81 : decode cX5_chunkOf 81 = .ok (.aload_n 0, 1) := by decide +kernel
theorem dX5_chunkOf_82 : decode cX5_chunkOf 82 = .ok (.getfield 20, 3) := by decide +kernel
theorem dX5_chunkOf_85 : decode cX5_chunkOf 85 = .ok (.aload 4, 2) := by decide +kernel
theorem dX5_chunkOf_87 : decode cX5_chunkOf 87 = .ok (.invokevirtual 60, 3) := by decide +kernel
theorem dX5_chunkOf_90 : decode cX5_chunkOf 90 = .ok (.pop, 1) := by decide +kernel
theorem dX5_chunkOf_91 : decode cX5_chunkOf 91 = .ok (.aload 4, 2) := by decide +kernel
theorem dX5_chunkOf_93 : decode cX5_chunkOf 93 = .ok (.aload_n 1, 1) := by decide +kernel
theorem dX5_chunkOf_94 : decode cX5_chunkOf 94 = .ok (.iload_n 2, 1) := by decide +kernel
theorem dX5_chunkOf_95 : decode cX5_chunkOf 95 = .ok (.iload_n 3, 1) := by decide +kernel
theorem dX5_chunkOf_96 : decode cX5_chunkOf 96 = .ok (.invokevirtual 79, 3) := by decide +kernel
theorem dX5_chunkOf_99 : decode cX5_chunkOf 99 = .ok (.aload 4, 2) := by decide +kernel
theorem dX5_chunkOf_101 : decode cX5_chunkOf 101 = .ok (.areturn, 1) := by decide +kernel
theorem dX5_dropPaper_0 : decode cX5_dropPaper 0 = .ok (.aload_n 0, 1) := by decide +kernel
theorem dX5_dropPaper_1 : decode cX5_dropPaper 1 = .ok (.getfield 11, 3) := by decide +kernel
theorem dX5_dropPaper_4 : decode cX5_dropPaper 4 = .ok (.iload_n 1, 1) := by decide +kernel
theorem dX5_dropPaper_5 : decode cX5_dropPaper 5 = .ok (.aaload, 1) := by decide +kernel
theorem dX5_dropPaper_6 : decode cX5_dropPaper 6 = .ok (.astore_n 2, 1) := by decide +kernel
theorem dX5_dropPaper_7 : decode cX5_dropPaper 7 = .ok (.iconst 0, 1) := by decide +kernel
theorem dX5_dropPaper_8 : decode cX5_dropPaper 8 = .ok (.istore_n 3, 1) := by decide +kernel
theorem dX5_dropPaper_9 : decode cX5_dropPaper 9 = .ok (.iconst 0, 1) := by decide +kernel
theorem dX5_dropPaper_10 : decode cX5_dropPaper 10 = .ok (.istore 4, 2) := by decide +kernel
theorem dX5_dropPaper_12 : decode cX5_dropPaper 12 = .ok (.iload 4, 2) := by decide +kernel
theorem dX5_dropPaper_14 : decode cX5_dropPaper 14 = .ok (.aload_n 2, 1) := by decide +kernel
theorem dX5_dropPaper_15 : decode cX5_dropPaper 15 = .ok (.getfield 57, 3) := by decide +kernel
theorem dX5_dropPaper_18 : decode cX5_dropPaper 18 = .ok (.invokevirtual 68, 3) := by decide +kernel
theorem dX5_dropPaper_21 : decode cX5_dropPaper 21 = .ok (.if_icmp .ge 45, 3) := by decide +kernel
theorem dX5_dropPaper_24 : decode cX5_dropPaper 24 = .ok (.aload_n 2, 1) := by decide +kernel
theorem dX5_dropPaper_25 : decode cX5_dropPaper 25 = .ok (.getfield 57, 3) := by decide +kernel
theorem dX5_dropPaper_28 : decode cX5_dropPaper 28 = .ok (.iload 4, 2) := by decide +kernel
theorem dX5_dropPaper_30 : decode cX5_dropPaper 30 = .ok (.invokevirtual 71, 3) := by decide +kernel
theorem dX5_dropPaper_33 : decode cX5_dropPaper 33 = .ok (.checkcast 53, 3) := by decide +kernel
theorem dX5_dropPaper_36 : decode cX5_dropPaper 36 = .ok (.astore 5, 2) := by decide +kernel
theorem dX5_dropPaper_38 : decode cX5_dropPaper 38 = .ok (.aload 5, 2) := by decide +kernel
theorem dX5_dropPaper_40 : decode cX5_dropPaper 40 = .ok (.dup, 1) := by decide +kernel
theorem dX5_dropPaper_41 : decode cX5_dropPaper 41 = .ok (.getfield 52, 3) := by decide +kernel
theorem dX5_dropPaper_44 : decode cX5_dropPaper 44 = .ok (.iconst 1, 1) := by decide +kernel
theorem dX5_dropPaper_45 : decode cX5_dropPaper 45 = .ok (.isub, 1) := by decide +kernel
theorem dX5_dropPaper_46 : decode cX5_dropPaper 46 = .ok (.putfield 52, 3) := by decide +kernel
theorem dX5_dropPaper_49 : decode cX5_dropPaper 49 = .ok (.aload 5, 2) := by decide +kernel
theorem dX5_dropPaper_51 : decode cX5_dropPaper 51 = .ok (.getfield 52, 3) := by decide +kernel
theorem dX5_dropPaper_54 : decode cX5_dropPaper 54 = .ok (.ifCond .ne 6, 3) := by decide +kernel
theorem dX5_dropPaper_57 : decode cX5_dropPaper 57 = .ok (.iinc 3 1, 3) := by decide +kernel
theorem dX5_dropPaper_60 : decode cX5_dropPaper 60 = .ok (.iinc 4 1, 3) := by decide +kernel
theorem dX5_dropPaper_63 : decode cX5_dropPaper 63 = .ok (.goto (-51), 3) := by decide +kernel
theorem dX5_dropPaper_66 : decode cX5_dropPaper 66 = .ok (.aload_n 2, 1) := by decide +kernel
theorem dX5_dropPaper_67 : decode cX5_dropPaper 67 = .ok (.getfield 57, 3) := by decide +kernel
theorem dX5_dropPaper_70 : decode cX5_dropPaper 70 = .ok (.invokevirtual 83, 3) := by decide +kernel
theorem dX5_dropPaper_73 : decode cX5_dropPaper 73 = .ok (.aload_n 2, 1) := by decide +kernel
theorem dX5_dropPaper_74 : decode cX5_dropPaper 74 = .ok (.iconst 0, 1) := by decide +kernel
theorem dX5_dropPaper_75 : decode cX5_dropPaper 75 = .ok (.putfield 35, 3) := by decide +kernel
theorem dX5_dropPaper_78 : decode cX5_dropPaper 78 = .ok (.iload_n 3, 1) := by decide +kernel
theorem dX5_dropPaper_79 : decode cX5_dropPaper 79 = .ok (.ireturn, 1) := by decide +kernel
theorem dX5_countPapers_0 : decode cX5_countPapers 0 = .ok (.iconst 0, 1) := by decide +kernel
theorem dX5_countPapers_1 : decode cX5_countPapers 1 = .ok (.istore_n 1, 1) := by decide +kernel
theorem dX5_countPapers_2 : decode cX5_countPapers 2 = .ok (.iconst 0, 1) := by decide +kernel
theorem dX5_countPapers_3 : decode cX5_countPapers 3 = .ok (.istore_n 2, 1) := by decide +kernel
theorem dX5_countPapers_4 : decode cX5_countPapers 4 = .ok (.iload_n 2, 1) := by decide +kernel
theorem dX5_countPapers_5 : decode cX5_countPapers 5 = .ok (.aload_n 0, 1) := by decide +kernel
theorem dX5_countPapers_6 : decode cX5_countPapers 6 = .ok (.getfield 11, 3) := by decide +kernel
theorem dX5_countPapers_9 : decode cX5_countPapers 9 = .ok (.arraylength, 1) := by decide +kernel
theorem dX5_countPapers_10 : decode cX5_countPapers 10 = .ok (.if_icmp .ge 29, 3) := by decide +kernel
theorem dX5_countPapers_13 : decode cX5_countPapers 13 = .ok (.iload_n 1, 1) := by decide +kernel
theorem dX5_countPapers_14 : decode cX5_countPapers 14 = .ok (.aload_n 0, 1) := by decide +kernel
theorem dX5_countPapers_15 : decode cX5_countPapers 15 = .ok (.getfield 11, 3) := by decide +kernel
theorem dX5_countPapers_18 : decode cX5_countPapers 18 = .ok (.iload_n 2, 1) := by decide +kernel
theorem dX5_countPapers_19 : decode cX5_countPapers 19 = .ok (.aaload, 1) := by decide +kernel
theorem dX5_countPapers_20 : decode cX5_countPapers 20 = .ok (.getfield 35, 3) := by decide +kernel
theorem dX5_countPapers_23 : decode cX5_countPapers 23 = .ok (.ifCond .eq 7, 3) := by decide +kernel
theorem dX5_countPapers_26 : decode cX5_countPapers 26 = .ok (.iconst 1, 1) := by decide +kernel
theorem dX5_countPapers_27 : decode cX5_countPapers 27 = .ok (.goto 4, 3) := by decide +kernel
theorem dX5_countPapers_30 : decode cX5_countPapers 30 = .ok (.iconst 0, 1) := by decide +kernel
theorem dX5_countPapers_31 : decode cX5_countPapers 31 = .ok (.iadd, 1) := by decide +kernel
theorem dX5_countPapers_32 : decode cX5_countPapers 32 = .ok (.istore_n 1, 1) := by decide +kernel
theorem dX5_countPapers_33 : decode cX5_countPapers 33 = .ok (.iinc 2 1, 3) := by decide +kernel
theorem dX5_countPapers_36 : decode cX5_countPapers 36 = .ok (.goto (-32), 3) := by decide +kernel
theorem dX5_countPapers_39 : decode cX5_countPapers 39 = .ok (.iload_n 1, 1) := by decide +kernel
theorem dX5_countPapers_40 : decode cX5_countPapers 40 = .ok (.ireturn, 1) := by decide +kernel
theorem dX5_countChunks_0 : decode cX5_countChunks 0 = .ok (.iconst 0, 1) := by decide +kernel
theorem dX5_countChunks_1 : decode cX5_countChunks 1 = .ok (.istore_n 1, 1) := by decide +kernel
theorem dX5_countChunks_2 : decode cX5_countChunks 2 = .ok (.iconst 0, 1) := by decide +kernel
theorem dX5_countChunks_3 : decode cX5_countChunks 3 = .ok (.istore_n 2, 1) := by decide +kernel
theorem dX5_countChunks_4 : decode cX5_countChunks 4 = .ok (.iload_n 2, 1) := by decide +kernel
theorem dX5_countChunks_5 : decode cX5_countChunks 5 = .ok (.aload_n 0, 1) := by decide +kernel
theorem dX5_countChunks_6 : decode cX5_countChunks 6 = .ok (.getfield 20, 3) := by decide +kernel
theorem dX5_countChunks_9 : decode cX5_countChunks 9 = .ok (.invokevirtual 68, 3) := by decide +kernel
theorem dX5_countChunks_12 : decode cX5_countChunks 12 = .ok (.if_icmp .ge 34, 3) := by decide +kernel
theorem dX5_countChunks_15 : decode cX5_countChunks 15 = .ok (.iload_n 1, 1) := by decide +kernel
theorem dX5_countChunks_16 : decode cX5_countChunks 16 = .ok (.aload_n 0, 1) := by decide +kernel
theorem dX5_countChunks_17 : decode cX5_countChunks 17 = .ok (.getfield 20, 3) := by decide +kernel
theorem dX5_countChunks_20 : decode cX5_countChunks 20 = .ok (.iload_n 2, 1) := by decide +kernel
theorem dX5_countChunks_21 : decode cX5_countChunks 21 = .ok (.invokevirtual 71, 3) := by decide +kernel
theorem dX5_countChunks_24 : decode cX5_countChunks 24 = .ok (.checkcast 53, 3) := by decide +kernel
theorem dX5_countChunks_27 : decode cX5_countChunks 27 = .ok (.getfield 52, 3) := by decide +kernel
theorem dX5_countChunks_30 : decode cX5_countChunks 30 = .ok (.ifCond .le 7, 3) := by decide +kernel
theorem dX5_countChunks_33 : decode cX5_countChunks 33 = .ok (.iconst 1, 1) := by decide +kernel
theorem dX5_countChunks_34 : decode cX5_countChunks 34 = .ok (.goto 4, 3) := by decide +kernel
theorem dX5_countChunks_37 : decode cX5_countChunks 37 = .ok (.iconst 0, 1) := by decide +kernel
theorem dX5_countChunks_38 : decode cX5_countChunks 38 = .ok (.iadd, 1) := by decide +kernel
theorem dX5_countChunks_39 : decode cX5_countChunks 39 = .ok (.istore_n 1, 1) := by decide +kernel
theorem dX5_countChunks_40 : decode cX5_countChunks 40 = .ok (.iinc 2 1, 3) := by decide +kernel
theorem dX5_countChunks_43 : decode cX5_countChunks 43 = .ok (.goto (-39), 3) := by decide +kernel
theorem dX5_countChunks_46 : decode cX5_countChunks 46 = .ok (.iload_n 1, 1) := by decide +kernel
theorem dX5_countChunks_47 : decode cX5_countChunks 47 = .ok (.ireturn, 1) := by decide +kernel
theorem dX5_countBytes_0 : decode cX5_countBytes 0 = .ok (.iconst 0, 1) := by decide +kernel
theorem dX5_countBytes_1 : decode cX5_countBytes 1 = .ok (.istore_n 1, 1) := by decide +kernel
theorem dX5_countBytes_2 : decode cX5_countBytes 2 = .ok (.iconst 0, 1) := by decide +kernel
theorem dX5_countBytes_3 : decode cX5_countBytes 3 = .ok (.istore_n 2, 1) := by decide +kernel
theorem dX5_countBytes_4 : decode cX5_countBytes 4 = .ok (.iload_n 2, 1) := by decide +kernel
theorem dX5_countBytes_5 : decode cX5_countBytes 5 = .ok (.aload_n 0, 1) := by decide +kernel
theorem dX5_countBytes_6 : decode cX5_countBytes 6 = .ok (.getfield 20, 3) := by decide +kernel
theorem dX5_countBytes_9 : decode cX5_countBytes 9 = .ok (.invokevirtual 68, 3) := by decide +kernel
theorem dX5_countBytes_12 : decode cX5_countBytes 12 = .ok (.if_icmp .ge 47, 3) := by decide +kernel
theorem dX5_countBytes_15 : decode cX5_countBytes 15 = .ok (.iload_n 1, 1) := by decide +kernel
theorem dX5_countBytes_16 : decode cX5_countBytes 16 = .ok (.aload_n 0, 1) := by decide +kernel
theorem dX5_countBytes_17 : decode cX5_countBytes 17 = .ok (.getfield 20, 3) := by decide +kernel
theorem dX5_countBytes_20 : decode cX5_countBytes 20 = .ok (.iload_n 2, 1) := by decide +kernel
theorem dX5_countBytes_21 : decode cX5_countBytes 21 = .ok (.invokevirtual 71, 3) := by decide +kernel
theorem dX5_countBytes_24 : decode cX5_countBytes 24 = .ok (.checkcast 53, 3) := by decide +kernel
theorem dX5_countBytes_27 : decode cX5_countBytes 27 = .ok (.getfield 52, 3) := by decide +kernel
theorem dX5_countBytes_30 : decode cX5_countBytes 30 = .ok (.ifCond .le 20, 3) := by decide +kernel
theorem dX5_countBytes_33 : decode cX5_countBytes 33 = .ok (.aload_n 0, 1) := by decide +kernel
theorem dX5_countBytes_34 : decode cX5_countBytes 34 = .ok (.getfield 20, 3) := by decide +kernel
theorem dX5_countBytes_37 : decode cX5_countBytes 37 = .ok (.iload_n 2, 1) := by decide +kernel
theorem dX5_countBytes_38 : decode cX5_countBytes 38 = .ok (.invokevirtual 71, 3) := by decide +kernel
theorem dX5_countBytes_41 : decode cX5_countBytes 41 = .ok (.checkcast 53, 3) := by decide +kernel
theorem dX5_countBytes_44 : decode cX5_countBytes 44 = .ok (.getfield 86, 3) := by decide +kernel
theorem dX5_countBytes_47 : decode cX5_countBytes 47 = .ok (.goto 4, 3) := by decide +kernel
theorem dX5_countBytes_50 : decode cX5_countBytes 50 = .ok (.iconst 0, 1) := by decide +kernel
theorem dX5_countBytes_51 : decode cX5_countBytes 51 = .ok (.iadd, 1) := by decide +kernel
theorem dX5_countBytes_52 : decode cX5_countBytes 52 = .ok (.istore_n 1, 1) := by decide +kernel
theorem dX5_countBytes_53 : decode cX5_countBytes 53 = .ok (.iinc 2 1, 3) := by decide +kernel
theorem dX5_countBytes_56 : decode cX5_countBytes 56 = .ok (.goto (-52), 3) := by decide +kernel
theorem dX5_countBytes_59 : decode cX5_countBytes 59 = .ok (.iload_n 1, 1) := by decide +kernel
theorem dX5_countBytes_60 : decode cX5_countBytes 60 = .ok (.ireturn, 1) := by decide +kernel
theorem dX6_init_0 : decode cX6_init 0 = .ok (.aload_n 0, 1) := by decide +kernel
theorem dX6_init_1 : decode cX6_init 1 = .ok (.invokespecial 3, 3) := by decide +kernel
theorem dX6_init_4 : decode cX6_init 4 = .ok (.aload_n 0, 1) := by decide +kernel
theorem dX6_init_5 : decode cX6_init 5 = .ok (.bipush 120, 2) := by decide +kernel
theorem dX6_init_7 : decode cX6_init 7 = .ok (.newarray .int, 2) := by decide +kernel
theorem dX6_init_9 : decode cX6_init 9 = .ok (.putfield 9, 3) := by decide +kernel
theorem dX6_init_12 : decode cX6_init 12 = .ok (.aload_n 0, 1) := by decide +kernel
theorem dX6_init_13 : decode cX6_init 13 = .ok (.bipush 120, 2) := by decide +kernel
theorem dX6_init_15 : decode cX6_init 15 = .ok (.newarray .long, 2) := by decide +kernel
theorem dX6_init_17 : decode cX6_init 17 = .ok (.putfield 15, 3) := by decide +kernel
theorem dX6_init_20 : decode cX6_init 20 = .ok (.aload_n 0, 1) := by decide +kernel
theorem dX6_init_21 : decode cX6_init 21 = .ok (.iconst 1, 1) := by decide +kernel
theorem dX6_init_22 : decode cX6_init 22 = .ok (.putfield 19, 3) := by decide +kernel
theorem dX6_init_25 : decode cX6_init 25 = .ok (.aload_n 0, 1) := by decide +kernel
theorem dX6_init_26 : decode cX6_init 26 = .ok (.iconst 1, 1) := by decide +kernel
theorem dX6_init_27 : decode cX6_init 27 = .ok (.putfield 23, 3) := by decide +kernel
theorem dX6_init_30 : decode cX6_init 30 = .ok (.return_, 1) := by decide +kernel
theorem dX6_make_0 : decode cX6_make 0 = .ok (.aload_n 0, 1) := by decide +kernel
theorem dX6_make_1 : decode cX6_make 1 = .ok (.iconst 1, 1) := by decide +kernel
theorem dX6_make_2 : decode cX6_make 2 = .ok (.putfield 26, 3) := by decide +kernel
theorem dX6_make_5 : decode cX6_make 5 = .ok (.aload_n 0, 1) := by decide +kernel
theorem dX6_make_6 : decode cX6_make 6 = .ok (.iload_n 2, 1) := by decide +kernel
theorem dX6_make_7 : decode cX6_make 7 = .ok (.putfield 19, 3) := by decide +kernel
theorem dX6_make_10 : decode cX6_make 10 = .ok (.aload_n 0, 1) := by decide +kernel
theorem dX6_make_11 : decode cX6_make 11 = .ok (.iload_n 3, 1) := by decide +kernel
theorem dX6_make_12 : decode cX6_make 12 = .ok (.putfield 23, 3) := by decide +kernel
theorem dX6_make_15 : decode cX6_make 15 = .ok (.aload_n 0, 1) := by decide +kernel
theorem dX6_make_16 : decode cX6_make 16 = .ok (.aload_n 1, 1) := by decide +kernel
theorem dX6_make_17 : decode cX6_make 17 = .ok (.getfield 30, 3) := by decide +kernel
theorem dX6_make_20 : decode cX6_make 20 = .ok (.putfield 35, 3) := by decide +kernel
theorem dX6_make_23 : decode cX6_make 23 = .ok (.aload_n 0, 1) := by decide +kernel
theorem dX6_make_24 : decode cX6_make 24 = .ok (.iconst 0, 1) := by decide +kernel
theorem dX6_make_25 : decode cX6_make 25 = .ok (.putfield 38, 3) := by decide +kernel
theorem dX6_make_28 : decode cX6_make 28 = .ok (.iconst 0, 1) := by decide +kernel
theorem dX6_make_29 : decode cX6_make 29 = .ok (.istore 4, 2) := by decide +kernel
theorem dX6_make_31 : decode cX6_make 31 = .ok (.iload 4, 2) := by decide +kernel
theorem dX6_make_33 : decode cX6_make 33 = .ok (.aload_n 1, 1) := by decide +kernel
theorem dX6_make_34 : decode cX6_make 34 = .ok (.getfield 30, 3) := by decide +kernel
theorem dX6_make_37 : decode cX6_make 37 = .ok (.if_icmp .ge 91, 3) := by decide +kernel
theorem dX6_make_40 : decode cX6_make 40 = .ok (.aload_n 0, 1) := by decide +kernel
theorem dX6_make_41 : decode cX6_make 41 = .ok (.getfield 38, 3) := by decide +kernel
theorem dX6_make_44 : decode cX6_make 44 = .ok (.aload_n 0, 1) := by decide +kernel
theorem dX6_make_45 : decode cX6_make 45 = .ok (.getfield 9, 3) := by decide +kernel
theorem dX6_make_48 : decode cX6_make 48 = .ok (.arraylength, 1) := by decide +kernel
theorem dX6_make_49 : decode cX6_make 49 = .ok (.if_icmp .ge 79, 3) := by decide +kernel
theorem dX6_make_52 : decode cX6_make 52 = .ok (.aload_n 0, 1) := by decide +kernel
theorem dX6_make_53 : decode cX6_make 53 = .ok (.getfield 19, 3) := by decide +kernel
theorem dX6_make_56 : decode cX6_make 56 = .ok (.aload_n 1, 1) := by decide +kernel
theorem dX6_make_57 : decode cX6_make 57 = .ok (.getfield 30, 3) := by decide +kernel
theorem dX6_make_60 : decode cX6_make 60 = .ok (.iload 4, 2) := by decide +kernel
theorem dX6_make_62 : decode cX6_make 62 = .ok (.isub, 1) := by decide +kernel
theorem dX6_make_63 : decode cX6_make 63 = .ok (.invokestatic 41, 3) := by decide +kernel
theorem dX6_make_66 : decode cX6_make 66 = .ok (.istore 5, 2) := by decide +kernel
theorem dX6_make_68 : decode cX6_make 68 = .ok (.aload_n 0, 1) := by decide +kernel
theorem dX6_make_69 : decode cX6_make 69 = .ok (.getfield 9, 3) := by decide +kernel
theorem dX6_make_72 : decode cX6_make 72 = .ok (.aload_n 0, 1) := by decide +kernel
theorem dX6_make_73 : decode cX6_make 73 = .ok (.getfield 38, 3) := by decide +kernel
theorem dX6_make_76 : decode cX6_make 76 = .ok (.aload_n 1, 1) := by decide +kernel
theorem dX6_make_77 : decode cX6_make 77 = .ok (.iload 4, 2) := by decide +kernel
theorem dX6_make_79 : decode cX6_make 79 = .ok (.iload 5, 2) := by decide +kernel
theorem dX6_make_81 : decode cX6_make 81 = .ok (.aload_n 0, 1) := by decide +kernel
theorem dX6_make_82 : decode cX6_make 82 = .ok (.getfield 23, 3) := by decide +kernel
theorem dX6_make_85 : decode cX6_make 85 = .ok (.invokevirtual 47, 3) := by decide +kernel
theorem dX6_make_88 : decode cX6_make 88 = .ok (.iastore, 1) := by decide +kernel
theorem dX6_make_89 : decode cX6_make 89 = .ok (.aload_n 0, 1) := by decide +kernel
theorem dX6_make_90 : decode cX6_make 90 = .ok (.getfield 15, 3) := by decide +kernel
theorem dX6_make_93 : decode cX6_make 93 = .ok (.aload_n 0, 1) := by decide +kernel
theorem dX6_make_94 : decode cX6_make 94 = .ok (.getfield 38, 3) := by decide +kernel
theorem dX6_make_97 : decode cX6_make 97 = .ok (.aload_n 1, 1) := by decide +kernel
theorem dX6_make_98 : decode cX6_make 98 = .ok (.iload 4, 2) := by decide +kernel
theorem dX6_make_100 : decode cX6_make 100 = .ok (.iload 5, 2) := by decide +kernel
theorem dX6_make_102 : decode cX6_make 102 = .ok (.invokevirtual 51, 3) := by decide +kernel
theorem dX6_make_105 : decode cX6_make 105 = .ok (.lastore, 1) := by decide +kernel
theorem dX6_make_106 : decode cX6_make 106 = .ok (.aload_n 0, 1) := by decide +kernel
theorem dX6_make_107 : decode cX6_make 107 = .ok (.dup, 1) := by decide +kernel
theorem dX6_make_108 : decode cX6_make 108 = .ok (.getfield 38, 3) := by decide +kernel
theorem dX6_make_111 : decode cX6_make 111 = .ok (.iconst 1, 1) := by decide +kernel
theorem dX6_make_112 : decode cX6_make 112 = .ok (.iadd, 1) := by decide +kernel
theorem dX6_make_113 : decode cX6_make 113 = .ok (.putfield 38, 3) := by decide +kernel
theorem dX6_make_116 : decode cX6_make 116 = .ok (.iload 4, 2) := by decide +kernel
theorem dX6_make_118 : decode cX6_make 118 = .ok (.aload_n 0, 1) := by decide +kernel
theorem dX6_make_119 : decode cX6_make 119 = .ok (.getfield 19, 3) := by decide +kernel
theorem dX6_make_122 : decode cX6_make 122 = .ok (.iadd, 1) := by decide +kernel
theorem dX6_make_123 : decode cX6_make 123 = .ok (.istore 4, 2) := by decide +kernel
theorem dX6_make_125 : decode cX6_make 125 = .ok (.goto (-94), 3) := by decide +kernel
theorem dX6_make_128 : decode cX6_make 128 = .ok (.return_, 1) := by decide +kernel
theorem dX6_sizeOfBlock_0 : decode cX6_sizeOfBlock 0 = .ok (.aload_n 0, 1) := by decide +kernel
theorem dX6_sizeOfBlock_1 : decode cX6_sizeOfBlock 1 = .ok (.getfield 19, 3) := by decide +kernel
theorem dX6_sizeOfBlock_4 : decode cX6_sizeOfBlock 4 = .ok (.aload_n 0, 1) := by decide +kernel
theorem dX6_sizeOfBlock_5 : decode cX6_sizeOfBlock 5 = .ok (.getfield 35, 3) := by decide +kernel
theorem dX6_sizeOfBlock_8 : decode cX6_sizeOfBlock 8 = .ok (.iload_n 1, 1) := by decide +kernel
theorem dX6_sizeOfBlock_9 : decode cX6_sizeOfBlock 9 = .ok (.aload_n 0, 1) := by decide +kernel
theorem dX6_sizeOfBlock_10 : decode cX6_sizeOfBlock 10 = .ok (.getfield 19, 3) := by decide +kernel
theorem dX6_sizeOfBlock_13 : decode cX6_sizeOfBlock 13 = .ok (.imul, 1) := by decide +kernel
theorem dX6_sizeOfBlock_14 : decode cX6_sizeOfBlock 14 = .ok (.isub, 1) := by decide +kernel
theorem dX6_sizeOfBlock_15 : decode cX6_sizeOfBlock 15 = .ok (.invokestatic 41, 3) := by decide +kernel
theorem dX6_sizeOfBlock_18 : decode cX6_sizeOfBlock 18 = .ok (.ireturn, 1) := by decide +kernel
theorem dX6_windowFor_0 : decode cX6_windowFor 0 = .ok (.iload_n 1, 1) := by decide +kernel
theorem dX6_windowFor_1 : decode cX6_windowFor 1 = .ok (.aload_n 0, 1) := by decide +kernel
theorem dX6_windowFor_2 : decode cX6_windowFor 2 = .ok (.getfield 19, 3) := by decide +kernel
theorem dX6_windowFor_5 : decode cX6_windowFor 5 = .ok (.if_icmp .lt 8, 3) := by decide +kernel
theorem dX6_windowFor_8 : decode cX6_windowFor 8 = .ok (.aload_n 0, 1) := by decide +kernel
theorem dX6_windowFor_9 : decode cX6_windowFor 9 = .ok (.getfield 19, 3) := by decide +kernel
theorem dX6_windowFor_12 : decode cX6_windowFor 12 = .ok (.ireturn, 1) := by decide +kernel
theorem dX6_windowFor_13 : decode cX6_windowFor 13 = .ok (.aload_n 0, 1) := by decide +kernel
theorem dX6_windowFor_14 : decode cX6_windowFor 14 = .ok (.getfield 38, 3) := by decide +kernel
theorem dX6_windowFor_17 : decode cX6_windowFor 17 = .ok (.ifCond .le 21, 3) := by decide +kernel
theorem dX6_windowFor_20 : decode cX6_windowFor 20 = .ok (.aload_n 0, 1) := by decide +kernel
theorem dX6_windowFor_21 : decode cX6_windowFor 21 = .ok (.aload_n 0, 1) := by decide +kernel
theorem dX6_windowFor_22 : decode cX6_windowFor 22 = .ok (.getfield 38, 3) := by decide +kernel
theorem dX6_windowFor_25 : decode cX6_windowFor 25 = .ok (.iconst 1, 1) := by decide +kernel
theorem dX6_windowFor_26 : decode cX6_windowFor 26 = .ok (.isub, 1) := by decide +kernel
theorem dX6_windowFor_27 : decode cX6_windowFor 27 = .ok (.invokevirtual 55, 3) := by decide +kernel
theorem dX6_windowFor_30 : decode cX6_windowFor 30 = .ok (.iload_n 1, 1) := by decide +kernel
theorem dX6_windowFor_31 : decode cX6_windowFor 31 = .ok (.if_icmp .ne 7, 3) := by decide +kernel
theorem dX6_windowFor_34 : decode cX6_windowFor 34 = .ok (.iload_n 1, 1) := by decide +kernel
theorem dX6_windowFor_35 : decode cX6_windowFor 35 = .ok (.goto 4, 3) := by decide +kernel
theorem dX6_windowFor_38 : decode cX6_windowFor 38 = .ok (.iconst 0, 1) := by decide +kernel
theorem dX6_windowFor_39 : decode cX6_windowFor 39 = .ok (.ireturn, 1) := by decide +kernel
theorem dX7_init_0 : decode cX7_init 0 = .ok (.aload_n 0, 1) := by decide +kernel
theorem dX7_init_1 : decode cX7_init 1 = .ok (.invokespecial 3, 3) := by decide +kernel
theorem dX7_init_4 : decode cX7_init 4 = .ok (.aload_n 0, 1) := by decide +kernel
theorem dX7_init_5 : decode cX7_init 5 = .ok (.new 9, 3) := by decide +kernel
theorem dX7_init_8 : decode cX7_init 8 = .ok (.dup, 1) := by decide +kernel
theorem dX7_init_9 : decode cX7_init 9 = .ok (.invokespecial 11, 3) := by decide +kernel
theorem dX7_init_12 : decode cX7_init 12 = .ok (.putfield 12, 3) := by decide +kernel
theorem dX7_init_15 : decode cX7_init 15 = .ok (.aload_n 0, 1) := by decide +kernel
theorem dX7_init_16 : decode cX7_init 16 = .ok (.new 18, 3) := by decide +kernel
theorem dX7_init_19 : decode cX7_init 19 = .ok (.dup, 1) := by decide +kernel
theorem dX7_init_20 : decode cX7_init 20 = .ok (.invokespecial 20, 3) := by decide +kernel
theorem dX7_init_23 : decode cX7_init 23 = .ok (.putfield 21, 3) := by decide +kernel
theorem dX7_init_26 : decode cX7_init 26 = .ok (.aload_n 0, 1) := by decide +kernel
theorem dX7_init_27 : decode cX7_init 27 = .ok (.iconst 2, 1) := by decide +kernel
theorem dX7_init_28 : decode cX7_init 28 = .ok (.putfield 25, 3) := by decide +kernel
theorem dX7_init_31 : decode cX7_init 31 = .ok (.aload_n 0, 1) := by decide +kernel
theorem dX7_init_32 : decode cX7_init 32 = .ok (.iconst (-1), 1) := by decide +kernel
theorem dX7_init_33 : decode cX7_init 33 = .ok (.putfield 29, 3) := by decide +kernel
theorem dX7_init_36 : decode cX7_init 36 = .ok (.return_, 1) := by decide +kernel
theorem dX7_becomeWhole_0 : decode cX7_becomeWhole 0 = .ok (.aload_n 0, 1) := by decide +kernel
theorem dX7_becomeWhole_1 : decode cX7_becomeWhole 1 = .ok (.iconst 0, 1) := by decide +kernel
theorem dX7_becomeWhole_2 : decode cX7_becomeWhole 2 = .ok (.putfield 25, 3) := by decide +kernel
theorem dX7_becomeWhole_5 : decode cX7_becomeWhole 5 = .ok (.aload_n 0, 1) := by decide +kernel
theorem dX7_becomeWhole_6 : decode cX7_becomeWhole 6 = .ok (.getfield 12, 3) := by decide +kernel
theorem dX7_becomeWhole_9 : decode cX7_becomeWhole 9 = .ok (.aload_n 1, 1) := by decide +kernel
theorem dX7_becomeWhole_10 : decode cX7_becomeWhole 10 = .ok (.invokevirtual 32, 3) := by decide +kernel
theorem dX7_becomeWhole_13 : decode cX7_becomeWhole 13 = .ok (.return_, 1) := by decide +kernel
theorem dX7_holds_0 : decode cX7_holds 0 = .ok (.aload_n 0, 1) := by decide +kernel
theorem dX7_holds_1 : decode cX7_holds 1 = .ok (.getfield 25, 3) := by decide +kernel
theorem dX7_holds_4 : decode cX7_holds 4 = .ok (.iconst 2, 1) := by decide +kernel
theorem dX7_holds_5 : decode cX7_holds 5 = .ok (.if_icmp .ne 5, 3) := by decide +kernel
theorem dX7_holds_8 : decode cX7_holds 8 = .ok (.iconst 0, 1) := by decide +kernel
theorem dX7_holds_9 : decode cX7_holds 9 = .ok (.ireturn, 1) := by decide +kernel
theorem dX7_holds_10 : decode cX7_holds 10 = .ok (.aload_n 0, 1) := by decide +kernel
theorem dX7_holds_11 : decode cX7_holds 11 = .ok (.getfield 25, 3) := by decide +kernel
theorem dX7_holds_14 : decode cX7_holds 14 = .ok (.ifCond .ne 13, 3) := by decide +kernel
theorem dX7_holds_17 : decode cX7_holds 17 = .ok (.aload_n 0, 1) := by decide +kernel
theorem dX7_holds_18 : decode cX7_holds 18 = .ok (.getfield 12, 3) := by decide +kernel
theorem dX7_holds_21 : decode cX7_holds 21 = .ok (.getfield 36, 3) := by decide +kernel
theorem dX7_holds_24 : decode cX7_holds 24 = .ok (.goto 10, 3) := by decide +kernel
theorem dX7_holds_27 : decode cX7_holds 27 = .ok (.aload_n 0, 1) := by decide +kernel
theorem dX7_holds_28 : decode cX7_holds 28 = .ok (.getfield 21, 3) := by decide +kernel
theorem dX7_holds_31 : decode cX7_holds 31 = .ok (.invokevirtual 39, 3) := by decide +kernel
theorem dX7_holds_34 : decode cX7_holds 34 = .ok (.ireturn, 1) := by decide +kernel
theorem dX8_init_0 : decode cX8_init 0 = .ok (.aload_n 0, 1) := by decide +kernel
theorem dX8_init_1 : decode cX8_init 1 = .ok (.invokespecial 1, 3) := by decide +kernel
theorem dX8_init_4 : decode cX8_init 4 = .ok (.aload_n 0, 1) := by decide +kernel
theorem dX8_init_5 : decode cX8_init 5 = .ok (.bipush 6, 2) := by decide +kernel
theorem dX8_init_7 : decode cX8_init 7 = .ok (.anewarray 9, 3) := by decide +kernel
theorem dX8_init_10 : decode cX8_init 10 = .ok (.putfield 11, 3) := by decide +kernel
theorem dX8_init_13 : decode cX8_init 13 = .ok (.aload_n 0, 1) := by decide +kernel
theorem dX8_init_14 : decode cX8_init 14 = .ok (.iconst 4, 1) := by decide +kernel
theorem dX8_init_15 : decode cX8_init 15 = .ok (.anewarray 15, 3) := by decide +kernel
theorem dX8_init_18 : decode cX8_init 18 = .ok (.putfield 17, 3) := by decide +kernel
theorem dX8_init_21 : decode cX8_init 21 = .ok (.aload_n 0, 1) := by decide +kernel
theorem dX8_init_22 : decode cX8_init 22 = .ok (.iconst 4, 1) := by decide +kernel
theorem dX8_init_23 : decode cX8_init 23 = .ok (.anewarray 21, 3) := by decide +kernel
theorem dX8_init_26 : decode cX8_init 26 = .ok (.putfield 23, 3) := by decide +kernel
theorem dX8_init_29 : decode cX8_init 29 = .ok (.aload_n 0, 1) := by decide +kernel
theorem dX8_init_30 : decode cX8_init 30 = .ok (.new 9, 3) := by decide +kernel
theorem dX8_init_33 : decode cX8_init 33 = .ok (.dup, 1) := by decide +kernel
theorem dX8_init_34 : decode cX8_init 34 = .ok (.invokespecial 27, 3) := by decide +kernel
theorem dX8_init_37 : decode cX8_init 37 = .ok (.putfield 28, 3) := by decide +kernel
theorem dX8_init_40 : decode cX8_init 40 = .ok (.aload_n 0, 1) := by decide +kernel
theorem dX8_init_41 : decode cX8_init 41 = .ok (.new 32, 3) := by decide +kernel
theorem dX8_init_44 : decode cX8_init 44 = .ok (.dup, 1) := by decide +kernel
theorem dX8_init_45 : decode cX8_init 45 = .ok (.invokespecial 34, 3) := by decide +kernel
theorem dX8_init_48 : decode cX8_init 48 = .ok (.putfield 35, 3) := by decide +kernel
theorem dX8_init_51 : decode cX8_init 51 = .ok (.aload_n 0, 1) := by decide +kernel
theorem dX8_init_52 : decode cX8_init 52 = .ok (.new 39, 3) := by decide +kernel
theorem dX8_init_55 : decode cX8_init 55 = .ok (.dup, 1) := by decide +kernel
theorem dX8_init_56 : decode cX8_init 56 = .ok (.invokespecial 41, 3) := by decide +kernel
theorem dX8_init_59 : decode cX8_init 59 = .ok (.putfield 42, 3) := by decide +kernel
theorem dX8_init_62 : decode cX8_init 62 = .ok (.iconst 0, 1) := by decide +kernel
theorem dX8_init_63 : decode cX8_init 63 = .ok (.istore_n 1, 1) := by decide +kernel
theorem dX8_init_64 : decode cX8_init 64 = .ok (.iload_n 1, 1) := by decide +kernel
theorem dX8_init_65 : decode cX8_init 65 = .ok (.aload_n 0, 1) := by decide +kernel
theorem dX8_init_66 : decode cX8_init 66 = .ok (.getfield 11, 3) := by decide +kernel
theorem dX8_init_69 : decode cX8_init 69 = .ok (.arraylength, 1) := by decide +kernel
theorem dX8_init_70 : decode cX8_init 70 = .ok (.if_icmp .ge 22, 3) := by decide +kernel
theorem dX8_init_73 : decode cX8_init 73 = .ok (.aload_n 0, 1) := by decide +kernel
theorem dX8_init_74 : decode cX8_init 74 = .ok (.getfield 11, 3) := by decide +kernel
theorem dX8_init_77 : decode cX8_init 77 = .ok (.iload_n 1, 1) := by decide +kernel
theorem dX8_init_78 : decode cX8_init 78 = .ok (.new 9, 3) := by decide +kernel
theorem dX8_init_81 : decode cX8_init 81 = .ok (.dup, 1) := by decide +kernel
theorem dX8_init_82 : decode cX8_init 82 = .ok (.invokespecial 27, 3) := by decide +kernel
theorem dX8_init_85 : decode cX8_init 85 = .ok (.aastore, 1) := by decide +kernel
theorem dX8_init_86 : decode cX8_init 86 = .ok (.iinc 1 1, 3) := by decide +kernel
theorem dX8_init_89 : decode cX8_init 89 = .ok (.goto (-25), 3) := by decide +kernel
theorem dX8_init_92 : decode cX8_init 92 = .ok (.iconst 0, 1) := by decide +kernel
theorem dX8_init_93 : decode cX8_init 93 = .ok (.istore_n 1, 1) := by decide +kernel
theorem dX8_init_94 : decode cX8_init 94 = .ok (.iload_n 1, 1) := by decide +kernel
theorem dX8_init_95 : decode cX8_init 95 = .ok (.aload_n 0, 1) := by decide +kernel
theorem dX8_init_96 : decode cX8_init 96 = .ok (.getfield 17, 3) := by decide +kernel
theorem dX8_init_99 : decode cX8_init 99 = .ok (.arraylength, 1) := by decide +kernel
theorem dX8_init_100 : decode cX8_init 100 = .ok (.if_icmp .ge 22, 3) := by decide +kernel
theorem dX8_init_103 : decode cX8_init 103 = .ok (.aload_n 0, 1) := by decide +kernel
theorem dX8_init_104 : decode cX8_init 104 = .ok (.getfield 17, 3) := by decide +kernel
theorem dX8_init_107 : decode cX8_init 107 = .ok (.iload_n 1, 1) := by decide +kernel
theorem dX8_init_108 : decode cX8_init 108 = .ok (.new 15, 3) := by decide +kernel
theorem dX8_init_111 : decode cX8_init 111 = .ok (.dup, 1) := by decide +kernel
theorem dX8_init_112 : decode cX8_init 112 = .ok (.invokespecial 46, 3) := by decide +kernel
theorem dX8_init_115 : decode cX8_init 115 = .ok (.aastore, 1) := by decide +kernel
theorem dX8_init_116 : decode cX8_init 116 = .ok (.iinc 1 1, 3) := by decide +kernel
theorem dX8_init_119 : decode cX8_init 119 = .ok (.goto (-25), 3) := by decide +kernel
theorem dX8_init_122 : decode cX8_init 122 = .ok (.iconst 0, 1) := by decide +kernel
theorem dX8_init_123 : decode cX8_init 123 = .ok (.istore_n 1, 1) := by decide +kernel
theorem dX8_init_124 : decode cX8_init 124 = .ok (.iload_n 1, 1) := by decide +kernel
theorem dX8_init_125 : decode cX8_init 125 = .ok (.aload_n 0, 1) := by decide +kernel
theorem dX8_init_126 : decode cX8_init 126 = .ok (.getfield 23, 3) := by decide +kernel
theorem dX8_init_129 : decode cX8_init 129 = .ok (.arraylength, 1) := by decide +kernel
theorem dX8_init_130 : decode cX8_init 130 = .ok (.if_icmp .ge 22, 3) := by decide +kernel
theorem dX8_init_133 : decode cX8_init 133 = .ok (.aload_n 0, 1) := by decide +kernel
theorem dX8_init_134 : decode cX8_init 134 = .ok (.getfield 23, 3) := by decide +kernel
theorem dX8_init_137 : decode cX8_init 137 = .ok (.iload_n 1, 1) := by decide +kernel
theorem dX8_init_138 : decode cX8_init 138 = .ok (.new 21, 3) := by decide +kernel
theorem dX8_init_141 : decode cX8_init 141 = .ok (.dup, 1) := by decide +kernel
theorem dX8_init_142 : decode cX8_init 142 = .ok (.invokespecial 47, 3) := by decide +kernel
theorem dX8_init_145 : decode cX8_init 145 = .ok (.aastore, 1) := by decide +kernel
theorem dX8_init_146 : decode cX8_init 146 = .ok (.iinc 1 1, 3) := by decide +kernel
theorem dX8_init_149 : decode cX8_init 149 = .ok (.goto (-25), 3) := by decide +kernel
theorem dX8_init_152 : decode cX8_init 152 = .ok (.return_, 1) := by decide +kernel
theorem dX8_file_0 : decode cX8_file 0 = .ok (.aload_n 0, 1) := by decide +kernel
theorem dX8_file_1 : decode cX8_file 1 = .ok (.getfield 48, 3) := by decide +kernel
theorem dX8_file_4 : decode cX8_file 4 = .ok (.bipush 6, 2) := by decide +kernel
theorem dX8_file_6 : decode cX8_file 6 = .ok (.if_icmp .lt 13, 3) := by decide +kernel
theorem dX8_file_9 : decode cX8_file 9 = .ok (.new 52, 3) := by decide +kernel
theorem dX8_file_12 : decode cX8_file 12 = .ok (.dup, 1) := by decide +kernel
theorem dX8_file_13 : decode cX8_file 13 = .ok (.ldc 54, 2) := by decide +kernel
theorem dX8_file_15 : decode cX8_file 15 = .ok (.invokespecial 56, 3) := by decide +kernel
theorem dX8_file_18 : decode cX8_file 18 = .ok (.athrow, 1) := by decide +kernel
theorem dX8_file_19 : decode cX8_file 19 = .ok (.aload_n 0, 1) := by decide +kernel
theorem dX8_file_20 : decode cX8_file 20 = .ok (.dup, 1) := by decide +kernel
theorem dX8_file_21 : decode cX8_file 21 = .ok (.getfield 48, 3) := by decide +kernel
theorem dX8_file_24 : decode cX8_file 24 = .ok (.iconst 1, 1) := by decide +kernel
theorem dX8_file_25 : decode cX8_file 25 = .ok (.iadd, 1) := by decide +kernel
theorem dX8_file_26 : decode cX8_file 26 = .ok (.putfield 48, 3) := by decide +kernel
theorem dX8_file_29 : decode cX8_file 29 = .ok (.aload_n 0, 1) := by decide +kernel
theorem dX8_file_30 : decode cX8_file 30 = .ok (.getfield 48, 3) := by decide +kernel
theorem dX8_file_33 : decode cX8_file 33 = .ok (.iconst 1, 1) := by decide +kernel
theorem dX8_file_34 : decode cX8_file 34 = .ok (.isub, 1) := by decide +kernel
theorem dX8_file_35 : decode cX8_file 35 = .ok (.ireturn, 1) := by decide +kernel
theorem dX8_add_0 : decode cX8_add 0 = .ok (.aload_n 0, 1) := by decide +kernel
theorem dX8_add_1 : decode cX8_add 1 = .ok (.iload_n 1, 1) := by decide +kernel
theorem dX8_add_2 : decode cX8_add 2 = .ok (.invokevirtual 59, 3) := by decide +kernel
theorem dX8_add_5 : decode cX8_add 5 = .ok (.iload_n 2, 1) := by decide +kernel
theorem dX8_add_6 : decode cX8_add 6 = .ok (.iconst 0, 1) := by decide +kernel
theorem dX8_add_7 : decode cX8_add 7 = .ok (.sipush 255, 3) := by decide +kernel
theorem dX8_add_10 : decode cX8_add 10 = .ok (.invokestatic 63, 3) := by decide +kernel
theorem dX8_add_13 : decode cX8_add 13 = .ok (.iload_n 3, 1) := by decide +kernel
theorem dX8_add_14 : decode cX8_add 14 = .ok (.iconst 0, 1) := by decide +kernel
theorem dX8_add_15 : decode cX8_add 15 = .ok (.sipush 255, 3) := by decide +kernel
theorem dX8_add_18 : decode cX8_add 18 = .ok (.invokestatic 63, 3) := by decide +kernel
theorem dX8_add_21 : decode cX8_add 21 = .ok (.iload 4, 2) := by decide +kernel
theorem dX8_add_23 : decode cX8_add 23 = .ok (.iconst 1, 1) := by decide +kernel
theorem dX8_add_24 : decode cX8_add 24 = .ok (.bipush 120, 2) := by decide +kernel
theorem dX8_add_26 : decode cX8_add 26 = .ok (.invokestatic 63, 3) := by decide +kernel
theorem dX8_add_29 : decode cX8_add 29 = .ok (.aload_n 0, 1) := by decide +kernel
theorem dX8_add_30 : decode cX8_add 30 = .ok (.getfield 11, 3) := by decide +kernel
theorem dX8_add_33 : decode cX8_add 33 = .ok (.iload_n 1, 1) := by decide +kernel
theorem dX8_add_34 : decode cX8_add 34 = .ok (.aaload, 1) := by decide +kernel
theorem dX8_add_35 : decode cX8_add 35 = .ok (.astore 5, 2) := by decide +kernel
theorem dX8_add_37 : decode cX8_add 37 = .ok (.aload 5, 2) := by decide +kernel
theorem dX8_add_39 : decode cX8_add 39 = .ok (.getfield 67, 3) := by decide +kernel
theorem dX8_add_42 : decode cX8_add 42 = .ok (.iload 4, 2) := by decide +kernel
theorem dX8_add_44 : decode cX8_add 44 = .ok (.iadd, 1) := by decide +kernel
theorem dX8_add_45 : decode cX8_add 45 = .ok (.bipush 120, 2) := by decide +kernel
theorem dX8_add_47 : decode cX8_add 47 = .ok (.if_icmp .le 13, 3) := by decide +kernel
theorem dX8_add_50 : decode cX8_add 50 = .ok (.new 52, 3) := by decide +kernel
theorem dX8_add_53 : decode cX8_add 53 = .ok (.dup, 1) := by decide +kernel
theorem dX8_add_54 : decode cX8_add 54 = .ok (.ldc 70, 2) := by decide +kernel
theorem dX8_add_56 : decode cX8_add 56 = .ok (.invokespecial 56, 3) := by decide +kernel
theorem dX8_add_59 : decode cX8_add 59 = .ok (.athrow, 1) := by decide +kernel
theorem dX8_add_60 : decode cX8_add 60 = .ok (.iconst 0, 1) := by decide +kernel
theorem dX8_add_61 : decode cX8_add 61 = .ok (.istore 6, 2) := by decide +kernel
theorem dX8_add_63 : decode cX8_add 63 = .ok (.iload 6, 2) := by decide +kernel
theorem dX8_add_65 : decode cX8_add 65 = .ok (.iload 4, 2) := by decide +kernel
theorem dX8_add_67 : decode cX8_add 67 = .ok (.if_icmp .ge 24, 3) := by decide +kernel
theorem dX8_add_70 : decode cX8_add 70 = .ok (.aload 5, 2) := by decide +kernel
theorem dX8_add_72 : decode cX8_add 72 = .ok (.iload_n 2, 1) := by decide +kernel
theorem dX8_add_73 : decode cX8_add 73 = .ok (.iload 6, 2) := by decide +kernel
theorem dX8_add_75 : decode cX8_add 75 = .ok (.iload_n 3, 1) := by decide +kernel
theorem dX8_add_76 : decode cX8_add 76 = .ok (.imul, 1) := by decide +kernel
theorem dX8_add_77 : decode cX8_add 77 = .ok (.iadd, 1) := by decide +kernel
theorem dX8_add_78 : decode cX8_add 78 = .ok (.sipush 256, 3) := by decide +kernel
theorem dX8_add_81 : decode cX8_add 81 = .ok (.irem, 1) := by decide +kernel
theorem dX8_add_82 : decode cX8_add 82 = .ok (.invokevirtual 72, 3) := by decide +kernel
theorem dX8_add_85 : decode cX8_add 85 = .ok (.iinc 6 1, 3) := by decide +kernel
theorem dX8_add_88 : decode cX8_add 88 = .ok (.goto (-25), 3) := by decide +kernel
theorem dX8_add_91 : decode cX8_add 91 = .ok (.aload 5, 2) := by decide +kernel
theorem dX8_add_93 : decode cX8_add 93 = .ok (.getfield 67, 3) := by decide +kernel
theorem dX8_add_96 : decode cX8_add 96 = .ok (.ireturn, 1) := by decide +kernel
theorem dX8_insert_0 : decode cX8_insert 0 = .ok (.aload_n 0, 1) := by decide +kernel
theorem dX8_insert_1 : decode cX8_insert 1 = .ok (.iload_n 1, 1) := by decide +kernel
theorem dX8_insert_2 : decode cX8_insert 2 = .ok (.invokevirtual 59, 3) := by decide +kernel
theorem dX8_insert_5 : decode cX8_insert 5 = .ok (.aload_n 0, 1) := by decide +kernel
theorem dX8_insert_6 : decode cX8_insert 6 = .ok (.getfield 11, 3) := by decide +kernel
theorem dX8_insert_9 : decode cX8_insert 9 = .ok (.iload_n 1, 1) := by decide +kernel
theorem dX8_insert_10 : decode cX8_insert 10 = .ok (.aaload, 1) := by decide +kernel
theorem dX8_insert_11 : decode cX8_insert 11 = .ok (.astore 4, 2) := by decide +kernel
theorem dX8_insert_13 : decode cX8_insert 13 = .ok (.iload_n 2, 1) := by decide +kernel
theorem dX8_insert_14 : decode cX8_insert 14 = .ok (.aload 4, 2) := by decide +kernel
theorem dX8_insert_16 : decode cX8_insert 16 = .ok (.getfield 67, 3) := by decide +kernel
theorem dX8_insert_19 : decode cX8_insert 19 = .ok (.iconst 1, 1) := by decide +kernel
theorem dX8_insert_20 : decode cX8_insert 20 = .ok (.iadd, 1) := by decide +kernel
theorem dX8_insert_21 : decode cX8_insert 21 = .ok (.invokestatic 75, 3) := by decide +kernel
theorem dX8_insert_24 : decode cX8_insert 24 = .ok (.iload_n 3, 1) := by decide +kernel
theorem dX8_insert_25 : decode cX8_insert 25 = .ok (.iconst 0, 1) := by decide +kernel
theorem dX8_insert_26 : decode cX8_insert 26 = .ok (.sipush 255, 3) := by decide +kernel
theorem dX8_insert_29 : decode cX8_insert 29 = .ok (.invokestatic 63, 3) := by decide +kernel
theorem dX8_insert_32 : decode cX8_insert 32 = .ok (.aload 4, 2) := by decide +kernel
theorem dX8_insert_34 : decode cX8_insert 34 = .ok (.getfield 67, 3) := by decide +kernel
theorem dX8_insert_37 : decode cX8_insert 37 = .ok (.bipush 120, 2) := by decide +kernel
theorem dX8_insert_39 : decode cX8_insert 39 = .ok (.if_icmp .lt 13, 3) := by decide +kernel
theorem dX8_insert_42 : decode cX8_insert 42 = .ok (.new 52, 3) := by decide +kernel
theorem dX8_insert_45 : decode cX8_insert 45 = .ok (.dup, 1) := by decide +kernel
theorem dX8_insert_46 : decode cX8_insert 46 = .ok (.ldc 79, 2) := by decide +kernel
theorem dX8_insert_48 : decode cX8_insert 48 = .ok (.invokespecial 56, 3) := by decide +kernel
theorem dX8_insert_51 : decode cX8_insert 51 = .ok (.athrow, 1) := by decide +kernel
theorem dX8_insert_52 : decode cX8_insert 52 = .ok (.aload 4, 2) := by decide +kernel
theorem dX8_insert_54 : decode cX8_insert 54 = .ok (.iload_n 2, 1) := by decide +kernel
theorem dX8_insert_55 : decode cX8_insert 55 = .ok (.iload_n 3, 1) := by decide +kernel
theorem dX8_insert_56 : decode cX8_insert 56 = .ok (.invokevirtual 81, 3) := by decide +kernel
theorem dX8_insert_59 : decode cX8_insert 59 = .ok (.aload 4, 2) := by decide +kernel
theorem dX8_insert_61 : decode cX8_insert 61 = .ok (.getfield 67, 3) := by decide +kernel
theorem dX8_insert_64 : decode cX8_insert 64 = .ok (.ireturn, 1) := by decide +kernel
theorem dX8_remove_0 : decode cX8_remove 0 = .ok (.aload_n 0, 1) := by decide +kernel
theorem dX8_remove_1 : decode cX8_remove 1 = .ok (.iload_n 1, 1) := by decide +kernel
theorem dX8_remove_2 : decode cX8_remove 2 = .ok (.invokevirtual 59, 3) := by decide +kernel
theorem dX8_remove_5 : decode cX8_remove 5 = .ok (.aload_n 0, 1) := by decide +kernel
theorem dX8_remove_6 : decode cX8_remove 6 = .ok (.getfield 11, 3) := by decide +kernel
theorem dX8_remove_9 : decode cX8_remove 9 = .ok (.iload_n 1, 1) := by decide +kernel
theorem dX8_remove_10 : decode cX8_remove 10 = .ok (.aaload, 1) := by decide +kernel
theorem dX8_remove_11 : decode cX8_remove 11 = .ok (.astore 4, 2) := by decide +kernel
theorem dX8_remove_13 : decode cX8_remove 13 = .ok (.iload_n 2, 1) := by decide +kernel
theorem dX8_remove_14 : decode cX8_remove 14 = .ok (.aload 4, 2) := by decide +kernel
theorem dX8_remove_16 : decode cX8_remove 16 = .ok (.getfield 67, 3) := by decide +kernel
theorem dX8_remove_19 : decode cX8_remove 19 = .ok (.iconst 1, 1) := by decide +kernel
theorem dX8_remove_20 : decode cX8_remove 20 = .ok (.iadd, 1) := by decide +kernel
theorem dX8_remove_21 : decode cX8_remove 21 = .ok (.invokestatic 75, 3) := by decide +kernel
theorem dX8_remove_24 : decode cX8_remove 24 = .ok (.iload_n 3, 1) := by decide +kernel
theorem dX8_remove_25 : decode cX8_remove 25 = .ok (.iconst 0, 1) := by decide +kernel
theorem dX8_remove_26 : decode cX8_remove 26 = .ok (.aload 4, 2) := by decide +kernel
theorem dX8_remove_28 : decode cX8_remove 28 = .ok (.getfield 67, 3) := by decide +kernel
theorem dX8_remove_31 : decode cX8_remove 31 = .ok (.iload_n 2, 1) := by decide +kernel
theorem dX8_remove_32 : decode cX8_remove 32 = .ok (.isub, 1) := by decide +kernel
theorem dX8_remove_33 : decode cX8_remove 33 = .ok (.invokestatic 63, 3) := by decide +kernel
theorem dX8_remove_36 : decode cX8_remove 36 = .ok (.aload 4, 2) := by decide +kernel
theorem dX8_remove_38 : decode cX8_remove 38 = .ok (.iload_n 2, 1) := by decide +kernel
theorem dX8_remove_39 : decode cX8_remove 39 = .ok (.iload_n 3, 1) := by decide +kernel
theorem dX8_remove_40 : decode cX8_remove 40 = .ok (.invokevirtual 84, 3) := by decide +kernel
theorem dX8_remove_43 : decode cX8_remove 43 = .ok (.aload 4, 2) := by decide +kernel
theorem dX8_remove_45 : decode cX8_remove 45 = .ok (.getfield 67, 3) := by decide +kernel
theorem dX8_remove_48 : decode cX8_remove 48 = .ok (.ireturn, 1) := by decide +kernel
theorem dX8_copy_0 : decode cX8_copy 0 = .ok (.aload_n 0, 1) := by decide +kernel
theorem dX8_copy_1 : decode cX8_copy 1 = .ok (.iload_n 1, 1) := by decide +kernel
theorem dX8_copy_2 : decode cX8_copy 2 = .ok (.invokevirtual 59, 3) := by decide +kernel
theorem dX8_copy_5 : decode cX8_copy 5 = .ok (.aload_n 0, 1) := by decide +kernel
theorem dX8_copy_6 : decode cX8_copy 6 = .ok (.iload_n 2, 1) := by decide +kernel
theorem dX8_copy_7 : decode cX8_copy 7 = .ok (.invokevirtual 59, 3) := by decide +kernel
theorem dX8_copy_10 : decode cX8_copy 10 = .ok (.aload_n 0, 1) := by decide +kernel
theorem dX8_copy_11 : decode cX8_copy 11 = .ok (.getfield 11, 3) := by decide +kernel
theorem dX8_copy_14 : decode cX8_copy 14 = .ok (.iload_n 2, 1) := by decide +kernel
theorem dX8_copy_15 : decode cX8_copy 15 = .ok (.aaload, 1) := by decide +kernel
theorem dX8_copy_16 : decode cX8_copy 16 = .ok (.aload_n 0, 1) := by decide +kernel
theorem dX8_copy_17 : decode cX8_copy 17 = .ok (.getfield 11, 3) := by decide +kernel
theorem dX8_copy_20 : decode cX8_copy 20 = .ok (.iload_n 1, 1) := by decide +kernel
theorem dX8_copy_21 : decode cX8_copy 21 = .ok (.aaload, 1) := by decide +kernel
theorem dX8_copy_22 : decode cX8_copy 22 = .ok (.invokevirtual 87, 3) := by decide +kernel
theorem dX8_copy_25 : decode cX8_copy 25 = .ok (.return_, 1) := by decide +kernel
theorem dX8_length_0 : decode cX8_length 0 = .ok (.aload_n 0, 1) := by decide +kernel
theorem dX8_length_1 : decode cX8_length 1 = .ok (.iload_n 1, 1) := by decide +kernel
theorem dX8_length_2 : decode cX8_length 2 = .ok (.invokevirtual 59, 3) := by decide +kernel
theorem dX8_length_5 : decode cX8_length 5 = .ok (.aload_n 0, 1) := by decide +kernel
theorem dX8_length_6 : decode cX8_length 6 = .ok (.getfield 11, 3) := by decide +kernel
theorem dX8_length_9 : decode cX8_length 9 = .ok (.iload_n 1, 1) := by decide +kernel
theorem dX8_length_10 : decode cX8_length 10 = .ok (.aaload, 1) := by decide +kernel
theorem dX8_length_11 : decode cX8_length 11 = .ok (.getfield 67, 3) := by decide +kernel
theorem dX8_length_14 : decode cX8_length 14 = .ok (.ireturn, 1) := by decide +kernel
theorem dX8_byteAt_0 : decode cX8_byteAt 0 = .ok (.aload_n 0, 1) := by decide +kernel
theorem dX8_byteAt_1 : decode cX8_byteAt 1 = .ok (.iload_n 1, 1) := by decide +kernel
theorem dX8_byteAt_2 : decode cX8_byteAt 2 = .ok (.invokevirtual 59, 3) := by decide +kernel
theorem dX8_byteAt_5 : decode cX8_byteAt 5 = .ok (.iload_n 2, 1) := by decide +kernel
theorem dX8_byteAt_6 : decode cX8_byteAt 6 = .ok (.aload_n 0, 1) := by decide +kernel
theorem dX8_byteAt_7 : decode cX8_byteAt 7 = .ok (.getfield 11, 3) := by decide +kernel
theorem dX8_byteAt_10 : decode cX8_byteAt 10 = .ok (.iload_n 1, 1) := by decide +kernel
theorem dX8_byteAt_11 : decode cX8_byteAt 11 = .ok (.aaload, 1) := by decide +kernel
theorem dX8_byteAt_12 : decode cX8_byteAt 12 = .ok (.getfield 67, 3) := by decide +kernel
theorem dX8_byteAt_15 : decode cX8_byteAt 15 = .ok (.invokestatic 75, 3) := by decide +kernel
theorem dX8_byteAt_18 : decode cX8_byteAt 18 = .ok (.aload_n 0, 1) := by decide +kernel
theorem dX8_byteAt_19 : decode cX8_byteAt 19 = .ok (.getfield 11, 3) := by decide +kernel
theorem dX8_byteAt_22 : decode cX8_byteAt 22 = .ok (.iload_n 1, 1) := by decide +kernel
theorem dX8_byteAt_23 : decode cX8_byteAt 23 = .ok (.aaload, 1) := by decide +kernel
theorem dX8_byteAt_24 : decode cX8_byteAt 24 = .ok (.iload_n 2, 1) := by decide +kernel
theorem dX8_byteAt_25 : decode cX8_byteAt 25 = .ok (.invokevirtual 91, 3) := by decide +kernel
theorem dX8_byteAt_28 : decode cX8_byteAt 28 = .ok (.ireturn, 1) := by decide +kernel
theorem dX8_sign_0 : decode cX8_sign 0 = .ok (.iload_n 1, 1) := by decide +kernel
theorem dX8_sign_1 : decode cX8_sign 1 = .ok (.iconst 4, 1) := by decide +kernel
theorem dX8_sign_2 : decode cX8_sign 2 = .ok (.invokestatic 75, 3) := by decide +kernel
theorem dX8_sign_5 : decode cX8_sign 5 = .ok (.aload_n 0, 1) := by decide +kernel
theorem dX8_sign_6 : decode cX8_sign 6 = .ok (.iload_n 2, 1) := by decide +kernel
theorem dX8_sign_7 : decode cX8_sign 7 = .ok (.invokevirtual 59, 3) := by decide +kernel
theorem dX8_sign_10 : decode cX8_sign 10 = .ok (.iload_n 3, 1) := by decide +kernel
theorem dX8_sign_11 : decode cX8_sign 11 = .ok (.iconst 1, 1) := by decide +kernel
theorem dX8_sign_12 : decode cX8_sign 12 = .ok (.bipush 7, 2) := by decide +kernel
theorem dX8_sign_14 : decode cX8_sign 14 = .ok (.invokestatic 63, 3) := by decide +kernel
theorem dX8_sign_17 : decode cX8_sign 17 = .ok (.iload 4, 2) := by decide +kernel
theorem dX8_sign_19 : decode cX8_sign 19 = .ok (.iconst 1, 1) := by decide +kernel
theorem dX8_sign_20 : decode cX8_sign 20 = .ok (.sipush 4096, 3) := by decide +kernel
theorem dX8_sign_23 : decode cX8_sign 23 = .ok (.invokestatic 63, 3) := by decide +kernel
theorem dX8_sign_26 : decode cX8_sign 26 = .ok (.aload_n 0, 1) := by decide +kernel
theorem dX8_sign_27 : decode cX8_sign 27 = .ok (.getfield 17, 3) := by decide +kernel
theorem dX8_sign_30 : decode cX8_sign 30 = .ok (.iload_n 1, 1) := by decide +kernel
theorem dX8_sign_31 : decode cX8_sign 31 = .ok (.aaload, 1) := by decide +kernel
theorem dX8_sign_32 : decode cX8_sign 32 = .ok (.aload_n 0, 1) := by decide +kernel
theorem dX8_sign_33 : decode cX8_sign 33 = .ok (.getfield 11, 3) := by decide +kernel
theorem dX8_sign_36 : decode cX8_sign 36 = .ok (.iload_n 2, 1) := by decide +kernel
theorem dX8_sign_37 : decode cX8_sign 37 = .ok (.aaload, 1) := by decide +kernel
theorem dX8_sign_38 : decode cX8_sign 38 = .ok (.iload_n 3, 1) := by decide +kernel
theorem dX8_sign_39 : decode cX8_sign 39 = .ok (.iload 4, 2) := by decide +kernel
theorem dX8_sign_41 : decode cX8_sign 41 = .ok (.invokevirtual 99, 3) := by decide +kernel
theorem dX8_sign_44 : decode cX8_sign 44 = .ok (.aload_n 0, 1) := by decide +kernel
theorem dX8_sign_45 : decode cX8_sign 45 = .ok (.getfield 17, 3) := by decide +kernel
theorem dX8_sign_48 : decode cX8_sign 48 = .ok (.iload_n 1, 1) := by decide +kernel
theorem dX8_sign_49 : decode cX8_sign 49 = .ok (.aaload, 1) := by decide +kernel
theorem dX8_sign_50 : decode cX8_sign 50 = .ok (.getfield 103, 3) := by decide +kernel
theorem dX8_sign_53 : decode cX8_sign 53 = .ok (.ireturn, 1) := by decide +kernel
theorem dX8_blocks_0 : decode cX8_blocks 0 = .ok (.iload_n 1, 1) := by decide +kernel
theorem dX8_blocks_1 : decode cX8_blocks 1 = .ok (.iconst 4, 1) := by decide +kernel
theorem dX8_blocks_2 : decode cX8_blocks 2 = .ok (.invokestatic 75, 3) := by decide +kernel
theorem dX8_blocks_5 : decode cX8_blocks 5 = .ok (.aload_n 0, 1) := by decide +kernel
theorem dX8_blocks_6 : decode cX8_blocks 6 = .ok (.getfield 17, 3) := by decide +kernel
theorem dX8_blocks_9 : decode cX8_blocks 9 = .ok (.iload_n 1, 1) := by decide +kernel
theorem dX8_blocks_10 : decode cX8_blocks 10 = .ok (.aaload, 1) := by decide +kernel
theorem dX8_blocks_11 : decode cX8_blocks 11 = .ok (.getfield 103, 3) := by decide +kernel
theorem dX8_blocks_14 : decode cX8_blocks 14 = .ok (.ireturn, 1) := by decide +kernel
theorem dX8_weak_0 : decode cX8_weak 0 = .ok (.aload_n 0, 1) := by decide +kernel
theorem dX8_weak_1 : decode cX8_weak 1 = .ok (.iload_n 1, 1) := by decide +kernel
theorem dX8_weak_2 : decode cX8_weak 2 = .ok (.iload_n 2, 1) := by decide +kernel
theorem dX8_weak_3 : decode cX8_weak 3 = .ok (.invokevirtual 106, 3) := by decide +kernel
theorem dX8_weak_6 : decode cX8_weak 6 = .ok (.aload_n 0, 1) := by decide +kernel
theorem dX8_weak_7 : decode cX8_weak 7 = .ok (.getfield 17, 3) := by decide +kernel
theorem dX8_weak_10 : decode cX8_weak 10 = .ok (.iload_n 1, 1) := by decide +kernel
theorem dX8_weak_11 : decode cX8_weak 11 = .ok (.aaload, 1) := by decide +kernel
theorem dX8_weak_12 : decode cX8_weak 12 = .ok (.getfield 109, 3) := by decide +kernel
theorem dX8_weak_15 : decode cX8_weak 15 = .ok (.iload_n 2, 1) := by decide +kernel
theorem dX8_weak_16 : decode cX8_weak 16 = .ok (.iaload, 1) := by decide +kernel
theorem dX8_weak_17 : decode cX8_weak 17 = .ok (.ireturn, 1) := by decide +kernel
theorem dX8_strong_0 : decode cX8_strong 0 = .ok (.aload_n 0, 1) := by decide +kernel
theorem dX8_strong_1 : decode cX8_strong 1 = .ok (.iload_n 1, 1) := by decide +kernel
theorem dX8_strong_2 : decode cX8_strong 2 = .ok (.iload_n 2, 1) := by decide +kernel
theorem dX8_strong_3 : decode cX8_strong 3 = .ok (.invokevirtual 106, 3) := by decide +kernel
theorem dX8_strong_6 : decode cX8_strong 6 = .ok (.aload_n 0, 1) := by decide +kernel
theorem dX8_strong_7 : decode cX8_strong 7 = .ok (.getfield 17, 3) := by decide +kernel
theorem dX8_strong_10 : decode cX8_strong 10 = .ok (.iload_n 1, 1) := by decide +kernel
theorem dX8_strong_11 : decode cX8_strong 11 = .ok (.aaload, 1) := by decide +kernel
theorem dX8_strong_12 : decode cX8_strong 12 = .ok (.getfield 113, 3) := by decide +kernel
theorem dX8_strong_15 : decode cX8_strong 15 = .ok (.iload_n 2, 1) := by decide +kernel
theorem dX8_strong_16 : decode cX8_strong 16 = .ok (.laload, 1) := by decide +kernel
theorem dX8_strong_17 : decode cX8_strong 17 = .ok (.lreturn, 1) := by decide +kernel
theorem dX8_compare_0 : decode cX8_compare 0 = .ok (.iload_n 1, 1) := by decide +kernel
theorem dX8_compare_1 : decode cX8_compare 1 = .ok (.iconst 4, 1) := by decide +kernel
theorem dX8_compare_2 : decode cX8_compare 2 = .ok (.invokestatic 75, 3) := by decide +kernel
theorem dX8_compare_5 : decode cX8_compare 5 = .ok (.iload_n 2, 1) := by decide +kernel
theorem dX8_compare_6 : decode cX8_compare 6 = .ok (.iconst 4, 1) := by decide +kernel
theorem dX8_compare_7 : decode cX8_compare 7 = .ok (.invokestatic 75, 3) := by decide +kernel
theorem dX8_compare_10 : decode cX8_compare 10 = .ok (.aload_n 0, 1) := by decide +kernel
theorem dX8_compare_11 : decode cX8_compare 11 = .ok (.iload_n 3, 1) := by decide +kernel
theorem dX8_compare_12 : decode cX8_compare 12 = .ok (.invokevirtual 59, 3) := by decide +kernel
theorem dX8_compare_15 : decode cX8_compare 15 = .ok (.aload_n 0, 1) := by decide +kernel
theorem dX8_compare_16 : decode cX8_compare 16 = .ok (.getfield 17, 3) := by decide +kernel
theorem dX8_compare_19 : decode cX8_compare 19 = .ok (.iload_n 2, 1) := by decide +kernel
theorem dX8_compare_20 : decode cX8_compare 20 = .ok (.aaload, 1) := by decide +kernel
theorem dX8_compare_21 : decode cX8_compare 21 = .ok (.getfield 117, 3) := by decide +kernel
theorem dX8_compare_24 : decode cX8_compare 24 = .ok (.ifCond .ne 13, 3) := by decide +kernel
theorem dX8_compare_27 : decode cX8_compare 27 = .ok (.new 52, 3) := by decide +kernel
theorem dX8_compare_30 : decode cX8_compare 30 = .ok (.dup, 1) := by decide +kernel
theorem dX8_compare_31 : decode cX8_compare 31 = .ok (.ldc 121, 2) := by decide +kernel
theorem dX8_compare_33 : decode cX8_compare 33 = .ok (.invokespecial 56, 3) := by decide +kernel
theorem dX8_compare_36 : decode cX8_compare 36 = .ok (.athrow, 1) := by decide +kernel
theorem dX8_compare_37 : decode cX8_compare 37 = .ok (.aload_n 0, 1) := by decide +kernel
theorem dX8_compare_38 : decode cX8_compare 38 = .ok (.getfield 23, 3) := by decide +kernel
theorem dX8_compare_41 : decode cX8_compare 41 = .ok (.iload_n 1, 1) := by decide +kernel
theorem dX8_compare_42 : decode cX8_compare 42 = .ok (.aaload, 1) := by decide +kernel
theorem dX8_compare_43 : decode cX8_compare 43 = .ok (.aload_n 0, 1) := by decide +kernel
theorem dX8_compare_44 : decode cX8_compare 44 = .ok (.getfield 17, 3) := by decide +kernel
theorem dX8_compare_47 : decode cX8_compare 47 = .ok (.iload_n 2, 1) := by decide +kernel
theorem dX8_compare_48 : decode cX8_compare 48 = .ok (.aaload, 1) := by decide +kernel
theorem dX8_compare_49 : decode cX8_compare 49 = .ok (.aload_n 0, 1) := by decide +kernel
theorem dX8_compare_50 : decode cX8_compare 50 = .ok (.getfield 11, 3) := by decide +kernel
theorem dX8_compare_53 : decode cX8_compare 53 = .ok (.iload_n 3, 1) := by decide +kernel
theorem dX8_compare_54 : decode cX8_compare 54 = .ok (.aaload, 1) := by decide +kernel
theorem dX8_compare_55 : decode cX8_compare 55 = .ok (.invokevirtual 123, 3) := by decide +kernel
theorem dX8_compare_58 : decode cX8_compare 58 = .ok (.aload_n 0, 1) := by decide +kernel
theorem dX8_compare_59 : decode cX8_compare 59 = .ok (.getfield 23, 3) := by decide +kernel
theorem dX8_compare_62 : decode cX8_compare 62 = .ok (.iload_n 1, 1) := by decide +kernel
theorem dX8_compare_63 : decode cX8_compare 63 = .ok (.aaload, 1) := by decide +kernel
theorem dX8_compare_64 : decode cX8_compare 64 = .ok (.getfield 126, 3) := by decide +kernel
theorem dX8_compare_67 : decode cX8_compare 67 = .ok (.ireturn, 1) := by decide +kernel
theorem dX8_instructions_0 : decode cX8_instructions 0 = .ok (.iload_n 1, 1) := by decide +kernel
theorem dX8_instructions_1 : decode cX8_instructions 1 = .ok (.iconst 4, 1) := by decide +kernel
theorem dX8_instructions_2 : decode cX8_instructions 2 = .ok (.invokestatic 75, 3) := by decide +kernel
theorem dX8_instructions_5 : decode cX8_instructions 5 = .ok (.aload_n 0, 1) := by decide +kernel
theorem dX8_instructions_6 : decode cX8_instructions 6 = .ok (.getfield 23, 3) := by decide +kernel
theorem dX8_instructions_9 : decode cX8_instructions 9 = .ok (.iload_n 1, 1) := by decide +kernel
theorem dX8_instructions_10 : decode cX8_instructions 10 = .ok (.aaload, 1) := by decide +kernel
theorem dX8_instructions_11 : decode cX8_instructions 11 = .ok (.getfield 126, 3) := by decide +kernel
theorem dX8_instructions_14 : decode cX8_instructions 14 = .ok (.ireturn, 1) := by decide +kernel
theorem dX8_isCopy_0 : decode cX8_isCopy 0 = .ok (.aload_n 0, 1) := by decide +kernel
theorem dX8_isCopy_1 : decode cX8_isCopy 1 = .ok (.iload_n 1, 1) := by decide +kernel
theorem dX8_isCopy_2 : decode cX8_isCopy 2 = .ok (.iload_n 2, 1) := by decide +kernel
theorem dX8_isCopy_3 : decode cX8_isCopy 3 = .ok (.invokevirtual 127, 3) := by decide +kernel
theorem dX8_isCopy_6 : decode cX8_isCopy 6 = .ok (.aload_n 0, 1) := by decide +kernel
theorem dX8_isCopy_7 : decode cX8_isCopy 7 = .ok (.getfield 23, 3) := by decide +kernel
theorem dX8_isCopy_10 : decode cX8_isCopy 10 = .ok (.iload_n 1, 1) := by decide +kernel
theorem dX8_isCopy_11 : decode cX8_isCopy 11 = .ok (.aaload, 1) := by decide +kernel
theorem dX8_isCopy_12 : decode cX8_isCopy 12 = .ok (.getfield 130, 3) := by decide +kernel
theorem dX8_isCopy_15 : decode cX8_isCopy 15 = .ok (.iload_n 2, 1) := by decide +kernel
theorem dX8_isCopy_16 : decode cX8_isCopy 16 = .ok (.baload, 1) := by decide +kernel
theorem dX8_isCopy_17 : decode cX8_isCopy 17 = .ok (.ireturn, 1) := by decide +kernel
theorem dX8_startOf_0 : decode cX8_startOf 0 = .ok (.aload_n 0, 1) := by decide +kernel
theorem dX8_startOf_1 : decode cX8_startOf 1 = .ok (.iload_n 1, 1) := by decide +kernel
theorem dX8_startOf_2 : decode cX8_startOf 2 = .ok (.iload_n 2, 1) := by decide +kernel
theorem dX8_startOf_3 : decode cX8_startOf 3 = .ok (.invokevirtual 127, 3) := by decide +kernel
theorem dX8_startOf_6 : decode cX8_startOf 6 = .ok (.aload_n 0, 1) := by decide +kernel
theorem dX8_startOf_7 : decode cX8_startOf 7 = .ok (.getfield 23, 3) := by decide +kernel
theorem dX8_startOf_10 : decode cX8_startOf 10 = .ok (.iload_n 1, 1) := by decide +kernel
theorem dX8_startOf_11 : decode cX8_startOf 11 = .ok (.aaload, 1) := by decide +kernel
theorem dX8_startOf_12 : decode cX8_startOf 12 = .ok (.getfield 134, 3) := by decide +kernel
theorem dX8_startOf_15 : decode cX8_startOf 15 = .ok (.iload_n 2, 1) := by decide +kernel
theorem dX8_startOf_16 : decode cX8_startOf 16 = .ok (.iaload, 1) := by decide +kernel
theorem dX8_startOf_17 : decode cX8_startOf 17 = .ok (.ireturn, 1) := by decide +kernel
theorem dX8_bytesOf_0 : decode cX8_bytesOf 0 = .ok (.aload_n 0, 1) := by decide +kernel
theorem dX8_bytesOf_1 : decode cX8_bytesOf 1 = .ok (.iload_n 1, 1) := by decide +kernel
theorem dX8_bytesOf_2 : decode cX8_bytesOf 2 = .ok (.iload_n 2, 1) := by decide +kernel
theorem dX8_bytesOf_3 : decode cX8_bytesOf 3 = .ok (.invokevirtual 127, 3) := by decide +kernel
theorem dX8_bytesOf_6 : decode cX8_bytesOf 6 = .ok (.aload_n 0, 1) := by decide +kernel
theorem dX8_bytesOf_7 : decode cX8_bytesOf 7 = .ok (.getfield 23, 3) := by decide +kernel
theorem dX8_bytesOf_10 : decode cX8_bytesOf 10 = .ok (.iload_n 1, 1) := by decide +kernel
theorem dX8_bytesOf_11 : decode cX8_bytesOf 11 = .ok (.aaload, 1) := by decide +kernel
theorem dX8_bytesOf_12 : decode cX8_bytesOf 12 = .ok (.getfield 137, 3) := by decide +kernel
theorem dX8_bytesOf_15 : decode cX8_bytesOf 15 = .ok (.iload_n 2, 1) := by decide +kernel
theorem dX8_bytesOf_16 : decode cX8_bytesOf 16 = .ok (.iaload, 1) := by decide +kernel
theorem dX8_bytesOf_17 : decode cX8_bytesOf 17 = .ok (.ireturn, 1) := by decide +kernel
theorem dX8_cost_0 : decode cX8_cost 0 = .ok (.iload_n 1, 1) := by decide +kernel
theorem dX8_cost_1 : decode cX8_cost 1 = .ok (.iconst 4, 1) := by decide +kernel
theorem dX8_cost_2 : decode cX8_cost 2 = .ok (.invokestatic 75, 3) := by decide +kernel
theorem dX8_cost_5 : decode cX8_cost 5 = .ok (.aload_n 0, 1) := by decide +kernel
theorem dX8_cost_6 : decode cX8_cost 6 = .ok (.getfield 23, 3) := by decide +kernel
theorem dX8_cost_9 : decode cX8_cost 9 = .ok (.iload_n 1, 1) := by decide +kernel
theorem dX8_cost_10 : decode cX8_cost 10 = .ok (.aaload, 1) := by decide +kernel
theorem dX8_cost_11 : decode cX8_cost 11 = .ok (.invokevirtual 140, 3) := by decide +kernel
theorem dX8_cost_14 : decode cX8_cost 14 = .ok (.ireturn, 1) := by decide +kernel
theorem dX8_alarms_0 : decode cX8_alarms 0 = .ok (.iload_n 1, 1) := by decide +kernel
theorem dX8_alarms_1 : decode cX8_alarms 1 = .ok (.iconst 4, 1) := by decide +kernel
theorem dX8_alarms_2 : decode cX8_alarms 2 = .ok (.invokestatic 75, 3) := by decide +kernel
theorem dX8_alarms_5 : decode cX8_alarms 5 = .ok (.aload_n 0, 1) := by decide +kernel
theorem dX8_alarms_6 : decode cX8_alarms 6 = .ok (.getfield 23, 3) := by decide +kernel
theorem dX8_alarms_9 : decode cX8_alarms 9 = .ok (.iload_n 1, 1) := by decide +kernel
theorem dX8_alarms_10 : decode cX8_alarms 10 = .ok (.aaload, 1) := by decide +kernel
theorem dX8_alarms_11 : decode cX8_alarms 11 = .ok (.getfield 144, 3) := by decide +kernel
theorem dX8_alarms_14 : decode cX8_alarms 14 = .ok (.ireturn, 1) := by decide +kernel
theorem dX8_apply_0 : decode cX8_apply 0 = .ok (.iload_n 1, 1) := by decide +kernel
theorem dX8_apply_1 : decode cX8_apply 1 = .ok (.iconst 4, 1) := by decide +kernel
theorem dX8_apply_2 : decode cX8_apply 2 = .ok (.invokestatic 75, 3) := by decide +kernel
theorem dX8_apply_5 : decode cX8_apply 5 = .ok (.aload_n 0, 1) := by decide +kernel
theorem dX8_apply_6 : decode cX8_apply 6 = .ok (.iload_n 2, 1) := by decide +kernel
theorem dX8_apply_7 : decode cX8_apply 7 = .ok (.invokevirtual 59, 3) := by decide +kernel
theorem dX8_apply_10 : decode cX8_apply 10 = .ok (.aload_n 0, 1) := by decide +kernel
theorem dX8_apply_11 : decode cX8_apply 11 = .ok (.iload_n 3, 1) := by decide +kernel
theorem dX8_apply_12 : decode cX8_apply 12 = .ok (.invokevirtual 59, 3) := by decide +kernel
theorem dX8_apply_15 : decode cX8_apply 15 = .ok (.aload_n 0, 1) := by decide +kernel
theorem dX8_apply_16 : decode cX8_apply 16 = .ok (.getfield 23, 3) := by decide +kernel
theorem dX8_apply_19 : decode cX8_apply 19 = .ok (.iload_n 1, 1) := by decide +kernel
theorem dX8_apply_20 : decode cX8_apply 20 = .ok (.aaload, 1) := by decide +kernel
theorem dX8_apply_21 : decode cX8_apply 21 = .ok (.getfield 147, 3) := by decide +kernel
theorem dX8_apply_24 : decode cX8_apply 24 = .ok (.ifCond .eq 21, 3) := by decide +kernel
theorem dX8_apply_27 : decode cX8_apply 27 = .ok (.aload_n 0, 1) := by decide +kernel
theorem dX8_apply_28 : decode cX8_apply 28 = .ok (.getfield 23, 3) := by decide +kernel
theorem dX8_apply_31 : decode cX8_apply 31 = .ok (.iload_n 1, 1) := by decide +kernel
theorem dX8_apply_32 : decode cX8_apply 32 = .ok (.aaload, 1) := by decide +kernel
theorem dX8_apply_33 : decode cX8_apply 33 = .ok (.aload_n 0, 1) := by decide +kernel
theorem dX8_apply_34 : decode cX8_apply 34 = .ok (.getfield 11, 3) := by decide +kernel
theorem dX8_apply_37 : decode cX8_apply 37 = .ok (.iload_n 2, 1) := by decide +kernel
theorem dX8_apply_38 : decode cX8_apply 38 = .ok (.aaload, 1) := by decide +kernel
theorem dX8_apply_39 : decode cX8_apply 39 = .ok (.invokevirtual 148, 3) := by decide +kernel
theorem dX8_apply_42 : decode cX8_apply 42 = .ok (.ifCond .ne 13, 3) := by decide +kernel
theorem dX8_apply_45 : decode cX8_apply 45 = .ok (.new 52, 3) := by decide +kernel
theorem dX8_apply_48 : decode cX8_apply 48 = .ok (.dup, 1) := by decide +kernel
theorem dX8_apply_49 : decode cX8_apply 49 = .ok (.ldc 151, 2) := by decide +kernel
theorem dX8_apply_51 : decode cX8_apply 51 = .ok (.invokespecial 56, 3) := by decide +kernel
theorem dX8_apply_54 : decode cX8_apply 54 = .ok (.athrow, 1) := by decide +kernel
theorem dX8_apply_55 : decode cX8_apply 55 = .ok (.aload_n 0, 1) := by decide +kernel
theorem dX8_apply_56 : decode cX8_apply 56 = .ok (.getfield 23, 3) := by decide +kernel
theorem dX8_apply_59 : decode cX8_apply 59 = .ok (.iload_n 1, 1) := by decide +kernel
theorem dX8_apply_60 : decode cX8_apply 60 = .ok (.aaload, 1) := by decide +kernel
theorem dX8_apply_61 : decode cX8_apply 61 = .ok (.aload_n 0, 1) := by decide +kernel
theorem dX8_apply_62 : decode cX8_apply 62 = .ok (.getfield 11, 3) := by decide +kernel
theorem dX8_apply_65 : decode cX8_apply 65 = .ok (.iload_n 2, 1) := by decide +kernel
theorem dX8_apply_66 : decode cX8_apply 66 = .ok (.aaload, 1) := by decide +kernel
theorem dX8_apply_67 : decode cX8_apply 67 = .ok (.aload_n 0, 1) := by decide +kernel
theorem dX8_apply_68 : decode cX8_apply 68 = .ok (.getfield 28, 3) := by decide +kernel
theorem dX8_apply_71 : decode cX8_apply 71 = .ok (.invokevirtual 153, 3) := by decide +kernel
theorem dX8_apply_74 : decode cX8_apply 74 = .ok (.aload_n 0, 1) := by decide +kernel
theorem dX8_apply_75 : decode cX8_apply 75 = .ok (.getfield 11, 3) := by decide +kernel
theorem dX8_apply_78 : decode cX8_apply 78 = .ok (.iload_n 3, 1) := by decide +kernel
theorem dX8_apply_79 : decode cX8_apply 79 = .ok (.aaload, 1) := by decide +kernel
theorem dX8_apply_80 : decode cX8_apply 80 = .ok (.aload_n 0, 1) := by decide +kernel
theorem dX8_apply_81 : decode cX8_apply 81 = .ok (.getfield 28, 3) := by decide +kernel
theorem dX8_apply_84 : decode cX8_apply 84 = .ok (.invokevirtual 87, 3) := by decide +kernel
theorem dX8_apply_87 : decode cX8_apply 87 = .ok (.aload_n 0, 1) := by decide +kernel
theorem dX8_apply_88 : decode cX8_apply 88 = .ok (.getfield 28, 3) := by decide +kernel
theorem dX8_apply_91 : decode cX8_apply 91 = .ok (.getfield 67, 3) := by decide +kernel
theorem dX8_apply_94 : decode cX8_apply 94 = .ok (.ireturn, 1) := by decide +kernel
theorem dX8_keep_0 : decode cX8_keep 0 = .ok (.aload_n 0, 1) := by decide +kernel
theorem dX8_keep_1 : decode cX8_keep 1 = .ok (.iload_n 1, 1) := by decide +kernel
theorem dX8_keep_2 : decode cX8_keep 2 = .ok (.invokevirtual 59, 3) := by decide +kernel
theorem dX8_keep_5 : decode cX8_keep 5 = .ok (.aload_n 0, 1) := by decide +kernel
theorem dX8_keep_6 : decode cX8_keep 6 = .ok (.invokevirtual 157, 3) := by decide +kernel
theorem dX8_keep_9 : decode cX8_keep 9 = .ok (.aload_n 0, 1) := by decide +kernel
theorem dX8_keep_10 : decode cX8_keep 10 = .ok (.getfield 35, 3) := by decide +kernel
theorem dX8_keep_13 : decode cX8_keep 13 = .ok (.aload_n 0, 1) := by decide +kernel
theorem dX8_keep_14 : decode cX8_keep 14 = .ok (.getfield 11, 3) := by decide +kernel
theorem dX8_keep_17 : decode cX8_keep 17 = .ok (.iload_n 1, 1) := by decide +kernel
theorem dX8_keep_18 : decode cX8_keep 18 = .ok (.aaload, 1) := by decide +kernel
theorem dX8_keep_19 : decode cX8_keep 19 = .ok (.invokevirtual 160, 3) := by decide +kernel
theorem dX8_keep_22 : decode cX8_keep 22 = .ok (.ireturn, 1) := by decide +kernel
theorem dX8_keepDelta_0 : decode cX8_keepDelta 0 = .ok (.aload_n 0, 1) := by decide +kernel
theorem dX8_keepDelta_1 : decode cX8_keepDelta 1 = .ok (.iload_n 1, 1) := by decide +kernel
theorem dX8_keepDelta_2 : decode cX8_keepDelta 2 = .ok (.invokevirtual 59, 3) := by decide +kernel
theorem dX8_keepDelta_5 : decode cX8_keepDelta 5 = .ok (.iload_n 2, 1) := by decide +kernel
theorem dX8_keepDelta_6 : decode cX8_keepDelta 6 = .ok (.aload_n 0, 1) := by decide +kernel
theorem dX8_keepDelta_7 : decode cX8_keepDelta 7 = .ok (.getfield 35, 3) := by decide +kernel
theorem dX8_keepDelta_10 : decode cX8_keepDelta 10 = .ok (.getfield 164, 3) := by decide +kernel
theorem dX8_keepDelta_13 : decode cX8_keepDelta 13 = .ok (.invokestatic 75, 3) := by decide +kernel
theorem dX8_keepDelta_16 : decode cX8_keepDelta 16 = .ok (.iload_n 3, 1) := by decide +kernel
theorem dX8_keepDelta_17 : decode cX8_keepDelta 17 = .ok (.iconst 1, 1) := by decide +kernel
theorem dX8_keepDelta_18 : decode cX8_keepDelta 18 = .ok (.bipush 7, 2) := by decide +kernel
theorem dX8_keepDelta_20 : decode cX8_keepDelta 20 = .ok (.invokestatic 63, 3) := by decide +kernel
theorem dX8_keepDelta_23 : decode cX8_keepDelta 23 = .ok (.aload_n 0, 1) := by decide +kernel
theorem dX8_keepDelta_24 : decode cX8_keepDelta 24 = .ok (.invokevirtual 157, 3) := by decide +kernel
theorem dX8_keepDelta_27 : decode cX8_keepDelta 27 = .ok (.aload_n 0, 1) := by decide +kernel
theorem dX8_keepDelta_28 : decode cX8_keepDelta 28 = .ok (.iload_n 2, 1) := by decide +kernel
theorem dX8_keepDelta_29 : decode cX8_keepDelta 29 = .ok (.invokevirtual 165, 3) := by decide +kernel
theorem dX8_keepDelta_32 : decode cX8_keepDelta 32 = .ok (.aload_n 0, 1) := by decide +kernel
theorem dX8_keepDelta_33 : decode cX8_keepDelta 33 = .ok (.getfield 35, 3) := by decide +kernel
theorem dX8_keepDelta_36 : decode cX8_keepDelta 36 = .ok (.aload_n 0, 1) := by decide +kernel
theorem dX8_keepDelta_37 : decode cX8_keepDelta 37 = .ok (.getfield 11, 3) := by decide +kernel
theorem dX8_keepDelta_40 : decode cX8_keepDelta 40 = .ok (.iload_n 1, 1) := by decide +kernel
theorem dX8_keepDelta_41 : decode cX8_keepDelta 41 = .ok (.aaload, 1) := by decide +kernel
theorem dX8_keepDelta_42 : decode cX8_keepDelta 42 = .ok (.iload_n 2, 1) := by decide +kernel
theorem dX8_keepDelta_43 : decode cX8_keepDelta 43 = .ok (.iload_n 3, 1) := by decide +kernel
theorem dX8_keepDelta_44 : decode cX8_keepDelta 44 = .ok (.invokevirtual 168, 3) := by decide +kernel
theorem dX8_keepDelta_47 : decode cX8_keepDelta 47 = .ok (.ireturn, 1) := by decide +kernel
theorem dX8_lose_0 : decode cX8_lose 0 = .ok (.iload_n 1, 1) := by decide +kernel
theorem dX8_lose_1 : decode cX8_lose 1 = .ok (.aload_n 0, 1) := by decide +kernel
theorem dX8_lose_2 : decode cX8_lose 2 = .ok (.getfield 35, 3) := by decide +kernel
theorem dX8_lose_5 : decode cX8_lose 5 = .ok (.getfield 164, 3) := by decide +kernel
theorem dX8_lose_8 : decode cX8_lose 8 = .ok (.invokestatic 75, 3) := by decide +kernel
theorem dX8_lose_11 : decode cX8_lose 11 = .ok (.aload_n 0, 1) := by decide +kernel
theorem dX8_lose_12 : decode cX8_lose 12 = .ok (.getfield 35, 3) := by decide +kernel
theorem dX8_lose_15 : decode cX8_lose 15 = .ok (.getfield 172, 3) := by decide +kernel
theorem dX8_lose_18 : decode cX8_lose 18 = .ok (.iload_n 1, 1) := by decide +kernel
theorem dX8_lose_19 : decode cX8_lose 19 = .ok (.aaload, 1) := by decide +kernel
theorem dX8_lose_20 : decode cX8_lose 20 = .ok (.invokevirtual 176, 3) := by decide +kernel
theorem dX8_lose_23 : decode cX8_lose 23 = .ok (.istore_n 2, 1) := by decide +kernel
theorem dX8_lose_24 : decode cX8_lose 24 = .ok (.aload_n 0, 1) := by decide +kernel
theorem dX8_lose_25 : decode cX8_lose 25 = .ok (.getfield 35, 3) := by decide +kernel
theorem dX8_lose_28 : decode cX8_lose 28 = .ok (.getfield 172, 3) := by decide +kernel
theorem dX8_lose_31 : decode cX8_lose 31 = .ok (.iload_n 1, 1) := by decide +kernel
theorem dX8_lose_32 : decode cX8_lose 32 = .ok (.aaload, 1) := by decide +kernel
theorem dX8_lose_33 : decode cX8_lose 33 = .ok (.iconst 2, 1) := by decide +kernel
theorem dX8_lose_34 : decode cX8_lose 34 = .ok (.putfield 181, 3) := by decide +kernel
theorem dX8_lose_37 : decode cX8_lose 37 = .ok (.iload_n 2, 1) := by decide +kernel
theorem dX8_lose_38 : decode cX8_lose 38 = .ok (.ireturn, 1) := by decide +kernel
theorem dX8_replace_0 : decode cX8_replace 0 = .ok (.iload_n 1, 1) := by decide +kernel
theorem dX8_replace_1 : decode cX8_replace 1 = .ok (.aload_n 0, 1) := by decide +kernel
theorem dX8_replace_2 : decode cX8_replace 2 = .ok (.getfield 35, 3) := by decide +kernel
theorem dX8_replace_5 : decode cX8_replace 5 = .ok (.getfield 164, 3) := by decide +kernel
theorem dX8_replace_8 : decode cX8_replace 8 = .ok (.invokestatic 75, 3) := by decide +kernel
theorem dX8_replace_11 : decode cX8_replace 11 = .ok (.aload_n 0, 1) := by decide +kernel
theorem dX8_replace_12 : decode cX8_replace 12 = .ok (.iload_n 2, 1) := by decide +kernel
theorem dX8_replace_13 : decode cX8_replace 13 = .ok (.invokevirtual 59, 3) := by decide +kernel
theorem dX8_replace_16 : decode cX8_replace 16 = .ok (.aload_n 0, 1) := by decide +kernel
theorem dX8_replace_17 : decode cX8_replace 17 = .ok (.getfield 35, 3) := by decide +kernel
theorem dX8_replace_20 : decode cX8_replace 20 = .ok (.getfield 172, 3) := by decide +kernel
theorem dX8_replace_23 : decode cX8_replace 23 = .ok (.iload_n 1, 1) := by decide +kernel
theorem dX8_replace_24 : decode cX8_replace 24 = .ok (.aaload, 1) := by decide +kernel
theorem dX8_replace_25 : decode cX8_replace 25 = .ok (.aload_n 0, 1) := by decide +kernel
theorem dX8_replace_26 : decode cX8_replace 26 = .ok (.getfield 11, 3) := by decide +kernel
theorem dX8_replace_29 : decode cX8_replace 29 = .ok (.iload_n 2, 1) := by decide +kernel
theorem dX8_replace_30 : decode cX8_replace 30 = .ok (.aaload, 1) := by decide +kernel
theorem dX8_replace_31 : decode cX8_replace 31 = .ok (.invokevirtual 184, 3) := by decide +kernel
theorem dX8_replace_34 : decode cX8_replace 34 = .ok (.return_, 1) := by decide +kernel
theorem dX8_rebuild_0 : decode cX8_rebuild 0 = .ok (.iload_n 1, 1) := by decide +kernel
theorem dX8_rebuild_1 : decode cX8_rebuild 1 = .ok (.aload_n 0, 1) := by decide +kernel
theorem dX8_rebuild_2 : decode cX8_rebuild 2 = .ok (.getfield 35, 3) := by decide +kernel
theorem dX8_rebuild_5 : decode cX8_rebuild 5 = .ok (.getfield 164, 3) := by decide +kernel
theorem dX8_rebuild_8 : decode cX8_rebuild 8 = .ok (.invokestatic 75, 3) := by decide +kernel
theorem dX8_rebuild_11 : decode cX8_rebuild 11 = .ok (.aload_n 0, 1) := by decide +kernel
theorem dX8_rebuild_12 : decode cX8_rebuild 12 = .ok (.iload_n 2, 1) := by decide +kernel
theorem dX8_rebuild_13 : decode cX8_rebuild 13 = .ok (.invokevirtual 59, 3) := by decide +kernel
theorem dX8_rebuild_16 : decode cX8_rebuild 16 = .ok (.aload_n 0, 1) := by decide +kernel
theorem dX8_rebuild_17 : decode cX8_rebuild 17 = .ok (.iload_n 1, 1) := by decide +kernel
theorem dX8_rebuild_18 : decode cX8_rebuild 18 = .ok (.invokevirtual 165, 3) := by decide +kernel
theorem dX8_rebuild_21 : decode cX8_rebuild 21 = .ok (.aload_n 0, 1) := by decide +kernel
theorem dX8_rebuild_22 : decode cX8_rebuild 22 = .ok (.getfield 11, 3) := by decide +kernel
theorem dX8_rebuild_25 : decode cX8_rebuild 25 = .ok (.iload_n 2, 1) := by decide +kernel
theorem dX8_rebuild_26 : decode cX8_rebuild 26 = .ok (.aaload, 1) := by decide +kernel
theorem dX8_rebuild_27 : decode cX8_rebuild 27 = .ok (.aload_n 0, 1) := by decide +kernel
theorem dX8_rebuild_28 : decode cX8_rebuild 28 = .ok (.getfield 35, 3) := by decide +kernel
theorem dX8_rebuild_31 : decode cX8_rebuild 31 = .ok (.getfield 187, 3) := by decide +kernel
theorem dX8_rebuild_34 : decode cX8_rebuild 34 = .ok (.invokevirtual 87, 3) := by decide +kernel
theorem dX8_rebuild_37 : decode cX8_rebuild 37 = .ok (.aload_n 0, 1) := by decide +kernel
theorem dX8_rebuild_38 : decode cX8_rebuild 38 = .ok (.getfield 11, 3) := by decide +kernel
theorem dX8_rebuild_41 : decode cX8_rebuild 41 = .ok (.iload_n 2, 1) := by decide +kernel
theorem dX8_rebuild_42 : decode cX8_rebuild 42 = .ok (.aaload, 1) := by decide +kernel
theorem dX8_rebuild_43 : decode cX8_rebuild 43 = .ok (.getfield 67, 3) := by decide +kernel
theorem dX8_rebuild_46 : decode cX8_rebuild 46 = .ok (.ireturn, 1) := by decide +kernel
theorem dX8_versions_0 : decode cX8_versions 0 = .ok (.aload_n 0, 1) := by decide +kernel
theorem dX8_versions_1 : decode cX8_versions 1 = .ok (.getfield 35, 3) := by decide +kernel
theorem dX8_versions_4 : decode cX8_versions 4 = .ok (.getfield 164, 3) := by decide +kernel
theorem dX8_versions_7 : decode cX8_versions 7 = .ok (.ireturn, 1) := by decide +kernel
theorem dX8_brokenAt_0 : decode cX8_brokenAt 0 = .ok (.iload_n 1, 1) := by decide +kernel
theorem dX8_brokenAt_1 : decode cX8_brokenAt 1 = .ok (.aload_n 0, 1) := by decide +kernel
theorem dX8_brokenAt_2 : decode cX8_brokenAt 2 = .ok (.getfield 35, 3) := by decide +kernel
theorem dX8_brokenAt_5 : decode cX8_brokenAt 5 = .ok (.getfield 164, 3) := by decide +kernel
theorem dX8_brokenAt_8 : decode cX8_brokenAt 8 = .ok (.invokestatic 75, 3) := by decide +kernel
theorem dX8_brokenAt_11 : decode cX8_brokenAt 11 = .ok (.aload_n 0, 1) := by decide +kernel
theorem dX8_brokenAt_12 : decode cX8_brokenAt 12 = .ok (.getfield 35, 3) := by decide +kernel
theorem dX8_brokenAt_15 : decode cX8_brokenAt 15 = .ok (.iload_n 1, 1) := by decide +kernel
theorem dX8_brokenAt_16 : decode cX8_brokenAt 16 = .ok (.invokevirtual 190, 3) := by decide +kernel
theorem dX8_brokenAt_19 : decode cX8_brokenAt 19 = .ok (.aload_n 0, 1) := by decide +kernel
theorem dX8_brokenAt_20 : decode cX8_brokenAt 20 = .ok (.getfield 35, 3) := by decide +kernel
theorem dX8_brokenAt_23 : decode cX8_brokenAt 23 = .ok (.getfield 193, 3) := by decide +kernel
theorem dX8_brokenAt_26 : decode cX8_brokenAt 26 = .ok (.ireturn, 1) := by decide +kernel
theorem dX8_brokenAfter_0 : decode cX8_brokenAfter 0 = .ok (.iload_n 1, 1) := by decide +kernel
theorem dX8_brokenAfter_1 : decode cX8_brokenAfter 1 = .ok (.aload_n 0, 1) := by decide +kernel
theorem dX8_brokenAfter_2 : decode cX8_brokenAfter 2 = .ok (.getfield 35, 3) := by decide +kernel
theorem dX8_brokenAfter_5 : decode cX8_brokenAfter 5 = .ok (.getfield 164, 3) := by decide +kernel
theorem dX8_brokenAfter_8 : decode cX8_brokenAfter 8 = .ok (.invokestatic 75, 3) := by decide +kernel
theorem dX8_brokenAfter_11 : decode cX8_brokenAfter 11 = .ok (.aload_n 0, 1) := by decide +kernel
theorem dX8_brokenAfter_12 : decode cX8_brokenAfter 12 = .ok (.getfield 35, 3) := by decide +kernel
theorem dX8_brokenAfter_15 : decode cX8_brokenAfter 15 = .ok (.iload_n 1, 1) := by decide +kernel
theorem dX8_brokenAfter_16 : decode cX8_brokenAfter 16 = .ok (.invokevirtual 190, 3) := by decide +kernel
theorem dX8_brokenAfter_19 : decode cX8_brokenAfter 19 = .ok (.aload_n 0, 1) := by decide +kernel
theorem dX8_brokenAfter_20 : decode cX8_brokenAfter 20 = .ok (.getfield 35, 3) := by decide +kernel
theorem dX8_brokenAfter_23 : decode cX8_brokenAfter 23 = .ok (.getfield 196, 3) := by decide +kernel
theorem dX8_brokenAfter_26 : decode cX8_brokenAfter 26 = .ok (.ireturn, 1) := by decide +kernel
theorem dX8_reason_0 : decode cX8_reason 0 = .ok (.iload_n 1, 1) := by decide +kernel
theorem dX8_reason_1 : decode cX8_reason 1 = .ok (.aload_n 0, 1) := by decide +kernel
theorem dX8_reason_2 : decode cX8_reason 2 = .ok (.getfield 35, 3) := by decide +kernel
theorem dX8_reason_5 : decode cX8_reason 5 = .ok (.getfield 164, 3) := by decide +kernel
theorem dX8_reason_8 : decode cX8_reason 8 = .ok (.invokestatic 75, 3) := by decide +kernel
theorem dX8_reason_11 : decode cX8_reason 11 = .ok (.aload_n 0, 1) := by decide +kernel
theorem dX8_reason_12 : decode cX8_reason 12 = .ok (.getfield 35, 3) := by decide +kernel
theorem dX8_reason_15 : decode cX8_reason 15 = .ok (.iload_n 1, 1) := by decide +kernel
theorem dX8_reason_16 : decode cX8_reason 16 = .ok (.invokevirtual 190, 3) := by decide +kernel
theorem dX8_reason_19 : decode cX8_reason 19 = .ok (.aload_n 0, 1) := by decide +kernel
theorem dX8_reason_20 : decode cX8_reason 20 = .ok (.getfield 35, 3) := by decide +kernel
theorem dX8_reason_23 : decode cX8_reason 23 = .ok (.getfield 199, 3) := by decide +kernel
theorem dX8_reason_26 : decode cX8_reason 26 = .ok (.ireturn, 1) := by decide +kernel
theorem dX8_heldBy_0 : decode cX8_heldBy 0 = .ok (.iload_n 1, 1) := by decide +kernel
theorem dX8_heldBy_1 : decode cX8_heldBy 1 = .ok (.aload_n 0, 1) := by decide +kernel
theorem dX8_heldBy_2 : decode cX8_heldBy 2 = .ok (.getfield 35, 3) := by decide +kernel
theorem dX8_heldBy_5 : decode cX8_heldBy 5 = .ok (.getfield 164, 3) := by decide +kernel
theorem dX8_heldBy_8 : decode cX8_heldBy 8 = .ok (.invokestatic 75, 3) := by decide +kernel
theorem dX8_heldBy_11 : decode cX8_heldBy 11 = .ok (.aload_n 0, 1) := by decide +kernel
theorem dX8_heldBy_12 : decode cX8_heldBy 12 = .ok (.getfield 35, 3) := by decide +kernel
theorem dX8_heldBy_15 : decode cX8_heldBy 15 = .ok (.getfield 172, 3) := by decide +kernel
theorem dX8_heldBy_18 : decode cX8_heldBy 18 = .ok (.iload_n 1, 1) := by decide +kernel
theorem dX8_heldBy_19 : decode cX8_heldBy 19 = .ok (.aaload, 1) := by decide +kernel
theorem dX8_heldBy_20 : decode cX8_heldBy 20 = .ok (.invokevirtual 176, 3) := by decide +kernel
theorem dX8_heldBy_23 : decode cX8_heldBy 23 = .ok (.ireturn, 1) := by decide +kernel
theorem dX8_cuts_0 : decode cX8_cuts 0 = .ok (.iload_n 1, 1) := by decide +kernel
theorem dX8_cuts_1 : decode cX8_cuts 1 = .ok (.iconst 1, 1) := by decide +kernel
theorem dX8_cuts_2 : decode cX8_cuts 2 = .ok (.bipush 16, 2) := by decide +kernel
theorem dX8_cuts_4 : decode cX8_cuts 4 = .ok (.invokestatic 63, 3) := by decide +kernel
theorem dX8_cuts_7 : decode cX8_cuts 7 = .ok (.iload_n 2, 1) := by decide +kernel
theorem dX8_cuts_8 : decode cX8_cuts 8 = .ok (.iload_n 1, 1) := by decide +kernel
theorem dX8_cuts_9 : decode cX8_cuts 9 = .ok (.bipush 40, 2) := by decide +kernel
theorem dX8_cuts_11 : decode cX8_cuts 11 = .ok (.invokestatic 63, 3) := by decide +kernel
theorem dX8_cuts_14 : decode cX8_cuts 14 = .ok (.iload_n 3, 1) := by decide +kernel
theorem dX8_cuts_15 : decode cX8_cuts 15 = .ok (.iconst 1, 1) := by decide +kernel
theorem dX8_cuts_16 : decode cX8_cuts 16 = .ok (.bipush 64, 2) := by decide +kernel
theorem dX8_cuts_18 : decode cX8_cuts 18 = .ok (.invokestatic 63, 3) := by decide +kernel
theorem dX8_cuts_21 : decode cX8_cuts 21 = .ok (.aload_n 0, 1) := by decide +kernel
theorem dX8_cuts_22 : decode cX8_cuts 22 = .ok (.getfield 42, 3) := by decide +kernel
theorem dX8_cuts_25 : decode cX8_cuts 25 = .ok (.iload_n 1, 1) := by decide +kernel
theorem dX8_cuts_26 : decode cX8_cuts 26 = .ok (.putfield 202, 3) := by decide +kernel
theorem dX8_cuts_29 : decode cX8_cuts 29 = .ok (.aload_n 0, 1) := by decide +kernel
theorem dX8_cuts_30 : decode cX8_cuts 30 = .ok (.getfield 42, 3) := by decide +kernel
theorem dX8_cuts_33 : decode cX8_cuts 33 = .ok (.iload_n 2, 1) := by decide +kernel
theorem dX8_cuts_34 : decode cX8_cuts 34 = .ok (.putfield 205, 3) := by decide +kernel
theorem dX8_cuts_37 : decode cX8_cuts 37 = .ok (.aload_n 0, 1) := by decide +kernel
theorem dX8_cuts_38 : decode cX8_cuts 38 = .ok (.getfield 42, 3) := by decide +kernel
theorem dX8_cuts_41 : decode cX8_cuts 41 = .ok (.iload_n 3, 1) := by decide +kernel
theorem dX8_cuts_42 : decode cX8_cuts 42 = .ok (.putfield 208, 3) := by decide +kernel
theorem dX8_cuts_45 : decode cX8_cuts 45 = .ok (.return_, 1) := by decide +kernel
theorem dX8_store_0 : decode cX8_store 0 = .ok (.aload_n 0, 1) := by decide +kernel
theorem dX8_store_1 : decode cX8_store 1 = .ok (.iload_n 1, 1) := by decide +kernel
theorem dX8_store_2 : decode cX8_store 2 = .ok (.invokevirtual 59, 3) := by decide +kernel
theorem dX8_store_5 : decode cX8_store 5 = .ok (.aload_n 0, 1) := by decide +kernel
theorem dX8_store_6 : decode cX8_store 6 = .ok (.getfield 42, 3) := by decide +kernel
theorem dX8_store_9 : decode cX8_store 9 = .ok (.invokevirtual 211, 3) := by decide +kernel
theorem dX8_store_12 : decode cX8_store 12 = .ok (.istore_n 2, 1) := by decide +kernel
theorem dX8_store_13 : decode cX8_store 13 = .ok (.iload_n 2, 1) := by decide +kernel
theorem dX8_store_14 : decode cX8_store 14 = .ok (.iconst (-1), 1) := by decide +kernel
theorem dX8_store_15 : decode cX8_store 15 = .ok (.if_icmp .ne 13, 3) := by decide +kernel
theorem dX8_store_18 : decode cX8_store 18 = .ok (.new 52, 3) := by decide +kernel
theorem dX8_store_21 : decode cX8_store 21 = .ok (.dup, 1) := by decide +kernel
theorem dX8_store_22 : decode cX8_store 22 = .ok (.ldc 214, 2) := by decide +kernel
theorem dX8_store_24 : decode cX8_store 24 = .ok (.invokespecial 56, 3) := by decide +kernel
theorem dX8_store_27 : decode cX8_store 27 = .ok (.athrow, 1) := by decide +kernel
theorem dX8_store_28 : decode cX8_store 28 = .ok (.aload_n 0, 1) := by decide +kernel
theorem dX8_store_29 : decode cX8_store 29 = .ok (.getfield 42, 3) := by decide +kernel
theorem dX8_store_32 : decode cX8_store 32 = .ok (.iload_n 2, 1) := by decide +kernel
theorem dX8_store_33 : decode cX8_store 33 = .ok (.aload_n 0, 1) := by decide +kernel
theorem dX8_store_34 : decode cX8_store 34 = .ok (.getfield 11, 3) := by decide +kernel
theorem dX8_store_37 : decode cX8_store 37 = .ok (.iload_n 1, 1) := by decide +kernel
theorem dX8_store_38 : decode cX8_store 38 = .ok (.aaload, 1) := by decide +kernel
theorem dX8_store_39 : decode cX8_store 39 = .ok (.invokevirtual 216, 3) := by decide +kernel
theorem dX8_store_42 : decode cX8_store 42 = .ok (.iload_n 2, 1) := by decide +kernel
theorem dX8_store_43 : decode cX8_store 43 = .ok (.ireturn, 1) := by decide +kernel
theorem dX8_release_0 : decode cX8_release 0 = .ok (.aload_n 0, 1) := by decide +kernel
theorem dX8_release_1 : decode cX8_release 1 = .ok (.iload_n 1, 1) := by decide +kernel
theorem dX8_release_2 : decode cX8_release 2 = .ok (.invokevirtual 220, 3) := by decide +kernel
theorem dX8_release_5 : decode cX8_release 5 = .ok (.aload_n 0, 1) := by decide +kernel
theorem dX8_release_6 : decode cX8_release 6 = .ok (.getfield 42, 3) := by decide +kernel
theorem dX8_release_9 : decode cX8_release 9 = .ok (.iload_n 1, 1) := by decide +kernel
theorem dX8_release_10 : decode cX8_release 10 = .ok (.invokevirtual 223, 3) := by decide +kernel
theorem dX8_release_13 : decode cX8_release 13 = .ok (.ireturn, 1) := by decide +kernel
theorem dX8_fetch_0 : decode cX8_fetch 0 = .ok (.aload_n 0, 1) := by decide +kernel
theorem dX8_fetch_1 : decode cX8_fetch 1 = .ok (.iload_n 1, 1) := by decide +kernel
theorem dX8_fetch_2 : decode cX8_fetch 2 = .ok (.invokevirtual 220, 3) := by decide +kernel
theorem dX8_fetch_5 : decode cX8_fetch 5 = .ok (.aload_n 0, 1) := by decide +kernel
theorem dX8_fetch_6 : decode cX8_fetch 6 = .ok (.iload_n 2, 1) := by decide +kernel
theorem dX8_fetch_7 : decode cX8_fetch 7 = .ok (.invokevirtual 59, 3) := by decide +kernel
theorem dX8_fetch_10 : decode cX8_fetch 10 = .ok (.aload_n 0, 1) := by decide +kernel
theorem dX8_fetch_11 : decode cX8_fetch 11 = .ok (.getfield 42, 3) := by decide +kernel
theorem dX8_fetch_14 : decode cX8_fetch 14 = .ok (.getfield 226, 3) := by decide +kernel
theorem dX8_fetch_17 : decode cX8_fetch 17 = .ok (.iload_n 1, 1) := by decide +kernel
theorem dX8_fetch_18 : decode cX8_fetch 18 = .ok (.aaload, 1) := by decide +kernel
theorem dX8_fetch_19 : decode cX8_fetch 19 = .ok (.aload_n 0, 1) := by decide +kernel
theorem dX8_fetch_20 : decode cX8_fetch 20 = .ok (.getfield 11, 3) := by decide +kernel
theorem dX8_fetch_23 : decode cX8_fetch 23 = .ok (.iload_n 2, 1) := by decide +kernel
theorem dX8_fetch_24 : decode cX8_fetch 24 = .ok (.aaload, 1) := by decide +kernel
theorem dX8_fetch_25 : decode cX8_fetch 25 = .ok (.invokevirtual 230, 3) := by decide +kernel
theorem dX8_fetch_28 : decode cX8_fetch 28 = .ok (.aload_n 0, 1) := by decide +kernel
theorem dX8_fetch_29 : decode cX8_fetch 29 = .ok (.getfield 11, 3) := by decide +kernel
theorem dX8_fetch_32 : decode cX8_fetch 32 = .ok (.iload_n 2, 1) := by decide +kernel
theorem dX8_fetch_33 : decode cX8_fetch 33 = .ok (.aaload, 1) := by decide +kernel
theorem dX8_fetch_34 : decode cX8_fetch 34 = .ok (.getfield 67, 3) := by decide +kernel
theorem dX8_fetch_37 : decode cX8_fetch 37 = .ok (.ireturn, 1) := by decide +kernel
theorem dX8_papers_0 : decode cX8_papers 0 = .ok (.aload_n 0, 1) := by decide +kernel
theorem dX8_papers_1 : decode cX8_papers 1 = .ok (.getfield 42, 3) := by decide +kernel
theorem dX8_papers_4 : decode cX8_papers 4 = .ok (.invokevirtual 235, 3) := by decide +kernel
theorem dX8_papers_7 : decode cX8_papers 7 = .ok (.ireturn, 1) := by decide +kernel
theorem dX8_chunks_0 : decode cX8_chunks 0 = .ok (.aload_n 0, 1) := by decide +kernel
theorem dX8_chunks_1 : decode cX8_chunks 1 = .ok (.getfield 42, 3) := by decide +kernel
theorem dX8_chunks_4 : decode cX8_chunks 4 = .ok (.invokevirtual 238, 3) := by decide +kernel
theorem dX8_chunks_7 : decode cX8_chunks 7 = .ok (.ireturn, 1) := by decide +kernel
theorem dX8_heldBytes_0 : decode cX8_heldBytes 0 = .ok (.aload_n 0, 1) := by decide +kernel
theorem dX8_heldBytes_1 : decode cX8_heldBytes 1 = .ok (.getfield 42, 3) := by decide +kernel
theorem dX8_heldBytes_4 : decode cX8_heldBytes 4 = .ok (.invokevirtual 241, 3) := by decide +kernel
theorem dX8_heldBytes_7 : decode cX8_heldBytes 7 = .ok (.ireturn, 1) := by decide +kernel
theorem dX8_parts_0 : decode cX8_parts 0 = .ok (.aload_n 0, 1) := by decide +kernel
theorem dX8_parts_1 : decode cX8_parts 1 = .ok (.iload_n 1, 1) := by decide +kernel
theorem dX8_parts_2 : decode cX8_parts 2 = .ok (.invokevirtual 220, 3) := by decide +kernel
theorem dX8_parts_5 : decode cX8_parts 5 = .ok (.aload_n 0, 1) := by decide +kernel
theorem dX8_parts_6 : decode cX8_parts 6 = .ok (.getfield 42, 3) := by decide +kernel
theorem dX8_parts_9 : decode cX8_parts 9 = .ok (.getfield 226, 3) := by decide +kernel
theorem dX8_parts_12 : decode cX8_parts 12 = .ok (.iload_n 1, 1) := by decide +kernel
theorem dX8_parts_13 : decode cX8_parts 13 = .ok (.aaload, 1) := by decide +kernel
theorem dX8_parts_14 : decode cX8_parts 14 = .ok (.getfield 244, 3) := by decide +kernel
theorem dX8_parts_17 : decode cX8_parts 17 = .ok (.invokevirtual 248, 3) := by decide +kernel
theorem dX8_parts_20 : decode cX8_parts 20 = .ok (.ireturn, 1) := by decide +kernel
theorem dX8_partLength_0 : decode cX8_partLength 0 = .ok (.aload_n 0, 1) := by decide +kernel
theorem dX8_partLength_1 : decode cX8_partLength 1 = .ok (.iload_n 1, 1) := by decide +kernel
theorem dX8_partLength_2 : decode cX8_partLength 2 = .ok (.invokevirtual 220, 3) := by decide +kernel
theorem dX8_partLength_5 : decode cX8_partLength 5 = .ok (.iload_n 2, 1) := by decide +kernel
theorem dX8_partLength_6 : decode cX8_partLength 6 = .ok (.aload_n 0, 1) := by decide +kernel
theorem dX8_partLength_7 : decode cX8_partLength 7 = .ok (.getfield 42, 3) := by decide +kernel
theorem dX8_partLength_10 : decode cX8_partLength 10 = .ok (.getfield 226, 3) := by decide +kernel
theorem dX8_partLength_13 : decode cX8_partLength 13 = .ok (.iload_n 1, 1) := by decide +kernel
theorem dX8_partLength_14 : decode cX8_partLength 14 = .ok (.aaload, 1) := by decide +kernel
theorem dX8_partLength_15 : decode cX8_partLength 15 = .ok (.getfield 244, 3) := by decide +kernel
theorem dX8_partLength_18 : decode cX8_partLength 18 = .ok (.invokevirtual 248, 3) := by decide +kernel
theorem dX8_partLength_21 : decode cX8_partLength 21 = .ok (.invokestatic 75, 3) := by decide +kernel
theorem dX8_partLength_24 : decode cX8_partLength 24 = .ok (.aload_n 0, 1) := by decide +kernel
theorem dX8_partLength_25 : decode cX8_partLength 25 = .ok (.getfield 42, 3) := by decide +kernel
theorem dX8_partLength_28 : decode cX8_partLength 28 = .ok (.getfield 226, 3) := by decide +kernel
theorem dX8_partLength_31 : decode cX8_partLength 31 = .ok (.iload_n 1, 1) := by decide +kernel
theorem dX8_partLength_32 : decode cX8_partLength 32 = .ok (.aaload, 1) := by decide +kernel
theorem dX8_partLength_33 : decode cX8_partLength 33 = .ok (.getfield 244, 3) := by decide +kernel
theorem dX8_partLength_36 : decode cX8_partLength 36 = .ok (.iload_n 2, 1) := by decide +kernel
theorem dX8_partLength_37 : decode cX8_partLength 37 = .ok (.invokevirtual 252, 3) := by decide +kernel
theorem dX8_partLength_40 : decode cX8_partLength 40 = .ok (.checkcast 256, 3) := by decide +kernel
theorem dX8_partLength_43 : decode cX8_partLength 43 = .ok (.getfield 258, 3) := by decide +kernel
theorem dX8_partLength_46 : decode cX8_partLength 46 = .ok (.ireturn, 1) := by decide +kernel
theorem dX8_shared_0 : decode cX8_shared 0 = .ok (.aload_n 0, 1) := by decide +kernel
theorem dX8_shared_1 : decode cX8_shared 1 = .ok (.iload_n 1, 1) := by decide +kernel
theorem dX8_shared_2 : decode cX8_shared 2 = .ok (.invokevirtual 220, 3) := by decide +kernel
theorem dX8_shared_5 : decode cX8_shared 5 = .ok (.iload_n 2, 1) := by decide +kernel
theorem dX8_shared_6 : decode cX8_shared 6 = .ok (.aload_n 0, 1) := by decide +kernel
theorem dX8_shared_7 : decode cX8_shared 7 = .ok (.getfield 42, 3) := by decide +kernel
theorem dX8_shared_10 : decode cX8_shared 10 = .ok (.getfield 226, 3) := by decide +kernel
theorem dX8_shared_13 : decode cX8_shared 13 = .ok (.iload_n 1, 1) := by decide +kernel
theorem dX8_shared_14 : decode cX8_shared 14 = .ok (.aaload, 1) := by decide +kernel
theorem dX8_shared_15 : decode cX8_shared 15 = .ok (.getfield 244, 3) := by decide +kernel
theorem dX8_shared_18 : decode cX8_shared 18 = .ok (.invokevirtual 248, 3) := by decide +kernel
theorem dX8_shared_21 : decode cX8_shared 21 = .ok (.invokestatic 75, 3) := by decide +kernel
theorem dX8_shared_24 : decode cX8_shared 24 = .ok (.aload_n 0, 1) := by decide +kernel
theorem dX8_shared_25 : decode cX8_shared 25 = .ok (.getfield 42, 3) := by decide +kernel
theorem dX8_shared_28 : decode cX8_shared 28 = .ok (.getfield 226, 3) := by decide +kernel
theorem dX8_shared_31 : decode cX8_shared 31 = .ok (.iload_n 1, 1) := by decide +kernel
theorem dX8_shared_32 : decode cX8_shared 32 = .ok (.aaload, 1) := by decide +kernel
theorem dX8_shared_33 : decode cX8_shared 33 = .ok (.getfield 244, 3) := by decide +kernel
theorem dX8_shared_36 : decode cX8_shared 36 = .ok (.iload_n 2, 1) := by decide +kernel
theorem dX8_shared_37 : decode cX8_shared 37 = .ok (.invokevirtual 252, 3) := by decide +kernel
theorem dX8_shared_40 : decode cX8_shared 40 = .ok (.checkcast 256, 3) := by decide +kernel
theorem dX8_shared_43 : decode cX8_shared 43 = .ok (.getfield 259, 3) := by decide +kernel
theorem dX8_shared_46 : decode cX8_shared 46 = .ok (.ireturn, 1) := by decide +kernel
theorem dX8_checkIndex_0 : decode cX8_checkIndex 0 = .ok (.iload_n 0, 1) := by decide +kernel
theorem dX8_checkIndex_1 : decode cX8_checkIndex 1 = .ok (.ifCond .lt 8, 3) := by decide +kernel
theorem dX8_checkIndex_4 : decode cX8_checkIndex 4 = .ok (.iload_n 0, 1) := by decide +kernel
theorem dX8_checkIndex_5 : decode cX8_checkIndex 5 = .ok (.iload_n 1, 1) := by decide +kernel
theorem dX8_checkIndex_6 : decode cX8_checkIndex 6 = .ok (.if_icmp .lt 14, 3) := by decide +kernel
theorem dX8_checkIndex_9 : decode cX8_checkIndex 9 = .ok (.new 262, 3) := by decide +kernel
theorem dX8_checkIndex_12 : decode cX8_checkIndex 12 = .ok (.dup, 1) := by decide +kernel
theorem dX8_checkIndex_13 : decode cX8_checkIndex 13 = .ok (.ldc_w 264, 3) := by decide +kernel
theorem dX8_checkIndex_16 : decode cX8_checkIndex 16 = .ok (.invokespecial 266, 3) := by decide +kernel
theorem dX8_checkIndex_19 : decode cX8_checkIndex 19 = .ok (.athrow, 1) := by decide +kernel
theorem dX8_checkIndex_20 : decode cX8_checkIndex 20 = .ok (.return_, 1) := by decide +kernel
theorem dX8_checkRange_0 : decode cX8_checkRange 0 = .ok (.iload_n 0, 1) := by decide +kernel
theorem dX8_checkRange_1 : decode cX8_checkRange 1 = .ok (.iload_n 1, 1) := by decide +kernel
theorem dX8_checkRange_2 : decode cX8_checkRange 2 = .ok (.if_icmp .lt 8, 3) := by decide +kernel
theorem dX8_checkRange_5 : decode cX8_checkRange 5 = .ok (.iload_n 0, 1) := by decide +kernel
theorem dX8_checkRange_6 : decode cX8_checkRange 6 = .ok (.iload_n 2, 1) := by decide +kernel
theorem dX8_checkRange_7 : decode cX8_checkRange 7 = .ok (.if_icmp .le 14, 3) := by decide +kernel
theorem dX8_checkRange_10 : decode cX8_checkRange 10 = .ok (.new 267, 3) := by decide +kernel
theorem dX8_checkRange_13 : decode cX8_checkRange 13 = .ok (.dup, 1) := by decide +kernel
theorem dX8_checkRange_14 : decode cX8_checkRange 14 = .ok (.ldc_w 269, 3) := by decide +kernel
theorem dX8_checkRange_17 : decode cX8_checkRange 17 = .ok (.invokespecial 271, 3) := by decide +kernel
theorem dX8_checkRange_20 : decode cX8_checkRange 20 = .ok (.athrow, 1) := by decide +kernel
theorem dX8_checkRange_21 : decode cX8_checkRange 21 = .ok (.return_, 1) := by decide +kernel
theorem dX8_checkFile_0 : decode cX8_checkFile 0 = .ok (.iload_n 1, 1) := by decide +kernel
theorem dX8_checkFile_1 : decode cX8_checkFile 1 = .ok (.aload_n 0, 1) := by decide +kernel
theorem dX8_checkFile_2 : decode cX8_checkFile 2 = .ok (.getfield 48, 3) := by decide +kernel
theorem dX8_checkFile_5 : decode cX8_checkFile 5 = .ok (.invokestatic 75, 3) := by decide +kernel
theorem dX8_checkFile_8 : decode cX8_checkFile 8 = .ok (.return_, 1) := by decide +kernel
theorem dX8_checkBlock_0 : decode cX8_checkBlock 0 = .ok (.iload_n 1, 1) := by decide +kernel
theorem dX8_checkBlock_1 : decode cX8_checkBlock 1 = .ok (.iconst 4, 1) := by decide +kernel
theorem dX8_checkBlock_2 : decode cX8_checkBlock 2 = .ok (.invokestatic 75, 3) := by decide +kernel
theorem dX8_checkBlock_5 : decode cX8_checkBlock 5 = .ok (.iload_n 2, 1) := by decide +kernel
theorem dX8_checkBlock_6 : decode cX8_checkBlock 6 = .ok (.aload_n 0, 1) := by decide +kernel
theorem dX8_checkBlock_7 : decode cX8_checkBlock 7 = .ok (.getfield 17, 3) := by decide +kernel
theorem dX8_checkBlock_10 : decode cX8_checkBlock 10 = .ok (.iload_n 1, 1) := by decide +kernel
theorem dX8_checkBlock_11 : decode cX8_checkBlock 11 = .ok (.aaload, 1) := by decide +kernel
theorem dX8_checkBlock_12 : decode cX8_checkBlock 12 = .ok (.getfield 103, 3) := by decide +kernel
theorem dX8_checkBlock_15 : decode cX8_checkBlock 15 = .ok (.invokestatic 75, 3) := by decide +kernel
theorem dX8_checkBlock_18 : decode cX8_checkBlock 18 = .ok (.return_, 1) := by decide +kernel
theorem dX8_checkInstruction_0 : decode cX8_checkInstruction 0 = .ok (.iload_n 1, 1) := by decide +kernel
theorem dX8_checkInstruction_1 : decode cX8_checkInstruction 1 = .ok (.iconst 4, 1) := by decide +kernel
theorem dX8_checkInstruction_2 : decode cX8_checkInstruction 2 = .ok (.invokestatic 75, 3) := by decide +kernel
theorem dX8_checkInstruction_5 : decode cX8_checkInstruction 5 = .ok (.iload_n 2, 1) := by decide +kernel
theorem dX8_checkInstruction_6 : decode cX8_checkInstruction 6 = .ok (.aload_n 0, 1) := by decide +kernel
theorem dX8_checkInstruction_7 : decode cX8_checkInstruction 7 = .ok (.getfield 23, 3) := by decide +kernel
theorem dX8_checkInstruction_10 : decode cX8_checkInstruction 10 = .ok (.iload_n 1, 1) := by decide +kernel
theorem dX8_checkInstruction_11 : decode cX8_checkInstruction 11 = .ok (.aaload, 1) := by decide +kernel
theorem dX8_checkInstruction_12 : decode cX8_checkInstruction 12 = .ok (.getfield 126, 3) := by decide +kernel
theorem dX8_checkInstruction_15 : decode cX8_checkInstruction 15 = .ok (.invokestatic 75, 3) := by decide +kernel
theorem dX8_checkInstruction_18 : decode cX8_checkInstruction 18 = .ok (.return_, 1) := by decide +kernel
theorem dX8_checkPaper_0 : decode cX8_checkPaper 0 = .ok (.iload_n 1, 1) := by decide +kernel
theorem dX8_checkPaper_1 : decode cX8_checkPaper 1 = .ok (.bipush 12, 2) := by decide +kernel
theorem dX8_checkPaper_3 : decode cX8_checkPaper 3 = .ok (.invokestatic 75, 3) := by decide +kernel
theorem dX8_checkPaper_6 : decode cX8_checkPaper 6 = .ok (.aload_n 0, 1) := by decide +kernel
theorem dX8_checkPaper_7 : decode cX8_checkPaper 7 = .ok (.getfield 42, 3) := by decide +kernel
theorem dX8_checkPaper_10 : decode cX8_checkPaper 10 = .ok (.getfield 226, 3) := by decide +kernel
theorem dX8_checkPaper_13 : decode cX8_checkPaper 13 = .ok (.iload_n 1, 1) := by decide +kernel
theorem dX8_checkPaper_14 : decode cX8_checkPaper 14 = .ok (.aaload, 1) := by decide +kernel
theorem dX8_checkPaper_15 : decode cX8_checkPaper 15 = .ok (.getfield 272, 3) := by decide +kernel
theorem dX8_checkPaper_18 : decode cX8_checkPaper 18 = .ok (.ifCond .ne 14, 3) := by decide +kernel
theorem dX8_checkPaper_21 : decode cX8_checkPaper 21 = .ok (.new 262, 3) := by decide +kernel
theorem dX8_checkPaper_24 : decode cX8_checkPaper 24 = .ok (.dup, 1) := by decide +kernel
theorem dX8_checkPaper_25 : decode cX8_checkPaper 25 = .ok (.ldc_w 275, 3) := by decide +kernel
theorem dX8_checkPaper_28 : decode cX8_checkPaper 28 = .ok (.invokespecial 266, 3) := by decide +kernel
theorem dX8_checkPaper_31 : decode cX8_checkPaper 31 = .ok (.athrow, 1) := by decide +kernel
theorem dX8_checkPaper_32 : decode cX8_checkPaper 32 = .ok (.return_, 1) := by decide +kernel
theorem dX8_checkRoomForVersion_0 : decode cX8_checkRoomForVersion 0 = .ok (.aload_n 0, 1) := by decide +kernel
theorem dX8_checkRoomForVersion_1 : decode cX8_checkRoomForVersion 1 = .ok (.getfield 35, 3) := by decide +kernel
theorem dX8_checkRoomForVersion_4 : decode cX8_checkRoomForVersion 4 = .ok (.getfield 164, 3) := by decide +kernel
theorem dX8_checkRoomForVersion_7 : decode cX8_checkRoomForVersion 7 = .ok (.bipush 20, 2) := by decide +kernel
theorem dX8_checkRoomForVersion_9 : decode cX8_checkRoomForVersion 9 = .ok (.if_icmp .lt 14, 3) := by decide +kernel
theorem dX8_checkRoomForVersion_12 : decode cX8_checkRoomForVersion 12 = .ok (.new 52, 3) := by decide +kernel
theorem dX8_checkRoomForVersion_15 : decode cX8_checkRoomForVersion 15 = .ok (.dup, 1) := by decide +kernel
theorem dX8_checkRoomForVersion_16 : decode cX8_checkRoomForVersion 16 = .ok (.ldc_w 277, 3) := by decide +kernel
theorem dX8_checkRoomForVersion_19 : decode cX8_checkRoomForVersion 19 = .ok (.invokespecial 56, 3) := by decide +kernel
theorem dX8_checkRoomForVersion_22 : decode cX8_checkRoomForVersion 22 = .ok (.athrow, 1) := by decide +kernel
theorem dX8_checkRoomForVersion_23 : decode cX8_checkRoomForVersion 23 = .ok (.return_, 1) := by decide +kernel
theorem dX8_checkNotBroken_0 : decode cX8_checkNotBroken 0 = .ok (.aload_n 0, 1) := by decide +kernel
theorem dX8_checkNotBroken_1 : decode cX8_checkNotBroken 1 = .ok (.getfield 35, 3) := by decide +kernel
theorem dX8_checkNotBroken_4 : decode cX8_checkNotBroken 4 = .ok (.iload_n 1, 1) := by decide +kernel
theorem dX8_checkNotBroken_5 : decode cX8_checkNotBroken 5 = .ok (.invokevirtual 190, 3) := by decide +kernel
theorem dX8_checkNotBroken_8 : decode cX8_checkNotBroken 8 = .ok (.aload_n 0, 1) := by decide +kernel
theorem dX8_checkNotBroken_9 : decode cX8_checkNotBroken 9 = .ok (.getfield 35, 3) := by decide +kernel
theorem dX8_checkNotBroken_12 : decode cX8_checkNotBroken 12 = .ok (.getfield 199, 3) := by decide +kernel
theorem dX8_checkNotBroken_15 : decode cX8_checkNotBroken 15 = .ok (.iconst (-1), 1) := by decide +kernel
theorem dX8_checkNotBroken_16 : decode cX8_checkNotBroken 16 = .ok (.if_icmp .eq 14, 3) := by decide +kernel
theorem dX8_checkNotBroken_19 : decode cX8_checkNotBroken 19 = .ok (.new 52, 3) := by decide +kernel
theorem dX8_checkNotBroken_22 : decode cX8_checkNotBroken 22 = .ok (.dup, 1) := by decide +kernel
theorem dX8_checkNotBroken_23 : decode cX8_checkNotBroken 23 = .ok (.ldc_w 279, 3) := by decide +kernel
theorem dX8_checkNotBroken_26 : decode cX8_checkNotBroken 26 = .ok (.invokespecial 56, 3) := by decide +kernel
theorem dX8_checkNotBroken_29 : decode cX8_checkNotBroken 29 = .ok (.athrow, 1) := by decide +kernel
theorem dX8_checkNotBroken_30 : decode cX8_checkNotBroken 30 = .ok (.return_, 1) := by decide +kernel
theorem dJ9_max_7cf53_0 : decode cJ9_max_7cf53 0 = .ok (.iload_n 0, 1) := by decide +kernel
theorem dJ9_max_7cf53_1 : decode cJ9_max_7cf53 1 = .ok (.iload_n 1, 1) := by decide +kernel
theorem dJ9_max_7cf53_2 : decode cJ9_max_7cf53 2 = .ok (.if_icmp .lt 7, 3) := by decide +kernel
theorem dJ9_max_7cf53_5 : decode cJ9_max_7cf53 5 = .ok (.iload_n 0, 1) := by decide +kernel
theorem dJ9_max_7cf53_6 : decode cJ9_max_7cf53 6 = .ok (.goto 4, 3) := by decide +kernel
theorem dJ9_max_7cf53_9 : decode cJ9_max_7cf53 9 = .ok (.iload_n 1, 1) := by decide +kernel
theorem dJ9_max_7cf53_10 : decode cJ9_max_7cf53 10 = .ok (.ireturn, 1) := by decide +kernel
theorem dJ9_min_7cf53_0 : decode cJ9_min_7cf53 0 = .ok (.iload_n 0, 1) := by decide +kernel
theorem dJ9_min_7cf53_1 : decode cJ9_min_7cf53 1 = .ok (.iload_n 1, 1) := by decide +kernel
theorem dJ9_min_7cf53_2 : decode cJ9_min_7cf53 2 = .ok (.if_icmp .gt 7, 3) := by decide +kernel
theorem dJ9_min_7cf53_5 : decode cJ9_min_7cf53 5 = .ok (.iload_n 0, 1) := by decide +kernel
theorem dJ9_min_7cf53_6 : decode cJ9_min_7cf53 6 = .ok (.goto 4, 3) := by decide +kernel
theorem dJ9_min_7cf53_9 : decode cJ9_min_7cf53 9 = .ok (.iload_n 1, 1) := by decide +kernel
theorem dJ9_min_7cf53_10 : decode cJ9_min_7cf53 10 = .ok (.ireturn, 1) := by decide +kernel
theorem dJxa1e45_init_da8c8_0 : decode cJxa1e45_init_da8c8 0 = .ok (.aload_n 0, 1) := by decide +kernel
theorem dJxa1e45_init_da8c8_1 : decode cJxa1e45_init_da8c8 1 = .ok (.invokespecial 1, 3) := by decide +kernel
theorem dJxa1e45_init_da8c8_4 : decode cJxa1e45_init_da8c8 4 = .ok (.return_, 1) := by decide +kernel
theorem dJxc12de_init_da8c8_0 : decode cJxc12de_init_da8c8 0 = .ok (.aload_n 0, 1) := by decide +kernel
theorem dJxc12de_init_da8c8_1 : decode cJxc12de_init_da8c8 1 = .ok (.invokespecial 1, 3) := by decide +kernel
theorem dJxc12de_init_da8c8_4 : decode cJxc12de_init_da8c8 4 = .ok (.aload_n 0, 1) := by decide +kernel
theorem dJxc12de_init_da8c8_5 : decode cJxc12de_init_da8c8 5 = .ok (.iconst 0, 1) := by decide +kernel
theorem dJxc12de_init_da8c8_6 : decode cJxc12de_init_da8c8 6 = .ok (.putfield 7, 3) := by decide +kernel
theorem dJxc12de_init_da8c8_9 : decode cJxc12de_init_da8c8 9 = .ok (.return_, 1) := by decide +kernel
theorem dJx4a65c_init_da8c8_0 : decode cJx4a65c_init_da8c8 0 = .ok (.aload_n 0, 1) := by decide +kernel
theorem dJx4a65c_init_da8c8_1 : decode cJx4a65c_init_da8c8 1 = .ok (.invokespecial 1, 3) := by decide +kernel
theorem dJx4a65c_init_da8c8_4 : decode cJx4a65c_init_da8c8 4 = .ok (.aload_n 0, 1) := by decide +kernel
theorem dJx4a65c_init_da8c8_5 : decode cJx4a65c_init_da8c8 5 = .ok (.getstatic 39, 3) := by decide +kernel
theorem dJx4a65c_init_da8c8_8 : decode cJx4a65c_init_da8c8 8 = .ok (.putfield 9, 3) := by decide +kernel
theorem dJx4a65c_init_da8c8_11 : decode cJx4a65c_init_da8c8 11 = .ok (.return_, 1) := by decide +kernel
theorem dJx4a65c_grow_92f84_0 : decode cJx4a65c_grow_92f84 0 = .ok (.aload_n 0, 1) := by decide +kernel
theorem dJx4a65c_grow_92f84_1 : decode cJx4a65c_grow_92f84 1 = .ok (.getfield 9, 3) := by decide +kernel
theorem dJx4a65c_grow_92f84_4 : decode cJx4a65c_grow_92f84 4 = .ok (.arraylength, 1) := by decide +kernel
theorem dJx4a65c_grow_92f84_5 : decode cJx4a65c_grow_92f84 5 = .ok (.istore_n 2, 1) := by decide +kernel
theorem dJx4a65c_grow_92f84_6 : decode cJx4a65c_grow_92f84 6 = .ok (.iload_n 2, 1) := by decide +kernel
theorem dJx4a65c_grow_92f84_7 : decode cJx4a65c_grow_92f84 7 = .ok (.ifCond .gt 13, 3) := by decide +kernel
theorem dJx4a65c_grow_92f84_10 : decode cJx4a65c_grow_92f84 10 = .ok (.aload_n 0, 1) := by decide +kernel
theorem dJx4a65c_grow_92f84_11 : decode cJx4a65c_grow_92f84 11 = .ok (.getfield 9, 3) := by decide +kernel
theorem dJx4a65c_grow_92f84_14 : decode cJx4a65c_grow_92f84 14 = .ok (.getstatic 39, 3) := by decide +kernel
theorem dJx4a65c_grow_92f84_17 : decode cJx4a65c_grow_92f84 17 = .ok (.if_acmp .eq 28, 3) := by decide +kernel
theorem dJx4a65c_grow_92f84_20 : decode cJx4a65c_grow_92f84 20 = .ok (.iload_n 2, 1) := by decide +kernel
theorem dJx4a65c_grow_92f84_21 : decode cJx4a65c_grow_92f84 21 = .ok (.iload_n 1, 1) := by decide +kernel
theorem dJx4a65c_grow_92f84_22 : decode cJx4a65c_grow_92f84 22 = .ok (.iload_n 2, 1) := by decide +kernel
theorem dJx4a65c_grow_92f84_23 : decode cJx4a65c_grow_92f84 23 = .ok (.isub, 1) := by decide +kernel
theorem dJx4a65c_grow_92f84_24 : decode cJx4a65c_grow_92f84 24 = .ok (.iload_n 2, 1) := by decide +kernel
theorem dJx4a65c_grow_92f84_25 : decode cJx4a65c_grow_92f84 25 = .ok (.iconst 1, 1) := by decide +kernel
theorem dJx4a65c_grow_92f84_26 : decode cJx4a65c_grow_92f84 26 = .ok (.ishr, 1) := by decide +kernel
theorem dJx4a65c_grow_92f84_27 : decode cJx4a65c_grow_92f84 27 = .ok (.invokestatic 73, 3) := by decide +kernel
theorem dJx4a65c_grow_92f84_30 : decode cJx4a65c_grow_92f84 30 = .ok (.istore_n 3, 1) := by decide +kernel
theorem dJx4a65c_grow_92f84_31 : decode cJx4a65c_grow_92f84 31 = .ok (.aload_n 0, 1) := by decide +kernel
theorem dJx4a65c_grow_92f84_32 : decode cJx4a65c_grow_92f84 32 = .ok (.aload_n 0, 1) := by decide +kernel
theorem dJx4a65c_grow_92f84_33 : decode cJx4a65c_grow_92f84 33 = .ok (.getfield 9, 3) := by decide +kernel
theorem dJx4a65c_grow_92f84_36 : decode cJx4a65c_grow_92f84 36 = .ok (.iload_n 3, 1) := by decide +kernel
theorem dJx4a65c_grow_92f84_37 : decode cJx4a65c_grow_92f84 37 = .ok (.invokestatic 66, 3) := by decide +kernel
theorem dJx4a65c_grow_92f84_40 : decode cJx4a65c_grow_92f84 40 = .ok (.dup_x1, 1) := by decide +kernel
theorem dJx4a65c_grow_92f84_41 : decode cJx4a65c_grow_92f84 41 = .ok (.putfield 9, 3) := by decide +kernel
theorem dJx4a65c_grow_92f84_44 : decode cJx4a65c_grow_92f84 44 = .ok (.areturn, 1) := by decide +kernel
theorem dJx4a65c_grow_92f84_45 : decode cJx4a65c_grow_92f84 45 = .ok (.aload_n 0, 1) := by decide +kernel
theorem dJx4a65c_grow_92f84_46 : decode cJx4a65c_grow_92f84 46 = .ok (.bipush 10, 2) := by decide +kernel
theorem dJx4a65c_grow_92f84_48 : decode cJx4a65c_grow_92f84 48 = .ok (.iload_n 1, 1) := by decide +kernel
theorem dJx4a65c_grow_92f84_49 : decode cJx4a65c_grow_92f84 49 = .ok (.invokestatic 79, 3) := by decide +kernel
theorem dJx4a65c_grow_92f84_52 : decode cJx4a65c_grow_92f84 52 = .ok (.anewarray 7, 3) := by decide +kernel
theorem dJx4a65c_grow_92f84_55 : decode cJx4a65c_grow_92f84 55 = .ok (.dup_x1, 1) := by decide +kernel
theorem dJx4a65c_grow_92f84_56 : decode cJx4a65c_grow_92f84 56 = .ok (.putfield 9, 3) := by decide +kernel
theorem dJx4a65c_grow_92f84_59 : decode cJx4a65c_grow_92f84 59 = .ok (.areturn, 1) := by decide +kernel
theorem dJx4a65c_grow_d5877_0 : decode cJx4a65c_grow_d5877 0 = .ok (.aload_n 0, 1) := by decide +kernel
theorem dJx4a65c_grow_d5877_1 : decode cJx4a65c_grow_d5877 1 = .ok (.aload_n 0, 1) := by decide +kernel
theorem dJx4a65c_grow_d5877_2 : decode cJx4a65c_grow_d5877 2 = .ok (.getfield 48, 3) := by decide +kernel
theorem dJx4a65c_grow_d5877_5 : decode cJx4a65c_grow_d5877 5 = .ok (.iconst 1, 1) := by decide +kernel
theorem dJx4a65c_grow_d5877_6 : decode cJx4a65c_grow_d5877 6 = .ok (.iadd, 1) := by decide +kernel
theorem dJx4a65c_grow_d5877_7 : decode cJx4a65c_grow_d5877 7 = .ok (.invokevirtual 69, 3) := by decide +kernel
theorem dJx4a65c_grow_d5877_10 : decode cJx4a65c_grow_d5877 10 = .ok (.areturn, 1) := by decide +kernel
theorem dJx4a65c_size_8abf5_0 : decode cJx4a65c_size_8abf5 0 = .ok (.aload_n 0, 1) := by decide +kernel
theorem dJx4a65c_size_8abf5_1 : decode cJx4a65c_size_8abf5 1 = .ok (.getfield 48, 3) := by decide +kernel
theorem dJx4a65c_size_8abf5_4 : decode cJx4a65c_size_8abf5 4 = .ok (.ireturn, 1) := by decide +kernel
theorem dJx4a65c_elementData_915e3_0 : decode cJx4a65c_elementData_915e3 0 = .ok (.aload_n 0, 1) := by decide +kernel
theorem dJx4a65c_elementData_915e3_1 : decode cJx4a65c_elementData_915e3 1 = .ok (.getfield 9, 3) := by decide +kernel
theorem dJx4a65c_elementData_915e3_4 : decode cJx4a65c_elementData_915e3 4 = .ok (.iload_n 1, 1) := by decide +kernel
theorem dJx4a65c_elementData_915e3_5 : decode cJx4a65c_elementData_915e3 5 = .ok (.aaload, 1) := by decide +kernel
theorem dJx4a65c_elementData_915e3_6 : decode cJx4a65c_elementData_915e3 6 = .ok (.areturn, 1) := by decide +kernel
theorem dJx4a65c_get_915e3_0 : decode cJx4a65c_get_915e3 0 = .ok (.iload_n 1, 1) := by decide +kernel
theorem dJx4a65c_get_915e3_1 : decode cJx4a65c_get_915e3 1 = .ok (.aload_n 0, 1) := by decide +kernel
theorem dJx4a65c_get_915e3_2 : decode cJx4a65c_get_915e3 2 = .ok (.getfield 48, 3) := by decide +kernel
theorem dJx4a65c_get_915e3_5 : decode cJx4a65c_get_915e3 5 = .ok (.invokestatic 118, 3) := by decide +kernel
theorem dJx4a65c_get_915e3_8 : decode cJx4a65c_get_915e3 8 = .ok (.pop, 1) := by decide +kernel
theorem dJx4a65c_get_915e3_9 : decode cJx4a65c_get_915e3 9 = .ok (.aload_n 0, 1) := by decide +kernel
theorem dJx4a65c_get_915e3_10 : decode cJx4a65c_get_915e3 10 = .ok (.iload_n 1, 1) := by decide +kernel
theorem dJx4a65c_get_915e3_11 : decode cJx4a65c_get_915e3 11 = .ok (.invokevirtual 123, 3) := by decide +kernel
theorem dJx4a65c_get_915e3_14 : decode cJx4a65c_get_915e3 14 = .ok (.areturn, 1) := by decide +kernel
theorem dJx4a65c_add_72be8_0 : decode cJx4a65c_add_72be8 0 = .ok (.iload_n 3, 1) := by decide +kernel
theorem dJx4a65c_add_72be8_1 : decode cJx4a65c_add_72be8 1 = .ok (.aload_n 2, 1) := by decide +kernel
theorem dJx4a65c_add_72be8_2 : decode cJx4a65c_add_72be8 2 = .ok (.arraylength, 1) := by decide +kernel
theorem dJx4a65c_add_72be8_3 : decode cJx4a65c_add_72be8 3 = .ok (.if_icmp .ne 8, 3) := by decide +kernel
theorem dJx4a65c_add_72be8_6 : decode cJx4a65c_add_72be8 6 = .ok (.aload_n 0, 1) := by decide +kernel
theorem dJx4a65c_add_72be8_7 : decode cJx4a65c_add_72be8 7 = .ok (.invokevirtual 129, 3) := by decide +kernel
theorem dJx4a65c_add_72be8_10 : decode cJx4a65c_add_72be8 10 = .ok (.astore_n 2, 1) := by decide +kernel
theorem dJx4a65c_add_72be8_11 : decode cJx4a65c_add_72be8 11 = .ok (.aload_n 2, 1) := by decide +kernel
theorem dJx4a65c_add_72be8_12 : decode cJx4a65c_add_72be8 12 = .ok (.iload_n 3, 1) := by decide +kernel
theorem dJx4a65c_add_72be8_13 : decode cJx4a65c_add_72be8 13 = .ok (.aload_n 1, 1) := by decide +kernel
theorem dJx4a65c_add_72be8_14 : decode cJx4a65c_add_72be8 14 = .ok (.aastore, 1) := by decide +kernel
theorem dJx4a65c_add_72be8_15 : decode cJx4a65c_add_72be8 15 = .ok (.aload_n 0, 1) := by decide +kernel
theorem dJx4a65c_add_72be8_16 : decode cJx4a65c_add_72be8 16 = .ok (.iload_n 3, 1) := by decide +kernel
theorem dJx4a65c_add_72be8_17 : decode cJx4a65c_add_72be8 17 = .ok (.iconst 1, 1) := by decide +kernel
theorem dJx4a65c_add_72be8_18 : decode cJx4a65c_add_72be8 18 = .ok (.iadd, 1) := by decide +kernel
theorem dJx4a65c_add_72be8_19 : decode cJx4a65c_add_72be8 19 = .ok (.putfield 48, 3) := by decide +kernel
theorem dJx4a65c_add_72be8_22 : decode cJx4a65c_add_72be8 22 = .ok (.return_, 1) := by decide +kernel
theorem dJx4a65c_add_9ea2d_0 : decode cJx4a65c_add_9ea2d 0 = .ok (.aload_n 0, 1) := by decide +kernel
theorem dJx4a65c_add_9ea2d_1 : decode cJx4a65c_add_9ea2d 1 = .ok (.dup, 1) := by decide +kernel
theorem dJx4a65c_add_9ea2d_2 : decode cJx4a65c_add_9ea2d 2 = .ok (.getfield 63, 3) := by decide +kernel
theorem dJx4a65c_add_9ea2d_5 : decode cJx4a65c_add_9ea2d 5 = .ok (.iconst 1, 1) := by decide +kernel
theorem dJx4a65c_add_9ea2d_6 : decode cJx4a65c_add_9ea2d 6 = .ok (.iadd, 1) := by decide +kernel
theorem dJx4a65c_add_9ea2d_7 : decode cJx4a65c_add_9ea2d 7 = .ok (.putfield 63, 3) := by decide +kernel
theorem dJx4a65c_add_9ea2d_10 : decode cJx4a65c_add_9ea2d 10 = .ok (.aload_n 0, 1) := by decide +kernel
theorem dJx4a65c_add_9ea2d_11 : decode cJx4a65c_add_9ea2d 11 = .ok (.aload_n 1, 1) := by decide +kernel
theorem dJx4a65c_add_9ea2d_12 : decode cJx4a65c_add_9ea2d 12 = .ok (.aload_n 0, 1) := by decide +kernel
theorem dJx4a65c_add_9ea2d_13 : decode cJx4a65c_add_9ea2d 13 = .ok (.getfield 9, 3) := by decide +kernel
theorem dJx4a65c_add_9ea2d_16 : decode cJx4a65c_add_9ea2d 16 = .ok (.aload_n 0, 1) := by decide +kernel
theorem dJx4a65c_add_9ea2d_17 : decode cJx4a65c_add_9ea2d 17 = .ok (.getfield 48, 3) := by decide +kernel
theorem dJx4a65c_add_9ea2d_20 : decode cJx4a65c_add_9ea2d 20 = .ok (.invokevirtual 131, 3) := by decide +kernel
theorem dJx4a65c_add_9ea2d_23 : decode cJx4a65c_add_9ea2d 23 = .ok (.iconst 1, 1) := by decide +kernel
theorem dJx4a65c_add_9ea2d_24 : decode cJx4a65c_add_9ea2d 24 = .ok (.ireturn, 1) := by decide +kernel
theorem dJx4a65c_clear_da8c8_0 : decode cJx4a65c_clear_da8c8 0 = .ok (.aload_n 0, 1) := by decide +kernel
theorem dJx4a65c_clear_da8c8_1 : decode cJx4a65c_clear_da8c8 1 = .ok (.dup, 1) := by decide +kernel
theorem dJx4a65c_clear_da8c8_2 : decode cJx4a65c_clear_da8c8 2 = .ok (.getfield 63, 3) := by decide +kernel
theorem dJx4a65c_clear_da8c8_5 : decode cJx4a65c_clear_da8c8 5 = .ok (.iconst 1, 1) := by decide +kernel
theorem dJx4a65c_clear_da8c8_6 : decode cJx4a65c_clear_da8c8 6 = .ok (.iadd, 1) := by decide +kernel
theorem dJx4a65c_clear_da8c8_7 : decode cJx4a65c_clear_da8c8 7 = .ok (.putfield 63, 3) := by decide +kernel
theorem dJx4a65c_clear_da8c8_10 : decode cJx4a65c_clear_da8c8 10 = .ok (.aload_n 0, 1) := by decide +kernel
theorem dJx4a65c_clear_da8c8_11 : decode cJx4a65c_clear_da8c8 11 = .ok (.getfield 9, 3) := by decide +kernel
theorem dJx4a65c_clear_da8c8_14 : decode cJx4a65c_clear_da8c8 14 = .ok (.astore_n 1, 1) := by decide +kernel
theorem dJx4a65c_clear_da8c8_15 : decode cJx4a65c_clear_da8c8 15 = .ok (.aload_n 0, 1) := by decide +kernel
theorem dJx4a65c_clear_da8c8_16 : decode cJx4a65c_clear_da8c8 16 = .ok (.getfield 48, 3) := by decide +kernel
theorem dJx4a65c_clear_da8c8_19 : decode cJx4a65c_clear_da8c8 19 = .ok (.istore_n 2, 1) := by decide +kernel
theorem dJx4a65c_clear_da8c8_20 : decode cJx4a65c_clear_da8c8 20 = .ok (.aload_n 0, 1) := by decide +kernel
theorem dJx4a65c_clear_da8c8_21 : decode cJx4a65c_clear_da8c8 21 = .ok (.iconst 0, 1) := by decide +kernel
theorem dJx4a65c_clear_da8c8_22 : decode cJx4a65c_clear_da8c8 22 = .ok (.dup_x1, 1) := by decide +kernel
theorem dJx4a65c_clear_da8c8_23 : decode cJx4a65c_clear_da8c8 23 = .ok (.putfield 48, 3) := by decide +kernel
theorem dJx4a65c_clear_da8c8_26 : decode cJx4a65c_clear_da8c8 26 = .ok (.istore_n 3, 1) := by decide +kernel
theorem dJx4a65c_clear_da8c8_27 : decode cJx4a65c_clear_da8c8 27 = .ok (.iload_n 3, 1) := by decide +kernel
theorem dJx4a65c_clear_da8c8_28 : decode cJx4a65c_clear_da8c8 28 = .ok (.iload_n 2, 1) := by decide +kernel
theorem dJx4a65c_clear_da8c8_29 : decode cJx4a65c_clear_da8c8 29 = .ok (.if_icmp .ge 13, 3) := by decide +kernel
theorem dJx4a65c_clear_da8c8_32 : decode cJx4a65c_clear_da8c8 32 = .ok (.aload_n 1, 1) := by decide +kernel
theorem dJx4a65c_clear_da8c8_33 : decode cJx4a65c_clear_da8c8 33 = .ok (.iload_n 3, 1) := by decide +kernel
theorem dJx4a65c_clear_da8c8_34 : decode cJx4a65c_clear_da8c8 34 = .ok (.aconst_null, 1) := by decide +kernel
theorem dJx4a65c_clear_da8c8_35 : decode cJx4a65c_clear_da8c8 35 = .ok (.aastore, 1) := by decide +kernel
theorem dJx4a65c_clear_da8c8_36 : decode cJx4a65c_clear_da8c8 36 = .ok (.iinc 3 1, 3) := by decide +kernel
theorem dJx4a65c_clear_da8c8_39 : decode cJx4a65c_clear_da8c8 39 = .ok (.goto (-12), 3) := by decide +kernel
theorem dJx4a65c_clear_da8c8_42 : decode cJx4a65c_clear_da8c8 42 = .ok (.return_, 1) := by decide +kernel
theorem dJ7_copyOf_1904c_0 : decode cJ7_copyOf_1904c 0 = .ok (.aload_n 0, 1) := by decide +kernel
theorem dJ7_copyOf_1904c_1 : decode cJ7_copyOf_1904c 1 = .ok (.iload_n 1, 1) := by decide +kernel
theorem dJ7_copyOf_1904c_2 : decode cJ7_copyOf_1904c 2 = .ok (.aload_n 0, 1) := by decide +kernel
theorem dJ7_copyOf_1904c_3 : decode cJ7_copyOf_1904c 3 = .ok (.invokevirtual 86, 3) := by decide +kernel
theorem dJ7_copyOf_1904c_6 : decode cJ7_copyOf_1904c 6 = .ok (.invokestatic 300, 3) := by decide +kernel
theorem dJ7_copyOf_1904c_9 : decode cJ7_copyOf_1904c 9 = .ok (.areturn, 1) := by decide +kernel
theorem dJ7_copyOf_6403c_0 : decode cJ7_copyOf_6403c 0 = .ok (.aload_n 2, 1) := by decide +kernel
theorem dJ7_copyOf_6403c_1 : decode cJ7_copyOf_6403c 1 = .ok (.ldc 110, 2) := by decide +kernel
theorem dJ7_copyOf_6403c_3 : decode cJ7_copyOf_6403c 3 = .ok (.if_acmp .ne 10, 3) := by decide +kernel
theorem dJ7_copyOf_6403c_6 : decode cJ7_copyOf_6403c 6 = .ok (.iload_n 1, 1) := by decide +kernel
theorem dJ7_copyOf_6403c_7 : decode cJ7_copyOf_6403c 7 = .ok (.anewarray 2, 3) := by decide +kernel
theorem dJ7_copyOf_6403c_10 : decode cJ7_copyOf_6403c 10 = .ok (.goto 14, 3) := by decide +kernel
theorem dJ7_copyOf_6403c_13 : decode cJ7_copyOf_6403c 13 = .ok (.aload_n 2, 1) := by decide +kernel
theorem dJ7_copyOf_6403c_14 : decode cJ7_copyOf_6403c 14 = .ok (.invokevirtual 90, 3) := by decide +kernel
theorem dJ7_copyOf_6403c_17 : decode cJ7_copyOf_6403c 17 = .ok (.iload_n 1, 1) := by decide +kernel
theorem dJ7_copyOf_6403c_18 : decode cJ7_copyOf_6403c 18 = .ok (.invokestatic 95, 3) := by decide +kernel
theorem dJ7_copyOf_6403c_21 : decode cJ7_copyOf_6403c 21 = .ok (.checkcast 110, 3) := by decide +kernel
theorem dJ7_copyOf_6403c_24 : decode cJ7_copyOf_6403c 24 = .ok (.astore_n 3, 1) := by decide +kernel
theorem dJ7_copyOf_6403c_25 : decode cJ7_copyOf_6403c 25 = .ok (.aload_n 0, 1) := by decide +kernel
theorem dJ7_copyOf_6403c_26 : decode cJ7_copyOf_6403c 26 = .ok (.iconst 0, 1) := by decide +kernel
theorem dJ7_copyOf_6403c_27 : decode cJ7_copyOf_6403c 27 = .ok (.aload_n 3, 1) := by decide +kernel
theorem dJ7_copyOf_6403c_28 : decode cJ7_copyOf_6403c 28 = .ok (.iconst 0, 1) := by decide +kernel
theorem dJ7_copyOf_6403c_29 : decode cJ7_copyOf_6403c 29 = .ok (.aload_n 0, 1) := by decide +kernel
theorem dJ7_copyOf_6403c_30 : decode cJ7_copyOf_6403c 30 = .ok (.arraylength, 1) := by decide +kernel
theorem dJ7_copyOf_6403c_31 : decode cJ7_copyOf_6403c 31 = .ok (.iload_n 1, 1) := by decide +kernel
theorem dJ7_copyOf_6403c_32 : decode cJ7_copyOf_6403c 32 = .ok (.invokestatic 304, 3) := by decide +kernel
theorem dJ7_copyOf_6403c_35 : decode cJ7_copyOf_6403c 35 = .ok (.invokestatic 150, 3) := by decide +kernel
theorem dJ7_copyOf_6403c_38 : decode cJ7_copyOf_6403c 38 = .ok (.aload_n 3, 1) := by decide +kernel
theorem dJ7_copyOf_6403c_39 : decode cJ7_copyOf_6403c 39 = .ok (.areturn, 1) := by decide +kernel
theorem dJ15_checkIndex_7cf53_0 : decode cJ15_checkIndex_7cf53 0 = .ok (.iload_n 0, 1) := by decide +kernel
theorem dJ15_checkIndex_7cf53_1 : decode cJ15_checkIndex_7cf53 1 = .ok (.iload_n 1, 1) := by decide +kernel
theorem dJ15_checkIndex_7cf53_2 : decode cJ15_checkIndex_7cf53 2 = .ok (.aconst_null, 1) := by decide +kernel
theorem dJ15_checkIndex_7cf53_3 : decode cJ15_checkIndex_7cf53 3 = .ok (.invokestatic 105, 3) := by decide +kernel
theorem dJ15_checkIndex_7cf53_6 : decode cJ15_checkIndex_7cf53 6 = .ok (.ireturn, 1) := by decide +kernel
theorem dJ8_newLength_cabcc_0 : decode cJ8_newLength_cabcc 0 = .ok (.iload_n 0, 1) := by decide +kernel
theorem dJ8_newLength_cabcc_1 : decode cJ8_newLength_cabcc 1 = .ok (.iload_n 1, 1) := by decide +kernel
theorem dJ8_newLength_cabcc_2 : decode cJ8_newLength_cabcc 2 = .ok (.iload_n 2, 1) := by decide +kernel
theorem dJ8_newLength_cabcc_3 : decode cJ8_newLength_cabcc 3 = .ok (.invokestatic 194, 3) := by decide +kernel
theorem dJ8_newLength_cabcc_6 : decode cJ8_newLength_cabcc 6 = .ok (.iadd, 1) := by decide +kernel
theorem dJ8_newLength_cabcc_7 : decode cJ8_newLength_cabcc 7 = .ok (.istore_n 3, 1) := by decide +kernel
theorem dJ8_newLength_cabcc_8 : decode cJ8_newLength_cabcc 8 = .ok (.iconst 0, 1) := by decide +kernel
theorem dJ8_newLength_cabcc_9 : decode cJ8_newLength_cabcc 9 = .ok (.iload_n 3, 1) := by decide +kernel
theorem dJ8_newLength_cabcc_10 : decode cJ8_newLength_cabcc 10 = .ok (.if_icmp .ge 11, 3) := by decide +kernel
theorem dJ8_newLength_cabcc_13 : decode cJ8_newLength_cabcc 13 = .ok (.iload_n 3, 1) := by decide +kernel
theorem dJ8_newLength_cabcc_14 : decode cJ8_newLength_cabcc 14 = .ok (.ldc 200, 2) := by decide +kernel
theorem dJ8_newLength_cabcc_16 : decode cJ8_newLength_cabcc 16 = .ok (.if_icmp .gt 5, 3) := by decide +kernel
theorem dJ8_newLength_cabcc_19 : decode cJ8_newLength_cabcc 19 = .ok (.iload_n 3, 1) := by decide +kernel
theorem dJ8_newLength_cabcc_20 : decode cJ8_newLength_cabcc 20 = .ok (.ireturn, 1) := by decide +kernel
theorem dJ8_newLength_cabcc_21 : decode cJ8_newLength_cabcc 21 = .ok (.iload_n 0, 1) := by decide +kernel
theorem dJ8_newLength_cabcc_22 : decode cJ8_newLength_cabcc 22 = .ok (.iload_n 1, 1) := by decide +kernel
theorem dJ8_newLength_cabcc_23 : decode cJ8_newLength_cabcc 23 = .ok (.invokestatic 201, 3) := by decide +kernel
theorem dJ8_newLength_cabcc_26 : decode cJ8_newLength_cabcc 26 = .ok (.ireturn, 1) := by decide +kernel
theorem dJ8_hugeLength_7cf53_0 : decode cJ8_hugeLength_7cf53 0 = .ok (.iload_n 0, 1) := by decide +kernel
theorem dJ8_hugeLength_7cf53_1 : decode cJ8_hugeLength_7cf53 1 = .ok (.iload_n 1, 1) := by decide +kernel
theorem dJ8_hugeLength_7cf53_2 : decode cJ8_hugeLength_7cf53 2 = .ok (.iadd, 1) := by decide +kernel
theorem dJ8_hugeLength_7cf53_3 : decode cJ8_hugeLength_7cf53 3 = .ok (.istore_n 2, 1) := by decide +kernel
theorem dJ8_hugeLength_7cf53_4 : decode cJ8_hugeLength_7cf53 4 = .ok (.iload_n 2, 1) := by decide +kernel
theorem dJ8_hugeLength_7cf53_5 : decode cJ8_hugeLength_7cf53 5 = .ok (.ifCond .ge 44, 3) := by decide +kernel
theorem dJ8_hugeLength_7cf53_8 : decode cJ8_hugeLength_7cf53 8 = .ok (.new 204, 3) := by decide +kernel
theorem dJ8_hugeLength_7cf53_11 : decode cJ8_hugeLength_7cf53 11 = .ok (.dup, 1) := by decide +kernel
theorem dJ8_hugeLength_7cf53_12 : decode cJ8_hugeLength_7cf53 12 = .ok (.new 89, 3) := by decide +kernel
theorem dJ8_hugeLength_7cf53_15 : decode cJ8_hugeLength_7cf53 15 = .ok (.dup, 1) := by decide +kernel
theorem dJ8_hugeLength_7cf53_16 : decode cJ8_hugeLength_7cf53 16 = .ok (.invokespecial 91, 3) := by decide +kernel
theorem dJ8_hugeLength_7cf53_19 : decode cJ8_hugeLength_7cf53 19 = .ok (.ldc 206, 2) := by decide +kernel
theorem dJ8_hugeLength_7cf53_21 : decode cJ8_hugeLength_7cf53 21 = .ok (.invokevirtual 94, 3) := by decide +kernel
theorem dJ8_hugeLength_7cf53_24 : decode cJ8_hugeLength_7cf53 24 = .ok (.iload_n 0, 1) := by decide +kernel
theorem dJ8_hugeLength_7cf53_25 : decode cJ8_hugeLength_7cf53 25 = .ok (.invokevirtual 98, 3) := by decide +kernel
theorem dJ8_hugeLength_7cf53_28 : decode cJ8_hugeLength_7cf53 28 = .ok (.ldc 208, 2) := by decide +kernel
theorem dJ8_hugeLength_7cf53_30 : decode cJ8_hugeLength_7cf53 30 = .ok (.invokevirtual 94, 3) := by decide +kernel
theorem dJ8_hugeLength_7cf53_33 : decode cJ8_hugeLength_7cf53 33 = .ok (.iload_n 1, 1) := by decide +kernel
theorem dJ8_hugeLength_7cf53_34 : decode cJ8_hugeLength_7cf53 34 = .ok (.invokevirtual 98, 3) := by decide +kernel
theorem dJ8_hugeLength_7cf53_37 : decode cJ8_hugeLength_7cf53 37 = .ok (.ldc 210, 2) := by decide +kernel
theorem dJ8_hugeLength_7cf53_39 : decode cJ8_hugeLength_7cf53 39 = .ok (.invokevirtual 94, 3) := by decide +kernel
theorem dJ8_hugeLength_7cf53_42 : decode cJ8_hugeLength_7cf53 42 = .ok (.invokevirtual 101, 3) := by decide +kernel
theorem dJ8_hugeLength_7cf53_45 : decode cJ8_hugeLength_7cf53 45 = .ok (.invokespecial 212, 3) := by decide +kernel
theorem dJ8_hugeLength_7cf53_48 : decode cJ8_hugeLength_7cf53 48 = .ok (.athrow, 1) := by decide +kernel
theorem dJ8_hugeLength_7cf53_49 : decode cJ8_hugeLength_7cf53 49 = .ok (.iload_n 2, 1) := by decide +kernel
theorem dJ8_hugeLength_7cf53_50 : decode cJ8_hugeLength_7cf53 50 = .ok (.ldc 200, 2) := by decide +kernel
theorem dJ8_hugeLength_7cf53_52 : decode cJ8_hugeLength_7cf53 52 = .ok (.if_icmp .gt 6, 3) := by decide +kernel
theorem dJ8_hugeLength_7cf53_55 : decode cJ8_hugeLength_7cf53 55 = .ok (.ldc 200, 2) := by decide +kernel
theorem dJ8_hugeLength_7cf53_57 : decode cJ8_hugeLength_7cf53 57 = .ok (.ireturn, 1) := by decide +kernel
theorem dJ8_hugeLength_7cf53_58 : decode cJ8_hugeLength_7cf53 58 = .ok (.iload_n 2, 1) := by decide +kernel
theorem dJ8_hugeLength_7cf53_59 : decode cJ8_hugeLength_7cf53 59 = .ok (.ireturn, 1) := by decide +kernel
theorem dJ3_checkIndex_8e157_0 : decode cJ3_checkIndex_8e157 0 = .ok (.iload_n 0, 1) := by decide +kernel
theorem dJ3_checkIndex_8e157_1 : decode cJ3_checkIndex_8e157 1 = .ok (.ifCond .lt 8, 3) := by decide +kernel
theorem dJ3_checkIndex_8e157_4 : decode cJ3_checkIndex_8e157 4 = .ok (.iload_n 0, 1) := by decide +kernel
theorem dJ3_checkIndex_8e157_5 : decode cJ3_checkIndex_8e157 5 = .ok (.iload_n 1, 1) := by decide +kernel
theorem dJ3_checkIndex_8e157_6 : decode cJ3_checkIndex_8e157 6 = .ok (.if_icmp .lt 10, 3) := by decide +kernel
theorem dJ3_checkIndex_8e157_9 : decode cJ3_checkIndex_8e157 9 = .ok (.aload_n 2, 1) := by decide +kernel
theorem dJ3_checkIndex_8e157_10 : decode cJ3_checkIndex_8e157 10 = .ok (.iload_n 0, 1) := by decide +kernel
theorem dJ3_checkIndex_8e157_11 : decode cJ3_checkIndex_8e157 11 = .ok (.iload_n 1, 1) := by decide +kernel
theorem dJ3_checkIndex_8e157_12 : decode cJ3_checkIndex_8e157 12 = .ok (.invokestatic 95, 3) := by decide +kernel
theorem dJ3_checkIndex_8e157_15 : decode cJ3_checkIndex_8e157 15 = .ok (.athrow, 1) := by decide +kernel
theorem dJ3_checkIndex_8e157_16 : decode cJ3_checkIndex_8e157 16 = .ok (.iload_n 0, 1) := by decide +kernel
theorem dJ3_checkIndex_8e157_17 : decode cJ3_checkIndex_8e157 17 = .ok (.ireturn, 1) := by decide +kernel
theorem dL_cell_0 : decode cL_cell 0 = .ok (.iload_n 1, 1) := by decide +kernel
theorem dL_cell_1 : decode cL_cell 1 = .ok (.aload_n 0, 1) := by decide +kernel
theorem dL_cell_2 : decode cL_cell 2 = .ok (.arraylength, 1) := by decide +kernel
theorem dL_cell_3 : decode cL_cell 3 = .ok (.if_icmp .ge 9, 3) := by decide +kernel
theorem dL_cell_6 : decode cL_cell 6 = .ok (.aload_n 0, 1) := by decide +kernel
theorem dL_cell_7 : decode cL_cell 7 = .ok (.iload_n 1, 1) := by decide +kernel
theorem dL_cell_8 : decode cL_cell 8 = .ok (.iaload, 1) := by decide +kernel
theorem dL_cell_9 : decode cL_cell 9 = .ok (.goto 16, 3) := by decide +kernel
theorem dL_cell_12 : decode cL_cell 12 = .ok (.ldc2_w 7, 3) := by decide +kernel
theorem dL_cell_15 : decode cL_cell 15 = .ok (.iload_n 1, 1) := by decide +kernel
theorem dL_cell_16 : decode cL_cell 16 = .ok (.bipush 9, 2) := by decide +kernel
theorem dL_cell_18 : decode cL_cell 18 = .ok (.iadd, 1) := by decide +kernel
theorem dL_cell_19 : decode cL_cell 19 = .ok (.i2l, 1) := by decide +kernel
theorem dL_cell_20 : decode cL_cell 20 = .ok (.lmul, 1) := by decide +kernel
theorem dL_cell_21 : decode cL_cell 21 = .ok (.bipush 6, 2) := by decide +kernel
theorem dL_cell_23 : decode cL_cell 23 = .ok (.lushr, 1) := by decide +kernel
theorem dL_cell_24 : decode cL_cell 24 = .ok (.l2i, 1) := by decide +kernel
theorem dL_cell_25 : decode cL_cell 25 = .ok (.ireturn, 1) := by decide +kernel
theorem dL_some_0 : decode cL_some 0 = .ok (.iload_n 0, 1) := by decide +kernel
theorem dL_some_1 : decode cL_some 1 = .ok (.iconst 3, 1) := by decide +kernel
theorem dL_some_2 : decode cL_some 2 = .ok (.iushr, 1) := by decide +kernel
theorem dL_some_3 : decode cL_some 3 = .ok (.iload_n 1, 1) := by decide +kernel
theorem dL_some_4 : decode cL_some 4 = .ok (.irem, 1) := by decide +kernel
theorem dL_some_5 : decode cL_some 5 = .ok (.ireturn, 1) := by decide +kernel
theorem dL_compare_0 : decode cL_compare 0 = .ok (.aload_n 1, 1) := by decide +kernel
theorem dL_compare_1 : decode cL_compare 1 = .ok (.iload_n 2, 1) := by decide +kernel
theorem dL_compare_2 : decode cL_compare 2 = .ok (.iaload, 1) := by decide +kernel
theorem dL_compare_3 : decode cL_compare 3 = .ok (.istore 12, 2) := by decide +kernel
theorem dL_compare_5 : decode cL_compare 5 = .ok (.aload_n 1, 1) := by decide +kernel
theorem dL_compare_6 : decode cL_compare 6 = .ok (.iconst 4, 1) := by decide +kernel
theorem dL_compare_7 : decode cL_compare 7 = .ok (.iload_n 2, 1) := by decide +kernel
theorem dL_compare_8 : decode cL_compare 8 = .ok (.iadd, 1) := by decide +kernel
theorem dL_compare_9 : decode cL_compare 9 = .ok (.iaload, 1) := by decide +kernel
theorem dL_compare_10 : decode cL_compare 10 = .ok (.istore 13, 2) := by decide +kernel
theorem dL_compare_12 : decode cL_compare 12 = .ok (.aload_n 1, 1) := by decide +kernel
theorem dL_compare_13 : decode cL_compare 13 = .ok (.bipush 8, 2) := by decide +kernel
theorem dL_compare_15 : decode cL_compare 15 = .ok (.iload_n 2, 1) := by decide +kernel
theorem dL_compare_16 : decode cL_compare 16 = .ok (.iadd, 1) := by decide +kernel
theorem dL_compare_17 : decode cL_compare 17 = .ok (.iaload, 1) := by decide +kernel
theorem dL_compare_18 : decode cL_compare 18 = .ok (.istore 14, 2) := by decide +kernel
theorem dL_compare_20 : decode cL_compare 20 = .ok (.bipush 16, 2) := by decide +kernel
theorem dL_compare_22 : decode cL_compare 22 = .ok (.iload 11, 2) := by decide +kernel
theorem dL_compare_24 : decode cL_compare 24 = .ok (.imul, 1) := by decide +kernel
theorem dL_compare_25 : decode cL_compare 25 = .ok (.istore 15, 2) := by decide +kernel
theorem dL_compare_27 : decode cL_compare 27 = .ok (.iconst 0, 1) := by decide +kernel
theorem dL_compare_28 : decode cL_compare 28 = .ok (.istore 16, 2) := by decide +kernel
theorem dL_compare_30 : decode cL_compare 30 = .ok (.iload 16, 2) := by decide +kernel
theorem dL_compare_32 : decode cL_compare 32 = .ok (.iload 5, 2) := by decide +kernel
theorem dL_compare_34 : decode cL_compare 34 = .ok (.if_icmp .ge 24, 3) := by decide +kernel
theorem dL_compare_37 : decode cL_compare 37 = .ok (.aload 6, 2) := by decide +kernel
theorem dL_compare_39 : decode cL_compare 39 = .ok (.iload 15, 2) := by decide +kernel
theorem dL_compare_41 : decode cL_compare 41 = .ok (.iload 16, 2) := by decide +kernel
theorem dL_compare_43 : decode cL_compare 43 = .ok (.iadd, 1) := by decide +kernel
theorem dL_compare_44 : decode cL_compare 44 = .ok (.aload_n 3, 1) := by decide +kernel
theorem dL_compare_45 : decode cL_compare 45 = .ok (.iload 4, 2) := by decide +kernel
theorem dL_compare_47 : decode cL_compare 47 = .ok (.iload 16, 2) := by decide +kernel
theorem dL_compare_49 : decode cL_compare 49 = .ok (.iadd, 1) := by decide +kernel
theorem dL_compare_50 : decode cL_compare 50 = .ok (.iaload, 1) := by decide +kernel
theorem dL_compare_51 : decode cL_compare 51 = .ok (.iastore, 1) := by decide +kernel
theorem dL_compare_52 : decode cL_compare 52 = .ok (.iinc 16 1, 3) := by decide +kernel
theorem dL_compare_55 : decode cL_compare 55 = .ok (.goto (-25), 3) := by decide +kernel
theorem dL_compare_58 : decode cL_compare 58 = .ok (.aload 10, 2) := by decide +kernel
theorem dL_compare_60 : decode cL_compare 60 = .ok (.iload 11, 2) := by decide +kernel
theorem dL_compare_62 : decode cL_compare 62 = .ok (.iconst 0, 1) := by decide +kernel
theorem dL_compare_63 : decode cL_compare 63 = .ok (.iastore, 1) := by decide +kernel
theorem dL_compare_64 : decode cL_compare 64 = .ok (.aload 10, 2) := by decide +kernel
theorem dL_compare_66 : decode cL_compare 66 = .ok (.iconst 4, 1) := by decide +kernel
theorem dL_compare_67 : decode cL_compare 67 = .ok (.iload 11, 2) := by decide +kernel
theorem dL_compare_69 : decode cL_compare 69 = .ok (.iadd, 1) := by decide +kernel
theorem dL_compare_70 : decode cL_compare 70 = .ok (.iconst 0, 1) := by decide +kernel
theorem dL_compare_71 : decode cL_compare 71 = .ok (.iastore, 1) := by decide +kernel
theorem dL_compare_72 : decode cL_compare 72 = .ok (.iconst 0, 1) := by decide +kernel
theorem dL_compare_73 : decode cL_compare 73 = .ok (.istore 16, 2) := by decide +kernel
theorem dL_compare_75 : decode cL_compare 75 = .ok (.bipush (-9), 2) := by decide +kernel
theorem dL_compare_77 : decode cL_compare 77 = .ok (.istore 17, 2) := by decide +kernel
theorem dL_compare_79 : decode cL_compare 79 = .ok (.iload 16, 2) := by decide +kernel
theorem dL_compare_81 : decode cL_compare 81 = .ok (.iload 5, 2) := by decide +kernel
theorem dL_compare_83 : decode cL_compare 83 = .ok (.if_icmp .ge 382, 3) := by decide +kernel
theorem dL_compare_86 : decode cL_compare 86 = .ok (.iload 5, 2) := by decide +kernel
theorem dL_compare_88 : decode cL_compare 88 = .ok (.iload 16, 2) := by decide +kernel
theorem dL_compare_90 : decode cL_compare 90 = .ok (.isub, 1) := by decide +kernel
theorem dL_compare_91 : decode cL_compare 91 = .ok (.istore 18, 2) := by decide +kernel
theorem dL_compare_93 : decode cL_compare 93 = .ok (.iload 18, 2) := by decide +kernel
theorem dL_compare_95 : decode cL_compare 95 = .ok (.iload 12, 2) := by decide +kernel
theorem dL_compare_97 : decode cL_compare 97 = .ok (.if_icmp .ge 8, 3) := by decide +kernel
theorem dL_compare_100 : decode cL_compare 100 = .ok (.iload 18, 2) := by decide +kernel
theorem dL_compare_102 : decode cL_compare 102 = .ok (.goto 5, 3) := by decide +kernel
theorem dL_compare_105 : decode cL_compare 105 = .ok (.iload 12, 2) := by decide +kernel
theorem dL_compare_107 : decode cL_compare 107 = .ok (.istore 19, 2) := by decide +kernel
theorem dL_compare_109 : decode cL_compare 109 = .ok (.iconst (-1), 1) := by decide +kernel
theorem dL_compare_110 : decode cL_compare 110 = .ok (.istore 20, 2) := by decide +kernel
theorem dL_compare_112 : decode cL_compare 112 = .ok (.iconst 0, 1) := by decide +kernel
theorem dL_compare_113 : decode cL_compare 113 = .ok (.istore 21, 2) := by decide +kernel
theorem dL_compare_115 : decode cL_compare 115 = .ok (.iconst 0, 1) := by decide +kernel
theorem dL_compare_116 : decode cL_compare 116 = .ok (.istore 22, 2) := by decide +kernel
theorem dL_compare_118 : decode cL_compare 118 = .ok (.iload 22, 2) := by decide +kernel
theorem dL_compare_120 : decode cL_compare 120 = .ok (.iload 12, 2) := by decide +kernel
theorem dL_compare_122 : decode cL_compare 122 = .ok (.imul, 1) := by decide +kernel
theorem dL_compare_123 : decode cL_compare 123 = .ok (.iload 14, 2) := by decide +kernel
theorem dL_compare_125 : decode cL_compare 125 = .ok (.if_icmp .ge 163, 3) := by decide +kernel
theorem dL_compare_128 : decode cL_compare 128 = .ok (.iload 14, 2) := by decide +kernel
theorem dL_compare_130 : decode cL_compare 130 = .ok (.iload 22, 2) := by decide +kernel
theorem dL_compare_132 : decode cL_compare 132 = .ok (.iload 12, 2) := by decide +kernel
theorem dL_compare_134 : decode cL_compare 134 = .ok (.imul, 1) := by decide +kernel
theorem dL_compare_135 : decode cL_compare 135 = .ok (.isub, 1) := by decide +kernel
theorem dL_compare_136 : decode cL_compare 136 = .ok (.iload 12, 2) := by decide +kernel
theorem dL_compare_138 : decode cL_compare 138 = .ok (.if_icmp .ge 14, 3) := by decide +kernel
theorem dL_compare_141 : decode cL_compare 141 = .ok (.iload 14, 2) := by decide +kernel
theorem dL_compare_143 : decode cL_compare 143 = .ok (.iload 22, 2) := by decide +kernel
theorem dL_compare_145 : decode cL_compare 145 = .ok (.iload 12, 2) := by decide +kernel
theorem dL_compare_147 : decode cL_compare 147 = .ok (.imul, 1) := by decide +kernel
theorem dL_compare_148 : decode cL_compare 148 = .ok (.isub, 1) := by decide +kernel
theorem dL_compare_149 : decode cL_compare 149 = .ok (.goto 5, 3) := by decide +kernel
theorem dL_compare_152 : decode cL_compare 152 = .ok (.iload 12, 2) := by decide +kernel
theorem dL_compare_154 : decode cL_compare 154 = .ok (.istore 23, 2) := by decide +kernel
theorem dL_compare_156 : decode cL_compare 156 = .ok (.iload 23, 2) := by decide +kernel
theorem dL_compare_158 : decode cL_compare 158 = .ok (.iload 19, 2) := by decide +kernel
theorem dL_compare_160 : decode cL_compare 160 = .ok (.if_icmp .ne 122, 3) := by decide +kernel
theorem dL_compare_163 : decode cL_compare 163 = .ok (.aload_n 0, 1) := by decide +kernel
theorem dL_compare_164 : decode cL_compare 164 = .ok (.bipush 16, 2) := by decide +kernel
theorem dL_compare_166 : decode cL_compare 166 = .ok (.iload_n 2, 1) := by decide +kernel
theorem dL_compare_167 : decode cL_compare 167 = .ok (.imul, 1) := by decide +kernel
theorem dL_compare_168 : decode cL_compare 168 = .ok (.iload 22, 2) := by decide +kernel
theorem dL_compare_170 : decode cL_compare 170 = .ok (.iload 12, 2) := by decide +kernel
theorem dL_compare_172 : decode cL_compare 172 = .ok (.imul, 1) := by decide +kernel
theorem dL_compare_173 : decode cL_compare 173 = .ok (.iadd, 1) := by decide +kernel
theorem dL_compare_174 : decode cL_compare 174 = .ok (.iload 23, 2) := by decide +kernel
theorem dL_compare_176 : decode cL_compare 176 = .ok (.iload 13, 2) := by decide +kernel
theorem dL_compare_178 : decode cL_compare 178 = .ok (.invokestatic 9, 3) := by decide +kernel
theorem dL_compare_181 : decode cL_compare 181 = .ok (.aload_n 3, 1) := by decide +kernel
theorem dL_compare_182 : decode cL_compare 182 = .ok (.iload 4, 2) := by decide +kernel
theorem dL_compare_184 : decode cL_compare 184 = .ok (.iload 16, 2) := by decide +kernel
theorem dL_compare_186 : decode cL_compare 186 = .ok (.iadd, 1) := by decide +kernel
theorem dL_compare_187 : decode cL_compare 187 = .ok (.iload 19, 2) := by decide +kernel
theorem dL_compare_189 : decode cL_compare 189 = .ok (.iload 13, 2) := by decide +kernel
theorem dL_compare_191 : decode cL_compare 191 = .ok (.invokestatic 9, 3) := by decide +kernel
theorem dL_compare_194 : decode cL_compare 194 = .ok (.if_icmp .ne 88, 3) := by decide +kernel
theorem dL_compare_197 : decode cL_compare 197 = .ok (.iinc 21 1, 3) := by decide +kernel
theorem dL_compare_200 : decode cL_compare 200 = .ok (.iconst 1, 1) := by decide +kernel
theorem dL_compare_201 : decode cL_compare 201 = .ok (.istore 24, 2) := by decide +kernel
theorem dL_compare_203 : decode cL_compare 203 = .ok (.iconst 0, 1) := by decide +kernel
theorem dL_compare_204 : decode cL_compare 204 = .ok (.istore 25, 2) := by decide +kernel
theorem dL_compare_206 : decode cL_compare 206 = .ok (.iload 25, 2) := by decide +kernel
theorem dL_compare_208 : decode cL_compare 208 = .ok (.iload 19, 2) := by decide +kernel
theorem dL_compare_210 : decode cL_compare 210 = .ok (.if_icmp .ge 49, 3) := by decide +kernel
theorem dL_compare_213 : decode cL_compare 213 = .ok (.iload 24, 2) := by decide +kernel
theorem dL_compare_215 : decode cL_compare 215 = .ok (.ifCond .eq 35, 3) := by decide +kernel
theorem dL_compare_218 : decode cL_compare 218 = .ok (.aload_n 0, 1) := by decide +kernel
theorem dL_compare_219 : decode cL_compare 219 = .ok (.bipush 16, 2) := by decide +kernel
theorem dL_compare_221 : decode cL_compare 221 = .ok (.iload_n 2, 1) := by decide +kernel
theorem dL_compare_222 : decode cL_compare 222 = .ok (.imul, 1) := by decide +kernel
theorem dL_compare_223 : decode cL_compare 223 = .ok (.iload 22, 2) := by decide +kernel
theorem dL_compare_225 : decode cL_compare 225 = .ok (.iload 12, 2) := by decide +kernel
theorem dL_compare_227 : decode cL_compare 227 = .ok (.imul, 1) := by decide +kernel
theorem dL_compare_228 : decode cL_compare 228 = .ok (.iadd, 1) := by decide +kernel
theorem dL_compare_229 : decode cL_compare 229 = .ok (.iload 25, 2) := by decide +kernel
theorem dL_compare_231 : decode cL_compare 231 = .ok (.iadd, 1) := by decide +kernel
theorem dL_compare_232 : decode cL_compare 232 = .ok (.iaload, 1) := by decide +kernel
theorem dL_compare_233 : decode cL_compare 233 = .ok (.aload_n 3, 1) := by decide +kernel
theorem dL_compare_234 : decode cL_compare 234 = .ok (.iload 4, 2) := by decide +kernel
theorem dL_compare_236 : decode cL_compare 236 = .ok (.iload 16, 2) := by decide +kernel
theorem dL_compare_238 : decode cL_compare 238 = .ok (.iadd, 1) := by decide +kernel
theorem dL_compare_239 : decode cL_compare 239 = .ok (.iload 25, 2) := by decide +kernel
theorem dL_compare_241 : decode cL_compare 241 = .ok (.iadd, 1) := by decide +kernel
theorem dL_compare_242 : decode cL_compare 242 = .ok (.iaload, 1) := by decide +kernel
theorem dL_compare_243 : decode cL_compare 243 = .ok (.if_icmp .ne 7, 3) := by decide +kernel
theorem dL_compare_246 : decode cL_compare 246 = .ok (.iconst 1, 1) := by decide +kernel
theorem dL_compare_247 : decode cL_compare 247 = .ok (.goto 4, 3) := by decide +kernel
theorem dL_compare_250 : decode cL_compare 250 = .ok (.iconst 0, 1) := by decide +kernel
theorem dL_compare_251 : decode cL_compare 251 = .ok (.istore 24, 2) := by decide +kernel
theorem dL_compare_253 : decode cL_compare 253 = .ok (.iinc 25 1, 3) := by decide +kernel
theorem dL_compare_256 : decode cL_compare 256 = .ok (.goto (-50), 3) := by decide +kernel
theorem dL_compare_259 : decode cL_compare 259 = .ok (.iload 24, 2) := by decide +kernel
theorem dL_compare_261 : decode cL_compare 261 = .ok (.ifCond .eq 21, 3) := by decide +kernel
theorem dL_compare_264 : decode cL_compare 264 = .ok (.iload 20, 2) := by decide +kernel
theorem dL_compare_266 : decode cL_compare 266 = .ok (.ifCond .lt 12, 3) := by decide +kernel
theorem dL_compare_269 : decode cL_compare 269 = .ok (.iload 22, 2) := by decide +kernel
theorem dL_compare_271 : decode cL_compare 271 = .ok (.iload 17, 2) := by decide +kernel
theorem dL_compare_273 : decode cL_compare 273 = .ok (.iconst 1, 1) := by decide +kernel
theorem dL_compare_274 : decode cL_compare 274 = .ok (.iadd, 1) := by decide +kernel
theorem dL_compare_275 : decode cL_compare 275 = .ok (.if_icmp .ne 7, 3) := by decide +kernel
theorem dL_compare_278 : decode cL_compare 278 = .ok (.iload 22, 2) := by decide +kernel
theorem dL_compare_280 : decode cL_compare 280 = .ok (.istore 20, 2) := by decide +kernel
theorem dL_compare_282 : decode cL_compare 282 = .ok (.iinc 22 1, 3) := by decide +kernel
theorem dL_compare_285 : decode cL_compare 285 = .ok (.goto (-167), 3) := by decide +kernel
theorem dL_compare_288 : decode cL_compare 288 = .ok (.iload 15, 2) := by decide +kernel
theorem dL_compare_290 : decode cL_compare 290 = .ok (.aload 10, 2) := by decide +kernel
theorem dL_compare_292 : decode cL_compare 292 = .ok (.iload 11, 2) := by decide +kernel
theorem dL_compare_294 : decode cL_compare 294 = .ok (.iaload, 1) := by decide +kernel
theorem dL_compare_295 : decode cL_compare 295 = .ok (.iadd, 1) := by decide +kernel
theorem dL_compare_296 : decode cL_compare 296 = .ok (.iconst 1, 1) := by decide +kernel
theorem dL_compare_297 : decode cL_compare 297 = .ok (.isub, 1) := by decide +kernel
theorem dL_compare_298 : decode cL_compare 298 = .ok (.istore 22, 2) := by decide +kernel
theorem dL_compare_300 : decode cL_compare 300 = .ok (.iload 20, 2) := by decide +kernel
theorem dL_compare_302 : decode cL_compare 302 = .ok (.ifCond .lt 74, 3) := by decide +kernel
theorem dL_compare_305 : decode cL_compare 305 = .ok (.iload 20, 2) := by decide +kernel
theorem dL_compare_307 : decode cL_compare 307 = .ok (.iload 17, 2) := by decide +kernel
theorem dL_compare_309 : decode cL_compare 309 = .ok (.iconst 1, 1) := by decide +kernel
theorem dL_compare_310 : decode cL_compare 310 = .ok (.iadd, 1) := by decide +kernel
theorem dL_compare_311 : decode cL_compare 311 = .ok (.if_icmp .ne 16, 3) := by decide +kernel
theorem dL_compare_314 : decode cL_compare 314 = .ok (.aload 9, 2) := by decide +kernel
theorem dL_compare_316 : decode cL_compare 316 = .ok (.iload 22, 2) := by decide +kernel
theorem dL_compare_318 : decode cL_compare 318 = .ok (.dup2, 1) := by decide +kernel
theorem dL_compare_319 : decode cL_compare 319 = .ok (.iaload, 1) := by decide +kernel
theorem dL_compare_320 : decode cL_compare 320 = .ok (.iload 19, 2) := by decide +kernel
theorem dL_compare_322 : decode cL_compare 322 = .ok (.iadd, 1) := by decide +kernel
theorem dL_compare_323 : decode cL_compare 323 = .ok (.iastore, 1) := by decide +kernel
theorem dL_compare_324 : decode cL_compare 324 = .ok (.goto 38, 3) := by decide +kernel
theorem dL_compare_327 : decode cL_compare 327 = .ok (.iinc 22 1, 3) := by decide +kernel
theorem dL_compare_330 : decode cL_compare 330 = .ok (.aload 10, 2) := by decide +kernel
theorem dL_compare_332 : decode cL_compare 332 = .ok (.iload 11, 2) := by decide +kernel
theorem dL_compare_334 : decode cL_compare 334 = .ok (.dup2, 1) := by decide +kernel
theorem dL_compare_335 : decode cL_compare 335 = .ok (.iaload, 1) := by decide +kernel
theorem dL_compare_336 : decode cL_compare 336 = .ok (.iconst 1, 1) := by decide +kernel
theorem dL_compare_337 : decode cL_compare 337 = .ok (.iadd, 1) := by decide +kernel
theorem dL_compare_338 : decode cL_compare 338 = .ok (.iastore, 1) := by decide +kernel
theorem dL_compare_339 : decode cL_compare 339 = .ok (.aload 7, 2) := by decide +kernel
theorem dL_compare_341 : decode cL_compare 341 = .ok (.iload 22, 2) := by decide +kernel
theorem dL_compare_343 : decode cL_compare 343 = .ok (.iconst 1, 1) := by decide +kernel
theorem dL_compare_344 : decode cL_compare 344 = .ok (.iastore, 1) := by decide +kernel
theorem dL_compare_345 : decode cL_compare 345 = .ok (.aload 8, 2) := by decide +kernel
theorem dL_compare_347 : decode cL_compare 347 = .ok (.iload 22, 2) := by decide +kernel
theorem dL_compare_349 : decode cL_compare 349 = .ok (.iload 20, 2) := by decide +kernel
theorem dL_compare_351 : decode cL_compare 351 = .ok (.iload 12, 2) := by decide +kernel
theorem dL_compare_353 : decode cL_compare 353 = .ok (.imul, 1) := by decide +kernel
theorem dL_compare_354 : decode cL_compare 354 = .ok (.iastore, 1) := by decide +kernel
theorem dL_compare_355 : decode cL_compare 355 = .ok (.aload 9, 2) := by decide +kernel
theorem dL_compare_357 : decode cL_compare 357 = .ok (.iload 22, 2) := by decide +kernel
theorem dL_compare_359 : decode cL_compare 359 = .ok (.iload 19, 2) := by decide +kernel
theorem dL_compare_361 : decode cL_compare 361 = .ok (.iastore, 1) := by decide +kernel
theorem dL_compare_362 : decode cL_compare 362 = .ok (.iload 20, 2) := by decide +kernel
theorem dL_compare_364 : decode cL_compare 364 = .ok (.istore 17, 2) := by decide +kernel
theorem dL_compare_366 : decode cL_compare 366 = .ok (.iload 16, 2) := by decide +kernel
theorem dL_compare_368 : decode cL_compare 368 = .ok (.iload 19, 2) := by decide +kernel
theorem dL_compare_370 : decode cL_compare 370 = .ok (.iadd, 1) := by decide +kernel
theorem dL_compare_371 : decode cL_compare 371 = .ok (.istore 16, 2) := by decide +kernel
theorem dL_compare_373 : decode cL_compare 373 = .ok (.goto 89, 3) := by decide +kernel
theorem dL_compare_376 : decode cL_compare 376 = .ok (.aload 10, 2) := by decide +kernel
theorem dL_compare_378 : decode cL_compare 378 = .ok (.iconst 4, 1) := by decide +kernel
theorem dL_compare_379 : decode cL_compare 379 = .ok (.iload 11, 2) := by decide +kernel
theorem dL_compare_381 : decode cL_compare 381 = .ok (.iadd, 1) := by decide +kernel
theorem dL_compare_382 : decode cL_compare 382 = .ok (.dup2, 1) := by decide +kernel
theorem dL_compare_383 : decode cL_compare 383 = .ok (.iaload, 1) := by decide +kernel
theorem dL_compare_384 : decode cL_compare 384 = .ok (.iload 21, 2) := by decide +kernel
theorem dL_compare_386 : decode cL_compare 386 = .ok (.ifCond .le 7, 3) := by decide +kernel
theorem dL_compare_389 : decode cL_compare 389 = .ok (.iconst 1, 1) := by decide +kernel
theorem dL_compare_390 : decode cL_compare 390 = .ok (.goto 4, 3) := by decide +kernel
theorem dL_compare_393 : decode cL_compare 393 = .ok (.iconst 0, 1) := by decide +kernel
theorem dL_compare_394 : decode cL_compare 394 = .ok (.iadd, 1) := by decide +kernel
theorem dL_compare_395 : decode cL_compare 395 = .ok (.iastore, 1) := by decide +kernel
theorem dL_compare_396 : decode cL_compare 396 = .ok (.aload 10, 2) := by decide +kernel
theorem dL_compare_398 : decode cL_compare 398 = .ok (.iload 11, 2) := by decide +kernel
theorem dL_compare_400 : decode cL_compare 400 = .ok (.iaload, 1) := by decide +kernel
theorem dL_compare_401 : decode cL_compare 401 = .ok (.ifCond .le 23, 3) := by decide +kernel
theorem dL_compare_404 : decode cL_compare 404 = .ok (.aload 7, 2) := by decide +kernel
theorem dL_compare_406 : decode cL_compare 406 = .ok (.iload 22, 2) := by decide +kernel
theorem dL_compare_408 : decode cL_compare 408 = .ok (.iaload, 1) := by decide +kernel
theorem dL_compare_409 : decode cL_compare 409 = .ok (.ifCond .ne 15, 3) := by decide +kernel
theorem dL_compare_412 : decode cL_compare 412 = .ok (.aload 9, 2) := by decide +kernel
theorem dL_compare_414 : decode cL_compare 414 = .ok (.iload 22, 2) := by decide +kernel
theorem dL_compare_416 : decode cL_compare 416 = .ok (.dup2, 1) := by decide +kernel
theorem dL_compare_417 : decode cL_compare 417 = .ok (.iaload, 1) := by decide +kernel
theorem dL_compare_418 : decode cL_compare 418 = .ok (.iconst 1, 1) := by decide +kernel
theorem dL_compare_419 : decode cL_compare 419 = .ok (.iadd, 1) := by decide +kernel
theorem dL_compare_420 : decode cL_compare 420 = .ok (.iastore, 1) := by decide +kernel
theorem dL_compare_421 : decode cL_compare 421 = .ok (.goto 34, 3) := by decide +kernel
theorem dL_compare_424 : decode cL_compare 424 = .ok (.iinc 22 1, 3) := by decide +kernel
theorem dL_compare_427 : decode cL_compare 427 = .ok (.aload 10, 2) := by decide +kernel
theorem dL_compare_429 : decode cL_compare 429 = .ok (.iload 11, 2) := by decide +kernel
theorem dL_compare_431 : decode cL_compare 431 = .ok (.dup2, 1) := by decide +kernel
theorem dL_compare_432 : decode cL_compare 432 = .ok (.iaload, 1) := by decide +kernel
theorem dL_compare_433 : decode cL_compare 433 = .ok (.iconst 1, 1) := by decide +kernel
theorem dL_compare_434 : decode cL_compare 434 = .ok (.iadd, 1) := by decide +kernel
theorem dL_compare_435 : decode cL_compare 435 = .ok (.iastore, 1) := by decide +kernel
theorem dL_compare_436 : decode cL_compare 436 = .ok (.aload 7, 2) := by decide +kernel
theorem dL_compare_438 : decode cL_compare 438 = .ok (.iload 22, 2) := by decide +kernel
theorem dL_compare_440 : decode cL_compare 440 = .ok (.iconst 0, 1) := by decide +kernel
theorem dL_compare_441 : decode cL_compare 441 = .ok (.iastore, 1) := by decide +kernel
theorem dL_compare_442 : decode cL_compare 442 = .ok (.aload 8, 2) := by decide +kernel
theorem dL_compare_444 : decode cL_compare 444 = .ok (.iload 22, 2) := by decide +kernel
theorem dL_compare_446 : decode cL_compare 446 = .ok (.iload 16, 2) := by decide +kernel
theorem dL_compare_448 : decode cL_compare 448 = .ok (.iastore, 1) := by decide +kernel
theorem dL_compare_449 : decode cL_compare 449 = .ok (.aload 9, 2) := by decide +kernel
theorem dL_compare_451 : decode cL_compare 451 = .ok (.iload 22, 2) := by decide +kernel
theorem dL_compare_453 : decode cL_compare 453 = .ok (.iconst 1, 1) := by decide +kernel
theorem dL_compare_454 : decode cL_compare 454 = .ok (.iastore, 1) := by decide +kernel
theorem dL_compare_455 : decode cL_compare 455 = .ok (.bipush (-9), 2) := by decide +kernel
theorem dL_compare_457 : decode cL_compare 457 = .ok (.istore 17, 2) := by decide +kernel
theorem dL_compare_459 : decode cL_compare 459 = .ok (.iinc 16 1, 3) := by decide +kernel
theorem dL_compare_462 : decode cL_compare 462 = .ok (.goto (-383), 3) := by decide +kernel
theorem dL_compare_465 : decode cL_compare 465 = .ok (.return_, 1) := by decide +kernel
theorem dL_weak_0 : decode cL_weak 0 = .ok (.iconst 0, 1) := by decide +kernel
theorem dL_weak_1 : decode cL_weak 1 = .ok (.istore 4, 2) := by decide +kernel
theorem dL_weak_3 : decode cL_weak 3 = .ok (.iconst 0, 1) := by decide +kernel
theorem dL_weak_4 : decode cL_weak 4 = .ok (.istore 5, 2) := by decide +kernel
theorem dL_weak_6 : decode cL_weak 6 = .ok (.iconst 0, 1) := by decide +kernel
theorem dL_weak_7 : decode cL_weak 7 = .ok (.istore 6, 2) := by decide +kernel
theorem dL_weak_9 : decode cL_weak 9 = .ok (.iload 6, 2) := by decide +kernel
theorem dL_weak_11 : decode cL_weak 11 = .ok (.iload_n 2, 1) := by decide +kernel
theorem dL_weak_12 : decode cL_weak 12 = .ok (.if_icmp .ge 31, 3) := by decide +kernel
theorem dL_weak_15 : decode cL_weak 15 = .ok (.iload 4, 2) := by decide +kernel
theorem dL_weak_17 : decode cL_weak 17 = .ok (.aload_n 0, 1) := by decide +kernel
theorem dL_weak_18 : decode cL_weak 18 = .ok (.iload_n 1, 1) := by decide +kernel
theorem dL_weak_19 : decode cL_weak 19 = .ok (.iload 6, 2) := by decide +kernel
theorem dL_weak_21 : decode cL_weak 21 = .ok (.iadd, 1) := by decide +kernel
theorem dL_weak_22 : decode cL_weak 22 = .ok (.iaload, 1) := by decide +kernel
theorem dL_weak_23 : decode cL_weak 23 = .ok (.iadd, 1) := by decide +kernel
theorem dL_weak_24 : decode cL_weak 24 = .ok (.iload_n 3, 1) := by decide +kernel
theorem dL_weak_25 : decode cL_weak 25 = .ok (.irem, 1) := by decide +kernel
theorem dL_weak_26 : decode cL_weak 26 = .ok (.istore 4, 2) := by decide +kernel
theorem dL_weak_28 : decode cL_weak 28 = .ok (.iload 5, 2) := by decide +kernel
theorem dL_weak_30 : decode cL_weak 30 = .ok (.iload 4, 2) := by decide +kernel
theorem dL_weak_32 : decode cL_weak 32 = .ok (.iadd, 1) := by decide +kernel
theorem dL_weak_33 : decode cL_weak 33 = .ok (.iload_n 3, 1) := by decide +kernel
theorem dL_weak_34 : decode cL_weak 34 = .ok (.irem, 1) := by decide +kernel
theorem dL_weak_35 : decode cL_weak 35 = .ok (.istore 5, 2) := by decide +kernel
theorem dL_weak_37 : decode cL_weak 37 = .ok (.iinc 6 1, 3) := by decide +kernel
theorem dL_weak_40 : decode cL_weak 40 = .ok (.goto (-31), 3) := by decide +kernel
theorem dL_weak_43 : decode cL_weak 43 = .ok (.iload 5, 2) := by decide +kernel
theorem dL_weak_45 : decode cL_weak 45 = .ok (.iload_n 3, 1) := by decide +kernel
theorem dL_weak_46 : decode cL_weak 46 = .ok (.imul, 1) := by decide +kernel
theorem dL_weak_47 : decode cL_weak 47 = .ok (.iload 4, 2) := by decide +kernel
theorem dL_weak_49 : decode cL_weak 49 = .ok (.iadd, 1) := by decide +kernel
theorem dL_weak_50 : decode cL_weak 50 = .ok (.ireturn, 1) := by decide +kernel
theorem dL_strong_0 : decode cL_strong 0 = .ok (.lconst 0, 1) := by decide +kernel
theorem dL_strong_1 : decode cL_strong 1 = .ok (.lstore_n 3, 1) := by decide +kernel
theorem dL_strong_2 : decode cL_strong 2 = .ok (.lconst 1, 1) := by decide +kernel
theorem dL_strong_3 : decode cL_strong 3 = .ok (.lstore 5, 2) := by decide +kernel
theorem dL_strong_5 : decode cL_strong 5 = .ok (.iconst 0, 1) := by decide +kernel
theorem dL_strong_6 : decode cL_strong 6 = .ok (.istore 7, 2) := by decide +kernel
theorem dL_strong_8 : decode cL_strong 8 = .ok (.iload 7, 2) := by decide +kernel
theorem dL_strong_10 : decode cL_strong 10 = .ok (.iload_n 2, 1) := by decide +kernel
theorem dL_strong_11 : decode cL_strong 11 = .ok (.if_icmp .ge 32, 3) := by decide +kernel
theorem dL_strong_14 : decode cL_strong 14 = .ok (.lload_n 3, 1) := by decide +kernel
theorem dL_strong_15 : decode cL_strong 15 = .ok (.lload 5, 2) := by decide +kernel
theorem dL_strong_17 : decode cL_strong 17 = .ok (.aload_n 0, 1) := by decide +kernel
theorem dL_strong_18 : decode cL_strong 18 = .ok (.iload_n 1, 1) := by decide +kernel
theorem dL_strong_19 : decode cL_strong 19 = .ok (.iload 7, 2) := by decide +kernel
theorem dL_strong_21 : decode cL_strong 21 = .ok (.iadd, 1) := by decide +kernel
theorem dL_strong_22 : decode cL_strong 22 = .ok (.iaload, 1) := by decide +kernel
theorem dL_strong_23 : decode cL_strong 23 = .ok (.iconst 1, 1) := by decide +kernel
theorem dL_strong_24 : decode cL_strong 24 = .ok (.iadd, 1) := by decide +kernel
theorem dL_strong_25 : decode cL_strong 25 = .ok (.i2l, 1) := by decide +kernel
theorem dL_strong_26 : decode cL_strong 26 = .ok (.lmul, 1) := by decide +kernel
theorem dL_strong_27 : decode cL_strong 27 = .ok (.ladd, 1) := by decide +kernel
theorem dL_strong_28 : decode cL_strong 28 = .ok (.lstore_n 3, 1) := by decide +kernel
theorem dL_strong_29 : decode cL_strong 29 = .ok (.lload 5, 2) := by decide +kernel
theorem dL_strong_31 : decode cL_strong 31 = .ok (.ldc2_w 15, 3) := by decide +kernel
theorem dL_strong_34 : decode cL_strong 34 = .ok (.lmul, 1) := by decide +kernel
theorem dL_strong_35 : decode cL_strong 35 = .ok (.lstore 5, 2) := by decide +kernel
theorem dL_strong_37 : decode cL_strong 37 = .ok (.iinc 7 1, 3) := by decide +kernel
theorem dL_strong_40 : decode cL_strong 40 = .ok (.goto (-32), 3) := by decide +kernel
theorem dL_strong_43 : decode cL_strong 43 = .ok (.lload_n 3, 1) := by decide +kernel
theorem dL_strong_44 : decode cL_strong 44 = .ok (.lreturn, 1) := by decide +kernel
theorem dL_apply_0 : decode cL_apply 0 = .ok (.iconst 0, 1) := by decide +kernel
theorem dL_apply_1 : decode cL_apply 1 = .ok (.istore 10, 2) := by decide +kernel
theorem dL_apply_3 : decode cL_apply 3 = .ok (.bipush 16, 2) := by decide +kernel
theorem dL_apply_5 : decode cL_apply 5 = .ok (.iload 8, 2) := by decide +kernel
theorem dL_apply_7 : decode cL_apply 7 = .ok (.imul, 1) := by decide +kernel
theorem dL_apply_8 : decode cL_apply 8 = .ok (.istore 11, 2) := by decide +kernel
theorem dL_apply_10 : decode cL_apply 10 = .ok (.iload 11, 2) := by decide +kernel
theorem dL_apply_12 : decode cL_apply 12 = .ok (.bipush 16, 2) := by decide +kernel
theorem dL_apply_14 : decode cL_apply 14 = .ok (.iload 8, 2) := by decide +kernel
theorem dL_apply_16 : decode cL_apply 16 = .ok (.imul, 1) := by decide +kernel
theorem dL_apply_17 : decode cL_apply 17 = .ok (.aload 7, 2) := by decide +kernel
theorem dL_apply_19 : decode cL_apply 19 = .ok (.iload 8, 2) := by decide +kernel
theorem dL_apply_21 : decode cL_apply 21 = .ok (.iaload, 1) := by decide +kernel
theorem dL_apply_22 : decode cL_apply 22 = .ok (.iadd, 1) := by decide +kernel
theorem dL_apply_23 : decode cL_apply 23 = .ok (.if_icmp .ge 102, 3) := by decide +kernel
theorem dL_apply_26 : decode cL_apply 26 = .ok (.aload 4, 2) := by decide +kernel
theorem dL_apply_28 : decode cL_apply 28 = .ok (.iload 11, 2) := by decide +kernel
theorem dL_apply_30 : decode cL_apply 30 = .ok (.iaload, 1) := by decide +kernel
theorem dL_apply_31 : decode cL_apply 31 = .ok (.iconst 1, 1) := by decide +kernel
theorem dL_apply_32 : decode cL_apply 32 = .ok (.if_icmp .ne 20, 3) := by decide +kernel
theorem dL_apply_35 : decode cL_apply 35 = .ok (.aload 5, 2) := by decide +kernel
theorem dL_apply_37 : decode cL_apply 37 = .ok (.iload 11, 2) := by decide +kernel
theorem dL_apply_39 : decode cL_apply 39 = .ok (.iaload, 1) := by decide +kernel
theorem dL_apply_40 : decode cL_apply 40 = .ok (.aload 6, 2) := by decide +kernel
theorem dL_apply_42 : decode cL_apply 42 = .ok (.iload 11, 2) := by decide +kernel
theorem dL_apply_44 : decode cL_apply 44 = .ok (.iaload, 1) := by decide +kernel
theorem dL_apply_45 : decode cL_apply 45 = .ok (.iadd, 1) := by decide +kernel
theorem dL_apply_46 : decode cL_apply 46 = .ok (.iload_n 2, 1) := by decide +kernel
theorem dL_apply_47 : decode cL_apply 47 = .ok (.if_icmp .le 5, 3) := by decide +kernel
theorem dL_apply_50 : decode cL_apply 50 = .ok (.iconst (-1), 1) := by decide +kernel
theorem dL_apply_51 : decode cL_apply 51 = .ok (.ireturn, 1) := by decide +kernel
theorem dL_apply_52 : decode cL_apply 52 = .ok (.iconst 0, 1) := by decide +kernel
theorem dL_apply_53 : decode cL_apply 53 = .ok (.istore 12, 2) := by decide +kernel
theorem dL_apply_55 : decode cL_apply 55 = .ok (.iload 12, 2) := by decide +kernel
theorem dL_apply_57 : decode cL_apply 57 = .ok (.aload 6, 2) := by decide +kernel
theorem dL_apply_59 : decode cL_apply 59 = .ok (.iload 11, 2) := by decide +kernel
theorem dL_apply_61 : decode cL_apply 61 = .ok (.iaload, 1) := by decide +kernel
theorem dL_apply_62 : decode cL_apply 62 = .ok (.if_icmp .ge 57, 3) := by decide +kernel
theorem dL_apply_65 : decode cL_apply 65 = .ok (.aload 9, 2) := by decide +kernel
theorem dL_apply_67 : decode cL_apply 67 = .ok (.iload 10, 2) := by decide +kernel
theorem dL_apply_69 : decode cL_apply 69 = .ok (.aload 4, 2) := by decide +kernel
theorem dL_apply_71 : decode cL_apply 71 = .ok (.iload 11, 2) := by decide +kernel
theorem dL_apply_73 : decode cL_apply 73 = .ok (.iaload, 1) := by decide +kernel
theorem dL_apply_74 : decode cL_apply 74 = .ok (.iconst 1, 1) := by decide +kernel
theorem dL_apply_75 : decode cL_apply 75 = .ok (.if_icmp .ne 18, 3) := by decide +kernel
theorem dL_apply_78 : decode cL_apply 78 = .ok (.aload_n 0, 1) := by decide +kernel
theorem dL_apply_79 : decode cL_apply 79 = .ok (.iload_n 1, 1) := by decide +kernel
theorem dL_apply_80 : decode cL_apply 80 = .ok (.aload 5, 2) := by decide +kernel
theorem dL_apply_82 : decode cL_apply 82 = .ok (.iload 11, 2) := by decide +kernel
theorem dL_apply_84 : decode cL_apply 84 = .ok (.iaload, 1) := by decide +kernel
theorem dL_apply_85 : decode cL_apply 85 = .ok (.iadd, 1) := by decide +kernel
theorem dL_apply_86 : decode cL_apply 86 = .ok (.iload 12, 2) := by decide +kernel
theorem dL_apply_88 : decode cL_apply 88 = .ok (.iadd, 1) := by decide +kernel
theorem dL_apply_89 : decode cL_apply 89 = .ok (.iaload, 1) := by decide +kernel
theorem dL_apply_90 : decode cL_apply 90 = .ok (.goto 19, 3) := by decide +kernel
theorem dL_apply_93 : decode cL_apply 93 = .ok (.aload_n 3, 1) := by decide +kernel
theorem dL_apply_94 : decode cL_apply 94 = .ok (.bipush 16, 2) := by decide +kernel
theorem dL_apply_96 : decode cL_apply 96 = .ok (.iload 8, 2) := by decide +kernel
theorem dL_apply_98 : decode cL_apply 98 = .ok (.imul, 1) := by decide +kernel
theorem dL_apply_99 : decode cL_apply 99 = .ok (.aload 5, 2) := by decide +kernel
theorem dL_apply_101 : decode cL_apply 101 = .ok (.iload 11, 2) := by decide +kernel
theorem dL_apply_103 : decode cL_apply 103 = .ok (.iaload, 1) := by decide +kernel
theorem dL_apply_104 : decode cL_apply 104 = .ok (.iadd, 1) := by decide +kernel
theorem dL_apply_105 : decode cL_apply 105 = .ok (.iload 12, 2) := by decide +kernel
theorem dL_apply_107 : decode cL_apply 107 = .ok (.iadd, 1) := by decide +kernel
theorem dL_apply_108 : decode cL_apply 108 = .ok (.iaload, 1) := by decide +kernel
theorem dL_apply_109 : decode cL_apply 109 = .ok (.iastore, 1) := by decide +kernel
theorem dL_apply_110 : decode cL_apply 110 = .ok (.iinc 10 1, 3) := by decide +kernel
theorem dL_apply_113 : decode cL_apply 113 = .ok (.iinc 12 1, 3) := by decide +kernel
theorem dL_apply_116 : decode cL_apply 116 = .ok (.goto (-61), 3) := by decide +kernel
theorem dL_apply_119 : decode cL_apply 119 = .ok (.iinc 11 1, 3) := by decide +kernel
theorem dL_apply_122 : decode cL_apply 122 = .ok (.goto (-112), 3) := by decide +kernel
theorem dL_apply_125 : decode cL_apply 125 = .ok (.iload 10, 2) := by decide +kernel
theorem dL_apply_127 : decode cL_apply 127 = .ok (.ireturn, 1) := by decide +kernel
theorem dL_cost_0 : decode cL_cost 0 = .ok (.iconst 0, 1) := by decide +kernel
theorem dL_cost_1 : decode cL_cost 1 = .ok (.istore 4, 2) := by decide +kernel
theorem dL_cost_3 : decode cL_cost 3 = .ok (.bipush 16, 2) := by decide +kernel
theorem dL_cost_5 : decode cL_cost 5 = .ok (.iload_n 3, 1) := by decide +kernel
theorem dL_cost_6 : decode cL_cost 6 = .ok (.imul, 1) := by decide +kernel
theorem dL_cost_7 : decode cL_cost 7 = .ok (.istore 5, 2) := by decide +kernel
theorem dL_cost_9 : decode cL_cost 9 = .ok (.iload 5, 2) := by decide +kernel
theorem dL_cost_11 : decode cL_cost 11 = .ok (.bipush 16, 2) := by decide +kernel
theorem dL_cost_13 : decode cL_cost 13 = .ok (.iload_n 3, 1) := by decide +kernel
theorem dL_cost_14 : decode cL_cost 14 = .ok (.imul, 1) := by decide +kernel
theorem dL_cost_15 : decode cL_cost 15 = .ok (.aload_n 2, 1) := by decide +kernel
theorem dL_cost_16 : decode cL_cost 16 = .ok (.iload_n 3, 1) := by decide +kernel
theorem dL_cost_17 : decode cL_cost 17 = .ok (.iaload, 1) := by decide +kernel
theorem dL_cost_18 : decode cL_cost 18 = .ok (.iadd, 1) := by decide +kernel
theorem dL_cost_19 : decode cL_cost 19 = .ok (.if_icmp .ge 32, 3) := by decide +kernel
theorem dL_cost_22 : decode cL_cost 22 = .ok (.iload 4, 2) := by decide +kernel
theorem dL_cost_24 : decode cL_cost 24 = .ok (.aload_n 0, 1) := by decide +kernel
theorem dL_cost_25 : decode cL_cost 25 = .ok (.iload 5, 2) := by decide +kernel
theorem dL_cost_27 : decode cL_cost 27 = .ok (.iaload, 1) := by decide +kernel
theorem dL_cost_28 : decode cL_cost 28 = .ok (.iconst 1, 1) := by decide +kernel
theorem dL_cost_29 : decode cL_cost 29 = .ok (.if_icmp .ne 7, 3) := by decide +kernel
theorem dL_cost_32 : decode cL_cost 32 = .ok (.iconst 3, 1) := by decide +kernel
theorem dL_cost_33 : decode cL_cost 33 = .ok (.goto 9, 3) := by decide +kernel
theorem dL_cost_36 : decode cL_cost 36 = .ok (.iconst 1, 1) := by decide +kernel
theorem dL_cost_37 : decode cL_cost 37 = .ok (.aload_n 1, 1) := by decide +kernel
theorem dL_cost_38 : decode cL_cost 38 = .ok (.iload 5, 2) := by decide +kernel
theorem dL_cost_40 : decode cL_cost 40 = .ok (.iaload, 1) := by decide +kernel
theorem dL_cost_41 : decode cL_cost 41 = .ok (.iadd, 1) := by decide +kernel
theorem dL_cost_42 : decode cL_cost 42 = .ok (.iadd, 1) := by decide +kernel
theorem dL_cost_43 : decode cL_cost 43 = .ok (.istore 4, 2) := by decide +kernel
theorem dL_cost_45 : decode cL_cost 45 = .ok (.iinc 5 1, 3) := by decide +kernel
theorem dL_cost_48 : decode cL_cost 48 = .ok (.goto (-39), 3) := by decide +kernel
theorem dL_cost_51 : decode cL_cost 51 = .ok (.iload 4, 2) := by decide +kernel
theorem dL_cost_53 : decode cL_cost 53 = .ok (.ireturn, 1) := by decide +kernel
theorem dL_give_0 : decode cL_give 0 = .ok (.aload_n 1, 1) := by decide +kernel
theorem dL_give_1 : decode cL_give 1 = .ok (.iload_n 2, 1) := by decide +kernel
theorem dL_give_2 : decode cL_give 2 = .ok (.iload 5, 2) := by decide +kernel
theorem dL_give_4 : decode cL_give 4 = .ok (.iastore, 1) := by decide +kernel
theorem dL_give_5 : decode cL_give 5 = .ok (.iconst 0, 1) := by decide +kernel
theorem dL_give_6 : decode cL_give 6 = .ok (.istore 6, 2) := by decide +kernel
theorem dL_give_8 : decode cL_give 8 = .ok (.iload 6, 2) := by decide +kernel
theorem dL_give_10 : decode cL_give 10 = .ok (.iload 5, 2) := by decide +kernel
theorem dL_give_12 : decode cL_give 12 = .ok (.if_icmp .ge 25, 3) := by decide +kernel
theorem dL_give_15 : decode cL_give 15 = .ok (.aload_n 0, 1) := by decide +kernel
theorem dL_give_16 : decode cL_give 16 = .ok (.bipush 16, 2) := by decide +kernel
theorem dL_give_18 : decode cL_give 18 = .ok (.iload_n 2, 1) := by decide +kernel
theorem dL_give_19 : decode cL_give 19 = .ok (.imul, 1) := by decide +kernel
theorem dL_give_20 : decode cL_give 20 = .ok (.iload 6, 2) := by decide +kernel
theorem dL_give_22 : decode cL_give 22 = .ok (.iadd, 1) := by decide +kernel
theorem dL_give_23 : decode cL_give 23 = .ok (.aload_n 3, 1) := by decide +kernel
theorem dL_give_24 : decode cL_give 24 = .ok (.iload 4, 2) := by decide +kernel
theorem dL_give_26 : decode cL_give 26 = .ok (.iload 6, 2) := by decide +kernel
theorem dL_give_28 : decode cL_give 28 = .ok (.iadd, 1) := by decide +kernel
theorem dL_give_29 : decode cL_give 29 = .ok (.iaload, 1) := by decide +kernel
theorem dL_give_30 : decode cL_give 30 = .ok (.iastore, 1) := by decide +kernel
theorem dL_give_31 : decode cL_give 31 = .ok (.iinc 6 1, 3) := by decide +kernel
theorem dL_give_34 : decode cL_give 34 = .ok (.goto (-26), 3) := by decide +kernel
theorem dL_give_37 : decode cL_give 37 = .ok (.return_, 1) := by decide +kernel
theorem dL_edits_0 : decode cL_edits 0 = .ok (.iload_n 1, 1) := by decide +kernel
theorem dL_edits_1 : decode cL_edits 1 = .ok (.ifCond .ne 16, 3) := by decide +kernel
theorem dL_edits_4 : decode cL_edits 4 = .ok (.aload_n 0, 1) := by decide +kernel
theorem dL_edits_5 : decode cL_edits 5 = .ok (.iload_n 2, 1) := by decide +kernel
theorem dL_edits_6 : decode cL_edits 6 = .ok (.iload_n 3, 1) := by decide +kernel
theorem dL_edits_7 : decode cL_edits 7 = .ok (.iload 4, 2) := by decide +kernel
theorem dL_edits_9 : decode cL_edits 9 = .ok (.iload 5, 2) := by decide +kernel
theorem dL_edits_11 : decode cL_edits 11 = .ok (.invokevirtual 17, 3) := by decide +kernel
theorem dL_edits_14 : decode cL_edits 14 = .ok (.goto 27, 3) := by decide +kernel
theorem dL_edits_17 : decode cL_edits 17 = .ok (.iload_n 1, 1) := by decide +kernel
theorem dL_edits_18 : decode cL_edits 18 = .ok (.iconst 1, 1) := by decide +kernel
theorem dL_edits_19 : decode cL_edits 19 = .ok (.if_icmp .ne 14, 3) := by decide +kernel
theorem dL_edits_22 : decode cL_edits 22 = .ok (.aload_n 0, 1) := by decide +kernel
theorem dL_edits_23 : decode cL_edits 23 = .ok (.iload_n 2, 1) := by decide +kernel
theorem dL_edits_24 : decode cL_edits 24 = .ok (.iload_n 3, 1) := by decide +kernel
theorem dL_edits_25 : decode cL_edits 25 = .ok (.iload 4, 2) := by decide +kernel
theorem dL_edits_27 : decode cL_edits 27 = .ok (.invokevirtual 23, 3) := by decide +kernel
theorem dL_edits_30 : decode cL_edits 30 = .ok (.goto 11, 3) := by decide +kernel
theorem dL_edits_33 : decode cL_edits 33 = .ok (.aload_n 0, 1) := by decide +kernel
theorem dL_edits_34 : decode cL_edits 34 = .ok (.iload_n 2, 1) := by decide +kernel
theorem dL_edits_35 : decode cL_edits 35 = .ok (.iload_n 3, 1) := by decide +kernel
theorem dL_edits_36 : decode cL_edits 36 = .ok (.iload 4, 2) := by decide +kernel
theorem dL_edits_38 : decode cL_edits 38 = .ok (.invokevirtual 27, 3) := by decide +kernel
theorem dL_edits_41 : decode cL_edits 41 = .ok (.ireturn, 1) := by decide +kernel
theorem dL_edits_42 : decode cL_edits 42 = .ok (.astore 6, 2) := by decide +kernel
theorem dL_edits_44 : decode cL_edits 44 = .ok (.bipush (-101), 2) := by decide +kernel
theorem dL_edits_46 : decode cL_edits 46 = .ok (.ireturn, 1) := by decide +kernel
theorem dL_edits_47 : decode cL_edits 47 = .ok (.astore 6, 2) := by decide +kernel
theorem dL_edits_49 : decode cL_edits 49 = .ok (.bipush (-102), 2) := by decide +kernel
theorem dL_edits_51 : decode cL_edits 51 = .ok (.ireturn, 1) := by decide +kernel
theorem dL_edits_52 : decode cL_edits 52 = .ok (.astore 6, 2) := by decide +kernel
theorem dL_edits_54 : decode cL_edits 54 = .ok (.bipush (-103), 2) := by decide +kernel
theorem dL_edits_56 : decode cL_edits 56 = .ok (.ireturn, 1) := by decide +kernel
theorem dL_copied_0 : decode cL_copied 0 = .ok (.aload_n 0, 1) := by decide +kernel
theorem dL_copied_1 : decode cL_copied 1 = .ok (.iload_n 1, 1) := by decide +kernel
theorem dL_copied_2 : decode cL_copied 2 = .ok (.iload_n 2, 1) := by decide +kernel
theorem dL_copied_3 : decode cL_copied 3 = .ok (.invokevirtual 36, 3) := by decide +kernel
theorem dL_copied_6 : decode cL_copied 6 = .ok (.iconst 0, 1) := by decide +kernel
theorem dL_copied_7 : decode cL_copied 7 = .ok (.ireturn, 1) := by decide +kernel
theorem dL_copied_8 : decode cL_copied 8 = .ok (.astore_n 3, 1) := by decide +kernel
theorem dL_copied_9 : decode cL_copied 9 = .ok (.bipush (-101), 2) := by decide +kernel
theorem dL_copied_11 : decode cL_copied 11 = .ok (.ireturn, 1) := by decide +kernel
theorem dL_tells_0 : decode cL_tells 0 = .ok (.iload_n 1, 1) := by decide +kernel
theorem dL_tells_1 : decode cL_tells 1 = .ok (.ifCond .ne 11, 3) := by decide +kernel
theorem dL_tells_4 : decode cL_tells 4 = .ok (.aload_n 0, 1) := by decide +kernel
theorem dL_tells_5 : decode cL_tells 5 = .ok (.iload_n 2, 1) := by decide +kernel
theorem dL_tells_6 : decode cL_tells 6 = .ok (.invokevirtual 40, 3) := by decide +kernel
theorem dL_tells_9 : decode cL_tells 9 = .ok (.goto 175, 3) := by decide +kernel
theorem dL_tells_12 : decode cL_tells 12 = .ok (.iload_n 1, 1) := by decide +kernel
theorem dL_tells_13 : decode cL_tells 13 = .ok (.iconst 1, 1) := by decide +kernel
theorem dL_tells_14 : decode cL_tells 14 = .ok (.if_icmp .ne 12, 3) := by decide +kernel
theorem dL_tells_17 : decode cL_tells 17 = .ok (.aload_n 0, 1) := by decide +kernel
theorem dL_tells_18 : decode cL_tells 18 = .ok (.iload_n 2, 1) := by decide +kernel
theorem dL_tells_19 : decode cL_tells 19 = .ok (.iload_n 3, 1) := by decide +kernel
theorem dL_tells_20 : decode cL_tells 20 = .ok (.invokevirtual 44, 3) := by decide +kernel
theorem dL_tells_23 : decode cL_tells 23 = .ok (.goto 161, 3) := by decide +kernel
theorem dL_tells_26 : decode cL_tells 26 = .ok (.iload_n 1, 1) := by decide +kernel
theorem dL_tells_27 : decode cL_tells 27 = .ok (.iconst 2, 1) := by decide +kernel
theorem dL_tells_28 : decode cL_tells 28 = .ok (.if_icmp .ne 11, 3) := by decide +kernel
theorem dL_tells_31 : decode cL_tells 31 = .ok (.aload_n 0, 1) := by decide +kernel
theorem dL_tells_32 : decode cL_tells 32 = .ok (.iload_n 2, 1) := by decide +kernel
theorem dL_tells_33 : decode cL_tells 33 = .ok (.invokevirtual 48, 3) := by decide +kernel
theorem dL_tells_36 : decode cL_tells 36 = .ok (.goto 148, 3) := by decide +kernel
theorem dL_tells_39 : decode cL_tells 39 = .ok (.iload_n 1, 1) := by decide +kernel
theorem dL_tells_40 : decode cL_tells 40 = .ok (.iconst 3, 1) := by decide +kernel
theorem dL_tells_41 : decode cL_tells 41 = .ok (.if_icmp .ne 12, 3) := by decide +kernel
theorem dL_tells_44 : decode cL_tells 44 = .ok (.aload_n 0, 1) := by decide +kernel
theorem dL_tells_45 : decode cL_tells 45 = .ok (.iload_n 2, 1) := by decide +kernel
theorem dL_tells_46 : decode cL_tells 46 = .ok (.iload_n 3, 1) := by decide +kernel
theorem dL_tells_47 : decode cL_tells 47 = .ok (.invokevirtual 51, 3) := by decide +kernel
theorem dL_tells_50 : decode cL_tells 50 = .ok (.goto 134, 3) := by decide +kernel
theorem dL_tells_53 : decode cL_tells 53 = .ok (.iload_n 1, 1) := by decide +kernel
theorem dL_tells_54 : decode cL_tells 54 = .ok (.iconst 4, 1) := by decide +kernel
theorem dL_tells_55 : decode cL_tells 55 = .ok (.if_icmp .ne 11, 3) := by decide +kernel
theorem dL_tells_58 : decode cL_tells 58 = .ok (.aload_n 0, 1) := by decide +kernel
theorem dL_tells_59 : decode cL_tells 59 = .ok (.iload_n 2, 1) := by decide +kernel
theorem dL_tells_60 : decode cL_tells 60 = .ok (.invokevirtual 53, 3) := by decide +kernel
theorem dL_tells_63 : decode cL_tells 63 = .ok (.goto 121, 3) := by decide +kernel
theorem dL_tells_66 : decode cL_tells 66 = .ok (.iload_n 1, 1) := by decide +kernel
theorem dL_tells_67 : decode cL_tells 67 = .ok (.iconst 5, 1) := by decide +kernel
theorem dL_tells_68 : decode cL_tells 68 = .ok (.if_icmp .ne 12, 3) := by decide +kernel
theorem dL_tells_71 : decode cL_tells 71 = .ok (.aload_n 0, 1) := by decide +kernel
theorem dL_tells_72 : decode cL_tells 72 = .ok (.iload_n 2, 1) := by decide +kernel
theorem dL_tells_73 : decode cL_tells 73 = .ok (.iload_n 3, 1) := by decide +kernel
theorem dL_tells_74 : decode cL_tells 74 = .ok (.invokevirtual 56, 3) := by decide +kernel
theorem dL_tells_77 : decode cL_tells 77 = .ok (.goto 107, 3) := by decide +kernel
theorem dL_tells_80 : decode cL_tells 80 = .ok (.iload_n 1, 1) := by decide +kernel
theorem dL_tells_81 : decode cL_tells 81 = .ok (.bipush 6, 2) := by decide +kernel
theorem dL_tells_83 : decode cL_tells 83 = .ok (.if_icmp .ne 12, 3) := by decide +kernel
theorem dL_tells_86 : decode cL_tells 86 = .ok (.aload_n 0, 1) := by decide +kernel
theorem dL_tells_87 : decode cL_tells 87 = .ok (.iload_n 2, 1) := by decide +kernel
theorem dL_tells_88 : decode cL_tells 88 = .ok (.iload_n 3, 1) := by decide +kernel
theorem dL_tells_89 : decode cL_tells 89 = .ok (.invokevirtual 59, 3) := by decide +kernel
theorem dL_tells_92 : decode cL_tells 92 = .ok (.goto 92, 3) := by decide +kernel
theorem dL_tells_95 : decode cL_tells 95 = .ok (.iload_n 1, 1) := by decide +kernel
theorem dL_tells_96 : decode cL_tells 96 = .ok (.bipush 7, 2) := by decide +kernel
theorem dL_tells_98 : decode cL_tells 98 = .ok (.if_icmp .ne 11, 3) := by decide +kernel
theorem dL_tells_101 : decode cL_tells 101 = .ok (.aload_n 0, 1) := by decide +kernel
theorem dL_tells_102 : decode cL_tells 102 = .ok (.iload_n 2, 1) := by decide +kernel
theorem dL_tells_103 : decode cL_tells 103 = .ok (.invokevirtual 62, 3) := by decide +kernel
theorem dL_tells_106 : decode cL_tells 106 = .ok (.goto 78, 3) := by decide +kernel
theorem dL_tells_109 : decode cL_tells 109 = .ok (.iload_n 1, 1) := by decide +kernel
theorem dL_tells_110 : decode cL_tells 110 = .ok (.bipush 8, 2) := by decide +kernel
theorem dL_tells_112 : decode cL_tells 112 = .ok (.if_icmp .ne 11, 3) := by decide +kernel
theorem dL_tells_115 : decode cL_tells 115 = .ok (.aload_n 0, 1) := by decide +kernel
theorem dL_tells_116 : decode cL_tells 116 = .ok (.iload_n 2, 1) := by decide +kernel
theorem dL_tells_117 : decode cL_tells 117 = .ok (.invokevirtual 65, 3) := by decide +kernel
theorem dL_tells_120 : decode cL_tells 120 = .ok (.goto 64, 3) := by decide +kernel
theorem dL_tells_123 : decode cL_tells 123 = .ok (.iload_n 1, 1) := by decide +kernel
theorem dL_tells_124 : decode cL_tells 124 = .ok (.bipush 9, 2) := by decide +kernel
theorem dL_tells_126 : decode cL_tells 126 = .ok (.if_icmp .ne 11, 3) := by decide +kernel
theorem dL_tells_129 : decode cL_tells 129 = .ok (.aload_n 0, 1) := by decide +kernel
theorem dL_tells_130 : decode cL_tells 130 = .ok (.iload_n 2, 1) := by decide +kernel
theorem dL_tells_131 : decode cL_tells 131 = .ok (.invokevirtual 68, 3) := by decide +kernel
theorem dL_tells_134 : decode cL_tells 134 = .ok (.goto 50, 3) := by decide +kernel
theorem dL_tells_137 : decode cL_tells 137 = .ok (.iload_n 1, 1) := by decide +kernel
theorem dL_tells_138 : decode cL_tells 138 = .ok (.bipush 10, 2) := by decide +kernel
theorem dL_tells_140 : decode cL_tells 140 = .ok (.if_icmp .ne 11, 3) := by decide +kernel
theorem dL_tells_143 : decode cL_tells 143 = .ok (.aload_n 0, 1) := by decide +kernel
theorem dL_tells_144 : decode cL_tells 144 = .ok (.iload_n 2, 1) := by decide +kernel
theorem dL_tells_145 : decode cL_tells 145 = .ok (.invokevirtual 71, 3) := by decide +kernel
theorem dL_tells_148 : decode cL_tells 148 = .ok (.goto 36, 3) := by decide +kernel
theorem dL_tells_151 : decode cL_tells 151 = .ok (.iload_n 1, 1) := by decide +kernel
theorem dL_tells_152 : decode cL_tells 152 = .ok (.bipush 11, 2) := by decide +kernel
theorem dL_tells_154 : decode cL_tells 154 = .ok (.if_icmp .ne 11, 3) := by decide +kernel
theorem dL_tells_157 : decode cL_tells 157 = .ok (.aload_n 0, 1) := by decide +kernel
theorem dL_tells_158 : decode cL_tells 158 = .ok (.iload_n 2, 1) := by decide +kernel
theorem dL_tells_159 : decode cL_tells 159 = .ok (.invokevirtual 74, 3) := by decide +kernel
theorem dL_tells_162 : decode cL_tells 162 = .ok (.goto 22, 3) := by decide +kernel
theorem dL_tells_165 : decode cL_tells 165 = .ok (.iload_n 1, 1) := by decide +kernel
theorem dL_tells_166 : decode cL_tells 166 = .ok (.bipush 12, 2) := by decide +kernel
theorem dL_tells_168 : decode cL_tells 168 = .ok (.if_icmp .ne 11, 3) := by decide +kernel
theorem dL_tells_171 : decode cL_tells 171 = .ok (.aload_n 0, 1) := by decide +kernel
theorem dL_tells_172 : decode cL_tells 172 = .ok (.iload_n 2, 1) := by decide +kernel
theorem dL_tells_173 : decode cL_tells 173 = .ok (.invokevirtual 77, 3) := by decide +kernel
theorem dL_tells_176 : decode cL_tells 176 = .ok (.goto 8, 3) := by decide +kernel
theorem dL_tells_179 : decode cL_tells 179 = .ok (.aload_n 0, 1) := by decide +kernel
theorem dL_tells_180 : decode cL_tells 180 = .ok (.iload_n 2, 1) := by decide +kernel
theorem dL_tells_181 : decode cL_tells 181 = .ok (.invokevirtual 80, 3) := by decide +kernel
theorem dL_tells_184 : decode cL_tells 184 = .ok (.ireturn, 1) := by decide +kernel
theorem dL_tells_185 : decode cL_tells 185 = .ok (.astore 4, 2) := by decide +kernel
theorem dL_tells_187 : decode cL_tells 187 = .ok (.bipush (-101), 2) := by decide +kernel
theorem dL_tells_189 : decode cL_tells 189 = .ok (.ireturn, 1) := by decide +kernel
theorem dL_strongOf_0 : decode cL_strongOf 0 = .ok (.aload_n 0, 1) := by decide +kernel
theorem dL_strongOf_1 : decode cL_strongOf 1 = .ok (.iload_n 1, 1) := by decide +kernel
theorem dL_strongOf_2 : decode cL_strongOf 2 = .ok (.iload_n 2, 1) := by decide +kernel
theorem dL_strongOf_3 : decode cL_strongOf 3 = .ok (.invokevirtual 83, 3) := by decide +kernel
theorem dL_strongOf_6 : decode cL_strongOf 6 = .ok (.lreturn, 1) := by decide +kernel
theorem dL_strongOf_7 : decode cL_strongOf 7 = .ok (.astore_n 3, 1) := by decide +kernel
theorem dL_strongOf_8 : decode cL_strongOf 8 = .ok (.ldc2_w 87, 3) := by decide +kernel
theorem dL_strongOf_11 : decode cL_strongOf 11 = .ok (.lreturn, 1) := by decide +kernel
theorem dL_copies_0 : decode cL_copies 0 = .ok (.aload_n 0, 1) := by decide +kernel
theorem dL_copies_1 : decode cL_copies 1 = .ok (.iload_n 1, 1) := by decide +kernel
theorem dL_copies_2 : decode cL_copies 2 = .ok (.iload_n 2, 1) := by decide +kernel
theorem dL_copies_3 : decode cL_copies 3 = .ok (.invokevirtual 89, 3) := by decide +kernel
theorem dL_copies_6 : decode cL_copies 6 = .ok (.ifCond .eq 7, 3) := by decide +kernel
theorem dL_copies_9 : decode cL_copies 9 = .ok (.iconst 1, 1) := by decide +kernel
theorem dL_copies_10 : decode cL_copies 10 = .ok (.goto 4, 3) := by decide +kernel
theorem dL_copies_13 : decode cL_copies 13 = .ok (.iconst 0, 1) := by decide +kernel
theorem dL_copies_14 : decode cL_copies 14 = .ok (.ireturn, 1) := by decide +kernel
theorem dL_copies_15 : decode cL_copies 15 = .ok (.astore_n 3, 1) := by decide +kernel
theorem dL_copies_16 : decode cL_copies 16 = .ok (.bipush (-101), 2) := by decide +kernel
theorem dL_copies_18 : decode cL_copies 18 = .ok (.ireturn, 1) := by decide +kernel
theorem dL_signs_0 : decode cL_signs 0 = .ok (.aload_n 0, 1) := by decide +kernel
theorem dL_signs_1 : decode cL_signs 1 = .ok (.iload_n 1, 1) := by decide +kernel
theorem dL_signs_2 : decode cL_signs 2 = .ok (.iload_n 2, 1) := by decide +kernel
theorem dL_signs_3 : decode cL_signs 3 = .ok (.iload_n 3, 1) := by decide +kernel
theorem dL_signs_4 : decode cL_signs 4 = .ok (.iload 4, 2) := by decide +kernel
theorem dL_signs_6 : decode cL_signs 6 = .ok (.invokevirtual 93, 3) := by decide +kernel
theorem dL_signs_9 : decode cL_signs 9 = .ok (.ireturn, 1) := by decide +kernel
theorem dL_signs_10 : decode cL_signs 10 = .ok (.astore 5, 2) := by decide +kernel
theorem dL_signs_12 : decode cL_signs 12 = .ok (.bipush (-101), 2) := by decide +kernel
theorem dL_signs_14 : decode cL_signs 14 = .ok (.ireturn, 1) := by decide +kernel
theorem dL_signs_15 : decode cL_signs 15 = .ok (.astore 5, 2) := by decide +kernel
theorem dL_signs_17 : decode cL_signs 17 = .ok (.bipush (-102), 2) := by decide +kernel
theorem dL_signs_19 : decode cL_signs 19 = .ok (.ireturn, 1) := by decide +kernel
theorem dL_works_0 : decode cL_works 0 = .ok (.iload_n 1, 1) := by decide +kernel
theorem dL_works_1 : decode cL_works 1 = .ok (.ifCond .ne 14, 3) := by decide +kernel
theorem dL_works_4 : decode cL_works 4 = .ok (.aload_n 0, 1) := by decide +kernel
theorem dL_works_5 : decode cL_works 5 = .ok (.iload_n 2, 1) := by decide +kernel
theorem dL_works_6 : decode cL_works 6 = .ok (.iload_n 3, 1) := by decide +kernel
theorem dL_works_7 : decode cL_works 7 = .ok (.iload 4, 2) := by decide +kernel
theorem dL_works_9 : decode cL_works 9 = .ok (.invokevirtual 96, 3) := by decide +kernel
theorem dL_works_12 : decode cL_works 12 = .ok (.goto 51, 3) := by decide +kernel
theorem dL_works_15 : decode cL_works 15 = .ok (.iload_n 1, 1) := by decide +kernel
theorem dL_works_16 : decode cL_works 16 = .ok (.iconst 1, 1) := by decide +kernel
theorem dL_works_17 : decode cL_works 17 = .ok (.if_icmp .ne 14, 3) := by decide +kernel
theorem dL_works_20 : decode cL_works 20 = .ok (.aload_n 0, 1) := by decide +kernel
theorem dL_works_21 : decode cL_works 21 = .ok (.iload_n 2, 1) := by decide +kernel
theorem dL_works_22 : decode cL_works 22 = .ok (.iload_n 3, 1) := by decide +kernel
theorem dL_works_23 : decode cL_works 23 = .ok (.iload 4, 2) := by decide +kernel
theorem dL_works_25 : decode cL_works 25 = .ok (.invokevirtual 99, 3) := by decide +kernel
theorem dL_works_28 : decode cL_works 28 = .ok (.goto 35, 3) := by decide +kernel
theorem dL_works_31 : decode cL_works 31 = .ok (.iload_n 1, 1) := by decide +kernel
theorem dL_works_32 : decode cL_works 32 = .ok (.iconst 2, 1) := by decide +kernel
theorem dL_works_33 : decode cL_works 33 = .ok (.if_icmp .ne 11, 3) := by decide +kernel
theorem dL_works_36 : decode cL_works 36 = .ok (.aload_n 0, 1) := by decide +kernel
theorem dL_works_37 : decode cL_works 37 = .ok (.iload_n 2, 1) := by decide +kernel
theorem dL_works_38 : decode cL_works 38 = .ok (.invokevirtual 102, 3) := by decide +kernel
theorem dL_works_41 : decode cL_works 41 = .ok (.goto 22, 3) := by decide +kernel
theorem dL_works_44 : decode cL_works 44 = .ok (.iload_n 1, 1) := by decide +kernel
theorem dL_works_45 : decode cL_works 45 = .ok (.iconst 3, 1) := by decide +kernel
theorem dL_works_46 : decode cL_works 46 = .ok (.if_icmp .ne 12, 3) := by decide +kernel
theorem dL_works_49 : decode cL_works 49 = .ok (.aload_n 0, 1) := by decide +kernel
theorem dL_works_50 : decode cL_works 50 = .ok (.iload_n 2, 1) := by decide +kernel
theorem dL_works_51 : decode cL_works 51 = .ok (.iload_n 3, 1) := by decide +kernel
theorem dL_works_52 : decode cL_works 52 = .ok (.invokevirtual 105, 3) := by decide +kernel
theorem dL_works_55 : decode cL_works 55 = .ok (.goto 8, 3) := by decide +kernel
theorem dL_works_58 : decode cL_works 58 = .ok (.aload_n 0, 1) := by decide +kernel
theorem dL_works_59 : decode cL_works 59 = .ok (.iload_n 2, 1) := by decide +kernel
theorem dL_works_60 : decode cL_works 60 = .ok (.invokevirtual 108, 3) := by decide +kernel
theorem dL_works_63 : decode cL_works 63 = .ok (.ireturn, 1) := by decide +kernel
theorem dL_works_64 : decode cL_works 64 = .ok (.astore 5, 2) := by decide +kernel
theorem dL_works_66 : decode cL_works 66 = .ok (.bipush (-101), 2) := by decide +kernel
theorem dL_works_68 : decode cL_works 68 = .ok (.ireturn, 1) := by decide +kernel
theorem dL_works_69 : decode cL_works 69 = .ok (.astore 5, 2) := by decide +kernel
theorem dL_works_71 : decode cL_works 71 = .ok (.bipush (-102), 2) := by decide +kernel
theorem dL_works_73 : decode cL_works 73 = .ok (.ireturn, 1) := by decide +kernel
theorem dL_keeps_0 : decode cL_keeps 0 = .ok (.aload_n 0, 1) := by decide +kernel
theorem dL_keeps_1 : decode cL_keeps 1 = .ok (.iload_n 1, 1) := by decide +kernel
theorem dL_keeps_2 : decode cL_keeps 2 = .ok (.iload_n 2, 1) := by decide +kernel
theorem dL_keeps_3 : decode cL_keeps 3 = .ok (.iload_n 3, 1) := by decide +kernel
theorem dL_keeps_4 : decode cL_keeps 4 = .ok (.invokevirtual 111, 3) := by decide +kernel
theorem dL_keeps_7 : decode cL_keeps 7 = .ok (.ireturn, 1) := by decide +kernel
theorem dL_keeps_8 : decode cL_keeps 8 = .ok (.astore 4, 2) := by decide +kernel
theorem dL_keeps_10 : decode cL_keeps 10 = .ok (.bipush (-101), 2) := by decide +kernel
theorem dL_keeps_12 : decode cL_keeps 12 = .ok (.ireturn, 1) := by decide +kernel
theorem dL_keeps_13 : decode cL_keeps 13 = .ok (.astore 4, 2) := by decide +kernel
theorem dL_keeps_15 : decode cL_keeps 15 = .ok (.bipush (-102), 2) := by decide +kernel
theorem dL_keeps_17 : decode cL_keeps 17 = .ok (.ireturn, 1) := by decide +kernel
theorem dL_keeps_18 : decode cL_keeps 18 = .ok (.astore 4, 2) := by decide +kernel
theorem dL_keeps_20 : decode cL_keeps 20 = .ok (.bipush (-103), 2) := by decide +kernel
theorem dL_keeps_22 : decode cL_keeps 22 = .ok (.ireturn, 1) := by decide +kernel
theorem dL_replaced_0 : decode cL_replaced 0 = .ok (.aload_n 0, 1) := by decide +kernel
theorem dL_replaced_1 : decode cL_replaced 1 = .ok (.iload_n 1, 1) := by decide +kernel
theorem dL_replaced_2 : decode cL_replaced 2 = .ok (.iload_n 2, 1) := by decide +kernel
theorem dL_replaced_3 : decode cL_replaced 3 = .ok (.invokevirtual 114, 3) := by decide +kernel
theorem dL_replaced_6 : decode cL_replaced 6 = .ok (.iconst 0, 1) := by decide +kernel
theorem dL_replaced_7 : decode cL_replaced 7 = .ok (.ireturn, 1) := by decide +kernel
theorem dL_replaced_8 : decode cL_replaced 8 = .ok (.astore_n 3, 1) := by decide +kernel
theorem dL_replaced_9 : decode cL_replaced 9 = .ok (.bipush (-101), 2) := by decide +kernel
theorem dL_replaced_11 : decode cL_replaced 11 = .ok (.ireturn, 1) := by decide +kernel
theorem dL_cut_0 : decode cL_cut 0 = .ok (.aload_n 0, 1) := by decide +kernel
theorem dL_cut_1 : decode cL_cut 1 = .ok (.iload_n 1, 1) := by decide +kernel
theorem dL_cut_2 : decode cL_cut 2 = .ok (.iload_n 2, 1) := by decide +kernel
theorem dL_cut_3 : decode cL_cut 3 = .ok (.iload_n 3, 1) := by decide +kernel
theorem dL_cut_4 : decode cL_cut 4 = .ok (.invokevirtual 117, 3) := by decide +kernel
theorem dL_cut_7 : decode cL_cut 7 = .ok (.iconst 0, 1) := by decide +kernel
theorem dL_cut_8 : decode cL_cut 8 = .ok (.ireturn, 1) := by decide +kernel
theorem dL_cut_9 : decode cL_cut 9 = .ok (.astore 4, 2) := by decide +kernel
theorem dL_cut_11 : decode cL_cut 11 = .ok (.bipush (-101), 2) := by decide +kernel
theorem dL_cut_13 : decode cL_cut 13 = .ok (.ireturn, 1) := by decide +kernel
theorem dL_papers_0 : decode cL_papers 0 = .ok (.iload_n 1, 1) := by decide +kernel
theorem dL_papers_1 : decode cL_papers 1 = .ok (.ifCond .ne 11, 3) := by decide +kernel
theorem dL_papers_4 : decode cL_papers 4 = .ok (.aload_n 0, 1) := by decide +kernel
theorem dL_papers_5 : decode cL_papers 5 = .ok (.iload_n 2, 1) := by decide +kernel
theorem dL_papers_6 : decode cL_papers 6 = .ok (.invokevirtual 121, 3) := by decide +kernel
theorem dL_papers_9 : decode cL_papers 9 = .ok (.goto 50, 3) := by decide +kernel
theorem dL_papers_12 : decode cL_papers 12 = .ok (.iload_n 1, 1) := by decide +kernel
theorem dL_papers_13 : decode cL_papers 13 = .ok (.iconst 1, 1) := by decide +kernel
theorem dL_papers_14 : decode cL_papers 14 = .ok (.if_icmp .ne 12, 3) := by decide +kernel
theorem dL_papers_17 : decode cL_papers 17 = .ok (.aload_n 0, 1) := by decide +kernel
theorem dL_papers_18 : decode cL_papers 18 = .ok (.iload_n 2, 1) := by decide +kernel
theorem dL_papers_19 : decode cL_papers 19 = .ok (.iload_n 3, 1) := by decide +kernel
theorem dL_papers_20 : decode cL_papers 20 = .ok (.invokevirtual 124, 3) := by decide +kernel
theorem dL_papers_23 : decode cL_papers 23 = .ok (.goto 36, 3) := by decide +kernel
theorem dL_papers_26 : decode cL_papers 26 = .ok (.iload_n 1, 1) := by decide +kernel
theorem dL_papers_27 : decode cL_papers 27 = .ok (.iconst 2, 1) := by decide +kernel
theorem dL_papers_28 : decode cL_papers 28 = .ok (.if_icmp .ne 11, 3) := by decide +kernel
theorem dL_papers_31 : decode cL_papers 31 = .ok (.aload_n 0, 1) := by decide +kernel
theorem dL_papers_32 : decode cL_papers 32 = .ok (.iload_n 2, 1) := by decide +kernel
theorem dL_papers_33 : decode cL_papers 33 = .ok (.invokevirtual 127, 3) := by decide +kernel
theorem dL_papers_36 : decode cL_papers 36 = .ok (.goto 23, 3) := by decide +kernel
theorem dL_papers_39 : decode cL_papers 39 = .ok (.iload_n 1, 1) := by decide +kernel
theorem dL_papers_40 : decode cL_papers 40 = .ok (.iconst 3, 1) := by decide +kernel
theorem dL_papers_41 : decode cL_papers 41 = .ok (.if_icmp .ne 12, 3) := by decide +kernel
theorem dL_papers_44 : decode cL_papers 44 = .ok (.aload_n 0, 1) := by decide +kernel
theorem dL_papers_45 : decode cL_papers 45 = .ok (.iload_n 2, 1) := by decide +kernel
theorem dL_papers_46 : decode cL_papers 46 = .ok (.iload_n 3, 1) := by decide +kernel
theorem dL_papers_47 : decode cL_papers 47 = .ok (.invokevirtual 130, 3) := by decide +kernel
theorem dL_papers_50 : decode cL_papers 50 = .ok (.goto 9, 3) := by decide +kernel
theorem dL_papers_53 : decode cL_papers 53 = .ok (.aload_n 0, 1) := by decide +kernel
theorem dL_papers_54 : decode cL_papers 54 = .ok (.iload_n 2, 1) := by decide +kernel
theorem dL_papers_55 : decode cL_papers 55 = .ok (.iload_n 3, 1) := by decide +kernel
theorem dL_papers_56 : decode cL_papers 56 = .ok (.invokevirtual 133, 3) := by decide +kernel
theorem dL_papers_59 : decode cL_papers 59 = .ok (.ireturn, 1) := by decide +kernel
theorem dL_papers_60 : decode cL_papers 60 = .ok (.astore 4, 2) := by decide +kernel
theorem dL_papers_62 : decode cL_papers 62 = .ok (.bipush (-101), 2) := by decide +kernel
theorem dL_papers_64 : decode cL_papers 64 = .ok (.ireturn, 1) := by decide +kernel
theorem dL_value_0 : decode cL_value 0 = .ok (.iload_n 0, 1) := by decide +kernel
theorem dL_value_1 : decode cL_value 1 = .ok (.bipush 9, 2) := by decide +kernel
theorem dL_value_3 : decode cL_value 3 = .ok (.invokestatic 136, 3) := by decide +kernel
theorem dL_value_6 : decode cL_value 6 = .ok (.ifCond .ne 9, 3) := by decide +kernel
theorem dL_value_9 : decode cL_value 9 = .ok (.sipush 255, 3) := by decide +kernel
theorem dL_value_12 : decode cL_value 12 = .ok (.goto 10, 3) := by decide +kernel
theorem dL_value_15 : decode cL_value 15 = .ok (.iload_n 0, 1) := by decide +kernel
theorem dL_value_16 : decode cL_value 16 = .ok (.iconst 2, 1) := by decide +kernel
theorem dL_value_17 : decode cL_value 17 = .ok (.ishr, 1) := by decide +kernel
theorem dL_value_18 : decode cL_value 18 = .ok (.iconst 3, 1) := by decide +kernel
theorem dL_value_19 : decode cL_value 19 = .ok (.invokestatic 136, 3) := by decide +kernel
theorem dL_value_22 : decode cL_value 22 = .ok (.ireturn, 1) := by decide +kernel
theorem dL_files_0 : decode cL_files 0 = .ok (.iload_n 2, 1) := by decide +kernel
theorem dL_files_1 : decode cL_files 1 = .ok (.iconst 5, 1) := by decide +kernel
theorem dL_files_2 : decode cL_files 2 = .ok (.invokestatic 136, 3) := by decide +kernel
theorem dL_files_5 : decode cL_files 5 = .ok (.iload_n 2, 1) := by decide +kernel
theorem dL_files_6 : decode cL_files 6 = .ok (.bipush 9, 2) := by decide +kernel
theorem dL_files_8 : decode cL_files 8 = .ok (.ishr, 1) := by decide +kernel
theorem dL_files_9 : decode cL_files 9 = .ok (.bipush 13, 2) := by decide +kernel
theorem dL_files_11 : decode cL_files 11 = .ok (.invokestatic 136, 3) := by decide +kernel
theorem dL_files_14 : decode cL_files 14 = .ok (.ifCond .ne 7, 3) := by decide +kernel
theorem dL_files_17 : decode cL_files 17 = .ok (.iconst 1, 1) := by decide +kernel
theorem dL_files_18 : decode cL_files 18 = .ok (.goto 4, 3) := by decide +kernel
theorem dL_files_21 : decode cL_files 21 = .ok (.iconst 0, 1) := by decide +kernel
theorem dL_files_22 : decode cL_files 22 = .ok (.isub, 1) := by decide +kernel
theorem dL_files_23 : decode cL_files 23 = .ok (.istore 5, 2) := by decide +kernel
theorem dL_files_25 : decode cL_files 25 = .ok (.iload 5, 2) := by decide +kernel
theorem dL_files_27 : decode cL_files 27 = .ok (.ifCond .lt 13, 3) := by decide +kernel
theorem dL_files_30 : decode cL_files 30 = .ok (.iload 5, 2) := by decide +kernel
theorem dL_files_32 : decode cL_files 32 = .ok (.iconst 4, 1) := by decide +kernel
theorem dL_files_33 : decode cL_files 33 = .ok (.if_icmp .ge 7, 3) := by decide +kernel
theorem dL_files_36 : decode cL_files 36 = .ok (.iconst 1, 1) := by decide +kernel
theorem dL_files_37 : decode cL_files 37 = .ok (.goto 4, 3) := by decide +kernel
theorem dL_files_40 : decode cL_files 40 = .ok (.iconst 0, 1) := by decide +kernel
theorem dL_files_41 : decode cL_files 41 = .ok (.istore 6, 2) := by decide +kernel
theorem dL_files_43 : decode cL_files 43 = .ok (.iload_n 1, 1) := by decide +kernel
theorem dL_files_44 : decode cL_files 44 = .ok (.iconst 2, 1) := by decide +kernel
theorem dL_files_45 : decode cL_files 45 = .ok (.if_icmp .ge 215, 3) := by decide +kernel
theorem dL_files_48 : decode cL_files 48 = .ok (.iload_n 2, 1) := by decide +kernel
theorem dL_files_49 : decode cL_files 49 = .ok (.iconst 4, 1) := by decide +kernel
theorem dL_files_50 : decode cL_files 50 = .ok (.ishr, 1) := by decide +kernel
theorem dL_files_51 : decode cL_files 51 = .ok (.bipush 40, 2) := by decide +kernel
theorem dL_files_53 : decode cL_files 53 = .ok (.invokestatic 136, 3) := by decide +kernel
theorem dL_files_56 : decode cL_files 56 = .ok (.ifCond .ne 9, 3) := by decide +kernel
theorem dL_files_59 : decode cL_files 59 = .ok (.sipush 256, 3) := by decide +kernel
theorem dL_files_62 : decode cL_files 62 = .ok (.goto 9, 3) := by decide +kernel
theorem dL_files_65 : decode cL_files 65 = .ok (.iload_n 2, 1) := by decide +kernel
theorem dL_files_66 : decode cL_files 66 = .ok (.iconst 3, 1) := by decide +kernel
theorem dL_files_67 : decode cL_files 67 = .ok (.ishr, 1) := by decide +kernel
theorem dL_files_68 : decode cL_files 68 = .ok (.invokestatic 139, 3) := by decide +kernel
theorem dL_files_71 : decode cL_files 71 = .ok (.istore 7, 2) := by decide +kernel
theorem dL_files_73 : decode cL_files 73 = .ok (.iload_n 2, 1) := by decide +kernel
theorem dL_files_74 : decode cL_files 74 = .ok (.bipush 6, 2) := by decide +kernel
theorem dL_files_76 : decode cL_files 76 = .ok (.ishr, 1) := by decide +kernel
theorem dL_files_77 : decode cL_files 77 = .ok (.iconst 3, 1) := by decide +kernel
theorem dL_files_78 : decode cL_files 78 = .ok (.invokestatic 136, 3) := by decide +kernel
theorem dL_files_81 : decode cL_files 81 = .ok (.ifCond .ne 7, 3) := by decide +kernel
theorem dL_files_84 : decode cL_files 84 = .ok (.iconst 1, 1) := by decide +kernel
theorem dL_files_85 : decode cL_files 85 = .ok (.goto 4, 3) := by decide +kernel
theorem dL_files_88 : decode cL_files 88 = .ok (.iconst 0, 1) := by decide +kernel
theorem dL_files_89 : decode cL_files 89 = .ok (.istore 8, 2) := by decide +kernel
theorem dL_files_91 : decode cL_files 91 = .ok (.iconst 1, 1) := by decide +kernel
theorem dL_files_92 : decode cL_files 92 = .ok (.iload_n 2, 1) := by decide +kernel
theorem dL_files_93 : decode cL_files 93 = .ok (.bipush 7, 2) := by decide +kernel
theorem dL_files_95 : decode cL_files 95 = .ok (.ishr, 1) := by decide +kernel
theorem dL_files_96 : decode cL_files 96 = .ok (.iconst 5, 1) := by decide +kernel
theorem dL_files_97 : decode cL_files 97 = .ok (.invokestatic 136, 3) := by decide +kernel
theorem dL_files_100 : decode cL_files 100 = .ok (.iadd, 1) := by decide +kernel
theorem dL_files_101 : decode cL_files 101 = .ok (.istore 9, 2) := by decide +kernel
theorem dL_files_103 : decode cL_files 103 = .ok (.iload 6, 2) := by decide +kernel
theorem dL_files_105 : decode cL_files 105 = .ok (.ifCond .eq 20, 3) := by decide +kernel
theorem dL_files_108 : decode cL_files 108 = .ok (.aload 4, 2) := by decide +kernel
theorem dL_files_110 : decode cL_files 110 = .ok (.iload 5, 2) := by decide +kernel
theorem dL_files_112 : decode cL_files 112 = .ok (.iaload, 1) := by decide +kernel
theorem dL_files_113 : decode cL_files 113 = .ok (.iload 9, 2) := by decide +kernel
theorem dL_files_115 : decode cL_files 115 = .ok (.iadd, 1) := by decide +kernel
theorem dL_files_116 : decode cL_files 116 = .ok (.bipush 16, 2) := by decide +kernel
theorem dL_files_118 : decode cL_files 118 = .ok (.if_icmp .gt 7, 3) := by decide +kernel
theorem dL_files_121 : decode cL_files 121 = .ok (.iconst 1, 1) := by decide +kernel
theorem dL_files_122 : decode cL_files 122 = .ok (.goto 4, 3) := by decide +kernel
theorem dL_files_125 : decode cL_files 125 = .ok (.iconst 0, 1) := by decide +kernel
theorem dL_files_126 : decode cL_files 126 = .ok (.istore 10, 2) := by decide +kernel
theorem dL_files_128 : decode cL_files 128 = .ok (.iload 6, 2) := by decide +kernel
theorem dL_files_130 : decode cL_files 130 = .ok (.ifCond .eq 18, 3) := by decide +kernel
theorem dL_files_133 : decode cL_files 133 = .ok (.iload 7, 2) := by decide +kernel
theorem dL_files_135 : decode cL_files 135 = .ok (.sipush 256, 3) := by decide +kernel
theorem dL_files_138 : decode cL_files 138 = .ok (.if_icmp .ge 10, 3) := by decide +kernel
theorem dL_files_141 : decode cL_files 141 = .ok (.iload 10, 2) := by decide +kernel
theorem dL_files_143 : decode cL_files 143 = .ok (.ifCond .ne 5, 3) := by decide +kernel
theorem dL_files_146 : decode cL_files 146 = .ok (.iconst 1, 1) := by decide +kernel
theorem dL_files_147 : decode cL_files 147 = .ok (.ireturn, 1) := by decide +kernel
theorem dL_files_148 : decode cL_files 148 = .ok (.iload 6, 2) := by decide +kernel
theorem dL_files_150 : decode cL_files 150 = .ok (.ifCond .ne 8, 3) := by decide +kernel
theorem dL_files_153 : decode cL_files 153 = .ok (.bipush (-101), 2) := by decide +kernel
theorem dL_files_155 : decode cL_files 155 = .ok (.goto 24, 3) := by decide +kernel
theorem dL_files_158 : decode cL_files 158 = .ok (.iload 7, 2) := by decide +kernel
theorem dL_files_160 : decode cL_files 160 = .ok (.sipush 255, 3) := by decide +kernel
theorem dL_files_163 : decode cL_files 163 = .ok (.if_icmp .le 8, 3) := by decide +kernel
theorem dL_files_166 : decode cL_files 166 = .ok (.bipush (-102), 2) := by decide +kernel
theorem dL_files_168 : decode cL_files 168 = .ok (.goto 11, 3) := by decide +kernel
theorem dL_files_171 : decode cL_files 171 = .ok (.aload 4, 2) := by decide +kernel
theorem dL_files_173 : decode cL_files 173 = .ok (.iload 5, 2) := by decide +kernel
theorem dL_files_175 : decode cL_files 175 = .ok (.iaload, 1) := by decide +kernel
theorem dL_files_176 : decode cL_files 176 = .ok (.iload 9, 2) := by decide +kernel
theorem dL_files_178 : decode cL_files 178 = .ok (.iadd, 1) := by decide +kernel
theorem dL_files_179 : decode cL_files 179 = .ok (.istore 11, 2) := by decide +kernel
theorem dL_files_181 : decode cL_files 181 = .ok (.iconst 0, 1) := by decide +kernel
theorem dL_files_182 : decode cL_files 182 = .ok (.istore 12, 2) := by decide +kernel
theorem dL_files_184 : decode cL_files 184 = .ok (.iload 12, 2) := by decide +kernel
theorem dL_files_186 : decode cL_files 186 = .ok (.iload 9, 2) := by decide +kernel
theorem dL_files_188 : decode cL_files 188 = .ok (.if_icmp .ge 48, 3) := by decide +kernel
theorem dL_files_191 : decode cL_files 191 = .ok (.iload 11, 2) := by decide +kernel
theorem dL_files_193 : decode cL_files 193 = .ok (.ifCond .lt 43, 3) := by decide +kernel
theorem dL_files_196 : decode cL_files 196 = .ok (.aload_n 3, 1) := by decide +kernel
theorem dL_files_197 : decode cL_files 197 = .ok (.bipush 16, 2) := by decide +kernel
theorem dL_files_199 : decode cL_files 199 = .ok (.iload 5, 2) := by decide +kernel
theorem dL_files_201 : decode cL_files 201 = .ok (.imul, 1) := by decide +kernel
theorem dL_files_202 : decode cL_files 202 = .ok (.aload 4, 2) := by decide +kernel
theorem dL_files_204 : decode cL_files 204 = .ok (.iload 5, 2) := by decide +kernel
theorem dL_files_206 : decode cL_files 206 = .ok (.iaload, 1) := by decide +kernel
theorem dL_files_207 : decode cL_files 207 = .ok (.iadd, 1) := by decide +kernel
theorem dL_files_208 : decode cL_files 208 = .ok (.iload 7, 2) := by decide +kernel
theorem dL_files_210 : decode cL_files 210 = .ok (.iload 12, 2) := by decide +kernel
theorem dL_files_212 : decode cL_files 212 = .ok (.iload 8, 2) := by decide +kernel
theorem dL_files_214 : decode cL_files 214 = .ok (.imul, 1) := by decide +kernel
theorem dL_files_215 : decode cL_files 215 = .ok (.iadd, 1) := by decide +kernel
theorem dL_files_216 : decode cL_files 216 = .ok (.sipush 256, 3) := by decide +kernel
theorem dL_files_219 : decode cL_files 219 = .ok (.irem, 1) := by decide +kernel
theorem dL_files_220 : decode cL_files 220 = .ok (.iastore, 1) := by decide +kernel
theorem dL_files_221 : decode cL_files 221 = .ok (.aload 4, 2) := by decide +kernel
theorem dL_files_223 : decode cL_files 223 = .ok (.iload 5, 2) := by decide +kernel
theorem dL_files_225 : decode cL_files 225 = .ok (.dup2, 1) := by decide +kernel
theorem dL_files_226 : decode cL_files 226 = .ok (.iaload, 1) := by decide +kernel
theorem dL_files_227 : decode cL_files 227 = .ok (.iconst 1, 1) := by decide +kernel
theorem dL_files_228 : decode cL_files 228 = .ok (.iadd, 1) := by decide +kernel
theorem dL_files_229 : decode cL_files 229 = .ok (.iastore, 1) := by decide +kernel
theorem dL_files_230 : decode cL_files 230 = .ok (.iinc 12 1, 3) := by decide +kernel
theorem dL_files_233 : decode cL_files 233 = .ok (.goto (-49), 3) := by decide +kernel
theorem dL_files_236 : decode cL_files 236 = .ok (.aload_n 0, 1) := by decide +kernel
theorem dL_files_237 : decode cL_files 237 = .ok (.iconst 0, 1) := by decide +kernel
theorem dL_files_238 : decode cL_files 238 = .ok (.iload 5, 2) := by decide +kernel
theorem dL_files_240 : decode cL_files 240 = .ok (.iload 7, 2) := by decide +kernel
theorem dL_files_242 : decode cL_files 242 = .ok (.iload 8, 2) := by decide +kernel
theorem dL_files_244 : decode cL_files 244 = .ok (.iload 9, 2) := by decide +kernel
theorem dL_files_246 : decode cL_files 246 = .ok (.invokestatic 142, 3) := by decide +kernel
theorem dL_files_249 : decode cL_files 249 = .ok (.iload 11, 2) := by decide +kernel
theorem dL_files_251 : decode cL_files 251 = .ok (.if_icmp .ne 7, 3) := by decide +kernel
theorem dL_files_254 : decode cL_files 254 = .ok (.iconst 1, 1) := by decide +kernel
theorem dL_files_255 : decode cL_files 255 = .ok (.goto 4, 3) := by decide +kernel
theorem dL_files_258 : decode cL_files 258 = .ok (.iconst 0, 1) := by decide +kernel
theorem dL_files_259 : decode cL_files 259 = .ok (.ireturn, 1) := by decide +kernel
theorem dL_files_260 : decode cL_files 260 = .ok (.iload_n 1, 1) := by decide +kernel
theorem dL_files_261 : decode cL_files 261 = .ok (.iconst 2, 1) := by decide +kernel
theorem dL_files_262 : decode cL_files 262 = .ok (.if_icmp .ne 208, 3) := by decide +kernel
theorem dL_files_265 : decode cL_files 265 = .ok (.iload_n 2, 1) := by decide +kernel
theorem dL_files_266 : decode cL_files 266 = .ok (.iconst 4, 1) := by decide +kernel
theorem dL_files_267 : decode cL_files 267 = .ok (.ishr, 1) := by decide +kernel
theorem dL_files_268 : decode cL_files 268 = .ok (.bipush 18, 2) := by decide +kernel
theorem dL_files_270 : decode cL_files 270 = .ok (.invokestatic 136, 3) := by decide +kernel
theorem dL_files_273 : decode cL_files 273 = .ok (.iconst 1, 1) := by decide +kernel
theorem dL_files_274 : decode cL_files 274 = .ok (.isub, 1) := by decide +kernel
theorem dL_files_275 : decode cL_files 275 = .ok (.istore 7, 2) := by decide +kernel
theorem dL_files_277 : decode cL_files 277 = .ok (.iload_n 2, 1) := by decide +kernel
theorem dL_files_278 : decode cL_files 278 = .ok (.iconst 5, 1) := by decide +kernel
theorem dL_files_279 : decode cL_files 279 = .ok (.ishr, 1) := by decide +kernel
theorem dL_files_280 : decode cL_files 280 = .ok (.bipush 40, 2) := by decide +kernel
theorem dL_files_282 : decode cL_files 282 = .ok (.invokestatic 136, 3) := by decide +kernel
theorem dL_files_285 : decode cL_files 285 = .ok (.ifCond .ne 7, 3) := by decide +kernel
theorem dL_files_288 : decode cL_files 288 = .ok (.iconst (-1), 1) := by decide +kernel
theorem dL_files_289 : decode cL_files 289 = .ok (.goto 10, 3) := by decide +kernel
theorem dL_files_292 : decode cL_files 292 = .ok (.iload_n 2, 1) := by decide +kernel
theorem dL_files_293 : decode cL_files 293 = .ok (.bipush 6, 2) := by decide +kernel
theorem dL_files_295 : decode cL_files 295 = .ok (.ishr, 1) := by decide +kernel
theorem dL_files_296 : decode cL_files 296 = .ok (.invokestatic 139, 3) := by decide +kernel
theorem dL_files_299 : decode cL_files 299 = .ok (.istore 8, 2) := by decide +kernel
theorem dL_files_301 : decode cL_files 301 = .ok (.iload 6, 2) := by decide +kernel
theorem dL_files_303 : decode cL_files 303 = .ok (.ifCond .eq 22, 3) := by decide +kernel
theorem dL_files_306 : decode cL_files 306 = .ok (.iload 7, 2) := by decide +kernel
theorem dL_files_308 : decode cL_files 308 = .ok (.ifCond .lt 17, 3) := by decide +kernel
theorem dL_files_311 : decode cL_files 311 = .ok (.iload 7, 2) := by decide +kernel
theorem dL_files_313 : decode cL_files 313 = .ok (.aload 4, 2) := by decide +kernel
theorem dL_files_315 : decode cL_files 315 = .ok (.iload 5, 2) := by decide +kernel
theorem dL_files_317 : decode cL_files 317 = .ok (.iaload, 1) := by decide +kernel
theorem dL_files_318 : decode cL_files 318 = .ok (.if_icmp .gt 7, 3) := by decide +kernel
theorem dL_files_321 : decode cL_files 321 = .ok (.iconst 1, 1) := by decide +kernel
theorem dL_files_322 : decode cL_files 322 = .ok (.goto 4, 3) := by decide +kernel
theorem dL_files_325 : decode cL_files 325 = .ok (.iconst 0, 1) := by decide +kernel
theorem dL_files_326 : decode cL_files 326 = .ok (.istore 9, 2) := by decide +kernel
theorem dL_files_328 : decode cL_files 328 = .ok (.iload 9, 2) := by decide +kernel
theorem dL_files_330 : decode cL_files 330 = .ok (.ifCond .eq 20, 3) := by decide +kernel
theorem dL_files_333 : decode cL_files 333 = .ok (.iload 8, 2) := by decide +kernel
theorem dL_files_335 : decode cL_files 335 = .ok (.ifCond .lt 15, 3) := by decide +kernel
theorem dL_files_338 : decode cL_files 338 = .ok (.aload 4, 2) := by decide +kernel
theorem dL_files_340 : decode cL_files 340 = .ok (.iload 5, 2) := by decide +kernel
theorem dL_files_342 : decode cL_files 342 = .ok (.iaload, 1) := by decide +kernel
theorem dL_files_343 : decode cL_files 343 = .ok (.bipush 16, 2) := by decide +kernel
theorem dL_files_345 : decode cL_files 345 = .ok (.if_icmp .ne 5, 3) := by decide +kernel
theorem dL_files_348 : decode cL_files 348 = .ok (.iconst 1, 1) := by decide +kernel
theorem dL_files_349 : decode cL_files 349 = .ok (.ireturn, 1) := by decide +kernel
theorem dL_files_350 : decode cL_files 350 = .ok (.iload 9, 2) := by decide +kernel
theorem dL_files_352 : decode cL_files 352 = .ok (.ifCond .ne 8, 3) := by decide +kernel
theorem dL_files_355 : decode cL_files 355 = .ok (.bipush (-101), 2) := by decide +kernel
theorem dL_files_357 : decode cL_files 357 = .ok (.goto 20, 3) := by decide +kernel
theorem dL_files_360 : decode cL_files 360 = .ok (.iload 8, 2) := by decide +kernel
theorem dL_files_362 : decode cL_files 362 = .ok (.ifCond .ge 8, 3) := by decide +kernel
theorem dL_files_365 : decode cL_files 365 = .ok (.bipush (-102), 2) := by decide +kernel
theorem dL_files_367 : decode cL_files 367 = .ok (.goto 10, 3) := by decide +kernel
theorem dL_files_370 : decode cL_files 370 = .ok (.aload 4, 2) := by decide +kernel
theorem dL_files_372 : decode cL_files 372 = .ok (.iload 5, 2) := by decide +kernel
theorem dL_files_374 : decode cL_files 374 = .ok (.iaload, 1) := by decide +kernel
theorem dL_files_375 : decode cL_files 375 = .ok (.iconst 1, 1) := by decide +kernel
theorem dL_files_376 : decode cL_files 376 = .ok (.iadd, 1) := by decide +kernel
theorem dL_files_377 : decode cL_files 377 = .ok (.istore 10, 2) := by decide +kernel
theorem dL_files_379 : decode cL_files 379 = .ok (.iload 10, 2) := by decide +kernel
theorem dL_files_381 : decode cL_files 381 = .ok (.ifCond .lt 66, 3) := by decide +kernel
theorem dL_files_384 : decode cL_files 384 = .ok (.aload 4, 2) := by decide +kernel
theorem dL_files_386 : decode cL_files 386 = .ok (.iload 5, 2) := by decide +kernel
theorem dL_files_388 : decode cL_files 388 = .ok (.iaload, 1) := by decide +kernel
theorem dL_files_389 : decode cL_files 389 = .ok (.istore 11, 2) := by decide +kernel
theorem dL_files_391 : decode cL_files 391 = .ok (.iload 11, 2) := by decide +kernel
theorem dL_files_393 : decode cL_files 393 = .ok (.iload 7, 2) := by decide +kernel
theorem dL_files_395 : decode cL_files 395 = .ok (.if_icmp .le 31, 3) := by decide +kernel
theorem dL_files_398 : decode cL_files 398 = .ok (.aload_n 3, 1) := by decide +kernel
theorem dL_files_399 : decode cL_files 399 = .ok (.bipush 16, 2) := by decide +kernel
theorem dL_files_401 : decode cL_files 401 = .ok (.iload 5, 2) := by decide +kernel
theorem dL_files_403 : decode cL_files 403 = .ok (.imul, 1) := by decide +kernel
theorem dL_files_404 : decode cL_files 404 = .ok (.iload 11, 2) := by decide +kernel
theorem dL_files_406 : decode cL_files 406 = .ok (.iadd, 1) := by decide +kernel
theorem dL_files_407 : decode cL_files 407 = .ok (.aload_n 3, 1) := by decide +kernel
theorem dL_files_408 : decode cL_files 408 = .ok (.bipush 16, 2) := by decide +kernel
theorem dL_files_410 : decode cL_files 410 = .ok (.iload 5, 2) := by decide +kernel
theorem dL_files_412 : decode cL_files 412 = .ok (.imul, 1) := by decide +kernel
theorem dL_files_413 : decode cL_files 413 = .ok (.iload 11, 2) := by decide +kernel
theorem dL_files_415 : decode cL_files 415 = .ok (.iadd, 1) := by decide +kernel
theorem dL_files_416 : decode cL_files 416 = .ok (.iconst 1, 1) := by decide +kernel
theorem dL_files_417 : decode cL_files 417 = .ok (.isub, 1) := by decide +kernel
theorem dL_files_418 : decode cL_files 418 = .ok (.iaload, 1) := by decide +kernel
theorem dL_files_419 : decode cL_files 419 = .ok (.iastore, 1) := by decide +kernel
theorem dL_files_420 : decode cL_files 420 = .ok (.iinc 11 (-1), 3) := by decide +kernel
theorem dL_files_423 : decode cL_files 423 = .ok (.goto (-32), 3) := by decide +kernel
theorem dL_files_426 : decode cL_files 426 = .ok (.aload_n 3, 1) := by decide +kernel
theorem dL_files_427 : decode cL_files 427 = .ok (.bipush 16, 2) := by decide +kernel
theorem dL_files_429 : decode cL_files 429 = .ok (.iload 5, 2) := by decide +kernel
theorem dL_files_431 : decode cL_files 431 = .ok (.imul, 1) := by decide +kernel
theorem dL_files_432 : decode cL_files 432 = .ok (.iload 7, 2) := by decide +kernel
theorem dL_files_434 : decode cL_files 434 = .ok (.iadd, 1) := by decide +kernel
theorem dL_files_435 : decode cL_files 435 = .ok (.iload 8, 2) := by decide +kernel
theorem dL_files_437 : decode cL_files 437 = .ok (.iastore, 1) := by decide +kernel
theorem dL_files_438 : decode cL_files 438 = .ok (.aload 4, 2) := by decide +kernel
theorem dL_files_440 : decode cL_files 440 = .ok (.iload 5, 2) := by decide +kernel
theorem dL_files_442 : decode cL_files 442 = .ok (.dup2, 1) := by decide +kernel
theorem dL_files_443 : decode cL_files 443 = .ok (.iaload, 1) := by decide +kernel
theorem dL_files_444 : decode cL_files 444 = .ok (.iconst 1, 1) := by decide +kernel
theorem dL_files_445 : decode cL_files 445 = .ok (.iadd, 1) := by decide +kernel
theorem dL_files_446 : decode cL_files 446 = .ok (.iastore, 1) := by decide +kernel
theorem dL_files_447 : decode cL_files 447 = .ok (.aload_n 0, 1) := by decide +kernel
theorem dL_files_448 : decode cL_files 448 = .ok (.iconst 1, 1) := by decide +kernel
theorem dL_files_449 : decode cL_files 449 = .ok (.iload 5, 2) := by decide +kernel
theorem dL_files_451 : decode cL_files 451 = .ok (.iload 7, 2) := by decide +kernel
theorem dL_files_453 : decode cL_files 453 = .ok (.iload 8, 2) := by decide +kernel
theorem dL_files_455 : decode cL_files 455 = .ok (.iconst 0, 1) := by decide +kernel
theorem dL_files_456 : decode cL_files 456 = .ok (.invokestatic 142, 3) := by decide +kernel
theorem dL_files_459 : decode cL_files 459 = .ok (.iload 10, 2) := by decide +kernel
theorem dL_files_461 : decode cL_files 461 = .ok (.if_icmp .ne 7, 3) := by decide +kernel
theorem dL_files_464 : decode cL_files 464 = .ok (.iconst 1, 1) := by decide +kernel
theorem dL_files_465 : decode cL_files 465 = .ok (.goto 4, 3) := by decide +kernel
theorem dL_files_468 : decode cL_files 468 = .ok (.iconst 0, 1) := by decide +kernel
theorem dL_files_469 : decode cL_files 469 = .ok (.ireturn, 1) := by decide +kernel
theorem dL_files_470 : decode cL_files 470 = .ok (.iload_n 1, 1) := by decide +kernel
theorem dL_files_471 : decode cL_files 471 = .ok (.iconst 3, 1) := by decide +kernel
theorem dL_files_472 : decode cL_files 472 = .ok (.if_icmp .ne 188, 3) := by decide +kernel
theorem dL_files_475 : decode cL_files 475 = .ok (.iload_n 2, 1) := by decide +kernel
theorem dL_files_476 : decode cL_files 476 = .ok (.iconst 4, 1) := by decide +kernel
theorem dL_files_477 : decode cL_files 477 = .ok (.ishr, 1) := by decide +kernel
theorem dL_files_478 : decode cL_files 478 = .ok (.bipush 18, 2) := by decide +kernel
theorem dL_files_480 : decode cL_files 480 = .ok (.invokestatic 136, 3) := by decide +kernel
theorem dL_files_483 : decode cL_files 483 = .ok (.iconst 1, 1) := by decide +kernel
theorem dL_files_484 : decode cL_files 484 = .ok (.isub, 1) := by decide +kernel
theorem dL_files_485 : decode cL_files 485 = .ok (.istore 7, 2) := by decide +kernel
theorem dL_files_487 : decode cL_files 487 = .ok (.iload_n 2, 1) := by decide +kernel
theorem dL_files_488 : decode cL_files 488 = .ok (.bipush 6, 2) := by decide +kernel
theorem dL_files_490 : decode cL_files 490 = .ok (.ishr, 1) := by decide +kernel
theorem dL_files_491 : decode cL_files 491 = .ok (.iconst 5, 1) := by decide +kernel
theorem dL_files_492 : decode cL_files 492 = .ok (.invokestatic 136, 3) := by decide +kernel
theorem dL_files_495 : decode cL_files 495 = .ok (.iload_n 2, 1) := by decide +kernel
theorem dL_files_496 : decode cL_files 496 = .ok (.bipush 8, 2) := by decide +kernel
theorem dL_files_498 : decode cL_files 498 = .ok (.ishr, 1) := by decide +kernel
theorem dL_files_499 : decode cL_files 499 = .ok (.bipush 9, 2) := by decide +kernel
theorem dL_files_501 : decode cL_files 501 = .ok (.invokestatic 136, 3) := by decide +kernel
theorem dL_files_504 : decode cL_files 504 = .ok (.ifCond .ne 7, 3) := by decide +kernel
theorem dL_files_507 : decode cL_files 507 = .ok (.iconst 1, 1) := by decide +kernel
theorem dL_files_508 : decode cL_files 508 = .ok (.goto 4, 3) := by decide +kernel
theorem dL_files_511 : decode cL_files 511 = .ok (.iconst 0, 1) := by decide +kernel
theorem dL_files_512 : decode cL_files 512 = .ok (.isub, 1) := by decide +kernel
theorem dL_files_513 : decode cL_files 513 = .ok (.istore 8, 2) := by decide +kernel
theorem dL_files_515 : decode cL_files 515 = .ok (.iload 6, 2) := by decide +kernel
theorem dL_files_517 : decode cL_files 517 = .ok (.ifCond .eq 22, 3) := by decide +kernel
theorem dL_files_520 : decode cL_files 520 = .ok (.iload 7, 2) := by decide +kernel
theorem dL_files_522 : decode cL_files 522 = .ok (.ifCond .lt 17, 3) := by decide +kernel
theorem dL_files_525 : decode cL_files 525 = .ok (.iload 7, 2) := by decide +kernel
theorem dL_files_527 : decode cL_files 527 = .ok (.aload 4, 2) := by decide +kernel
theorem dL_files_529 : decode cL_files 529 = .ok (.iload 5, 2) := by decide +kernel
theorem dL_files_531 : decode cL_files 531 = .ok (.iaload, 1) := by decide +kernel
theorem dL_files_532 : decode cL_files 532 = .ok (.if_icmp .gt 7, 3) := by decide +kernel
theorem dL_files_535 : decode cL_files 535 = .ok (.iconst 1, 1) := by decide +kernel
theorem dL_files_536 : decode cL_files 536 = .ok (.goto 4, 3) := by decide +kernel
theorem dL_files_539 : decode cL_files 539 = .ok (.iconst 0, 1) := by decide +kernel
theorem dL_files_540 : decode cL_files 540 = .ok (.istore 9, 2) := by decide +kernel
theorem dL_files_542 : decode cL_files 542 = .ok (.iload 9, 2) := by decide +kernel
theorem dL_files_544 : decode cL_files 544 = .ok (.ifCond .ne 8, 3) := by decide +kernel
theorem dL_files_547 : decode cL_files 547 = .ok (.bipush (-101), 2) := by decide +kernel
theorem dL_files_549 : decode cL_files 549 = .ok (.goto 34, 3) := by decide +kernel
theorem dL_files_552 : decode cL_files 552 = .ok (.iload 8, 2) := by decide +kernel
theorem dL_files_554 : decode cL_files 554 = .ok (.ifCond .lt 16, 3) := by decide +kernel
theorem dL_files_557 : decode cL_files 557 = .ok (.iload 8, 2) := by decide +kernel
theorem dL_files_559 : decode cL_files 559 = .ok (.aload 4, 2) := by decide +kernel
theorem dL_files_561 : decode cL_files 561 = .ok (.iload 5, 2) := by decide +kernel
theorem dL_files_563 : decode cL_files 563 = .ok (.iaload, 1) := by decide +kernel
theorem dL_files_564 : decode cL_files 564 = .ok (.iload 7, 2) := by decide +kernel
theorem dL_files_566 : decode cL_files 566 = .ok (.isub, 1) := by decide +kernel
theorem dL_files_567 : decode cL_files 567 = .ok (.if_icmp .le 8, 3) := by decide +kernel
theorem dL_files_570 : decode cL_files 570 = .ok (.bipush (-102), 2) := by decide +kernel
theorem dL_files_572 : decode cL_files 572 = .ok (.goto 11, 3) := by decide +kernel
theorem dL_files_575 : decode cL_files 575 = .ok (.aload 4, 2) := by decide +kernel
theorem dL_files_577 : decode cL_files 577 = .ok (.iload 5, 2) := by decide +kernel
theorem dL_files_579 : decode cL_files 579 = .ok (.iaload, 1) := by decide +kernel
theorem dL_files_580 : decode cL_files 580 = .ok (.iload 8, 2) := by decide +kernel
theorem dL_files_582 : decode cL_files 582 = .ok (.isub, 1) := by decide +kernel
theorem dL_files_583 : decode cL_files 583 = .ok (.istore 10, 2) := by decide +kernel
theorem dL_files_585 : decode cL_files 585 = .ok (.iload 10, 2) := by decide +kernel
theorem dL_files_587 : decode cL_files 587 = .ok (.ifCond .lt 50, 3) := by decide +kernel
theorem dL_files_590 : decode cL_files 590 = .ok (.aload 4, 2) := by decide +kernel
theorem dL_files_592 : decode cL_files 592 = .ok (.iload 5, 2) := by decide +kernel
theorem dL_files_594 : decode cL_files 594 = .ok (.iload 10, 2) := by decide +kernel
theorem dL_files_596 : decode cL_files 596 = .ok (.iastore, 1) := by decide +kernel
theorem dL_files_597 : decode cL_files 597 = .ok (.iload 7, 2) := by decide +kernel
theorem dL_files_599 : decode cL_files 599 = .ok (.istore 11, 2) := by decide +kernel
theorem dL_files_601 : decode cL_files 601 = .ok (.iload 11, 2) := by decide +kernel
theorem dL_files_603 : decode cL_files 603 = .ok (.iload 10, 2) := by decide +kernel
theorem dL_files_605 : decode cL_files 605 = .ok (.if_icmp .ge 32, 3) := by decide +kernel
theorem dL_files_608 : decode cL_files 608 = .ok (.aload_n 3, 1) := by decide +kernel
theorem dL_files_609 : decode cL_files 609 = .ok (.bipush 16, 2) := by decide +kernel
theorem dL_files_611 : decode cL_files 611 = .ok (.iload 5, 2) := by decide +kernel
theorem dL_files_613 : decode cL_files 613 = .ok (.imul, 1) := by decide +kernel
theorem dL_files_614 : decode cL_files 614 = .ok (.iload 11, 2) := by decide +kernel
theorem dL_files_616 : decode cL_files 616 = .ok (.iadd, 1) := by decide +kernel
theorem dL_files_617 : decode cL_files 617 = .ok (.aload_n 3, 1) := by decide +kernel
theorem dL_files_618 : decode cL_files 618 = .ok (.bipush 16, 2) := by decide +kernel
theorem dL_files_620 : decode cL_files 620 = .ok (.iload 5, 2) := by decide +kernel
theorem dL_files_622 : decode cL_files 622 = .ok (.imul, 1) := by decide +kernel
theorem dL_files_623 : decode cL_files 623 = .ok (.iload 11, 2) := by decide +kernel
theorem dL_files_625 : decode cL_files 625 = .ok (.iadd, 1) := by decide +kernel
theorem dL_files_626 : decode cL_files 626 = .ok (.iload 8, 2) := by decide +kernel
theorem dL_files_628 : decode cL_files 628 = .ok (.iadd, 1) := by decide +kernel
theorem dL_files_629 : decode cL_files 629 = .ok (.iaload, 1) := by decide +kernel
theorem dL_files_630 : decode cL_files 630 = .ok (.iastore, 1) := by decide +kernel
theorem dL_files_631 : decode cL_files 631 = .ok (.iinc 11 1, 3) := by decide +kernel
theorem dL_files_634 : decode cL_files 634 = .ok (.goto (-33), 3) := by decide +kernel
theorem dL_files_637 : decode cL_files 637 = .ok (.aload_n 0, 1) := by decide +kernel
theorem dL_files_638 : decode cL_files 638 = .ok (.iconst 2, 1) := by decide +kernel
theorem dL_files_639 : decode cL_files 639 = .ok (.iload 5, 2) := by decide +kernel
theorem dL_files_641 : decode cL_files 641 = .ok (.iload 7, 2) := by decide +kernel
theorem dL_files_643 : decode cL_files 643 = .ok (.iload 8, 2) := by decide +kernel
theorem dL_files_645 : decode cL_files 645 = .ok (.iconst 0, 1) := by decide +kernel
theorem dL_files_646 : decode cL_files 646 = .ok (.invokestatic 142, 3) := by decide +kernel
theorem dL_files_649 : decode cL_files 649 = .ok (.iload 10, 2) := by decide +kernel
theorem dL_files_651 : decode cL_files 651 = .ok (.if_icmp .ne 7, 3) := by decide +kernel
theorem dL_files_654 : decode cL_files 654 = .ok (.iconst 1, 1) := by decide +kernel
theorem dL_files_655 : decode cL_files 655 = .ok (.goto 4, 3) := by decide +kernel
theorem dL_files_658 : decode cL_files 658 = .ok (.iconst 0, 1) := by decide +kernel
theorem dL_files_659 : decode cL_files 659 = .ok (.ireturn, 1) := by decide +kernel
theorem dL_files_660 : decode cL_files 660 = .ok (.iload_n 2, 1) := by decide +kernel
theorem dL_files_661 : decode cL_files 661 = .ok (.iconst 4, 1) := by decide +kernel
theorem dL_files_662 : decode cL_files 662 = .ok (.ishr, 1) := by decide +kernel
theorem dL_files_663 : decode cL_files 663 = .ok (.iconst 5, 1) := by decide +kernel
theorem dL_files_664 : decode cL_files 664 = .ok (.invokestatic 136, 3) := by decide +kernel
theorem dL_files_667 : decode cL_files 667 = .ok (.istore 7, 2) := by decide +kernel
theorem dL_files_669 : decode cL_files 669 = .ok (.iload 6, 2) := by decide +kernel
theorem dL_files_671 : decode cL_files 671 = .ok (.ifCond .eq 13, 3) := by decide +kernel
theorem dL_files_674 : decode cL_files 674 = .ok (.iload 7, 2) := by decide +kernel
theorem dL_files_676 : decode cL_files 676 = .ok (.iconst 4, 1) := by decide +kernel
theorem dL_files_677 : decode cL_files 677 = .ok (.if_icmp .ge 7, 3) := by decide +kernel
theorem dL_files_680 : decode cL_files 680 = .ok (.iconst 1, 1) := by decide +kernel
theorem dL_files_681 : decode cL_files 681 = .ok (.goto 4, 3) := by decide +kernel
theorem dL_files_684 : decode cL_files 684 = .ok (.iconst 0, 1) := by decide +kernel
theorem dL_files_685 : decode cL_files 685 = .ok (.istore 8, 2) := by decide +kernel
theorem dL_files_687 : decode cL_files 687 = .ok (.iload 8, 2) := by decide +kernel
theorem dL_files_689 : decode cL_files 689 = .ok (.ifCond .eq 22, 3) := by decide +kernel
theorem dL_files_692 : decode cL_files 692 = .ok (.aload_n 3, 1) := by decide +kernel
theorem dL_files_693 : decode cL_files 693 = .ok (.aload 4, 2) := by decide +kernel
theorem dL_files_695 : decode cL_files 695 = .ok (.iload 7, 2) := by decide +kernel
theorem dL_files_697 : decode cL_files 697 = .ok (.aload_n 3, 1) := by decide +kernel
theorem dL_files_698 : decode cL_files 698 = .ok (.bipush 16, 2) := by decide +kernel
theorem dL_files_700 : decode cL_files 700 = .ok (.iload 5, 2) := by decide +kernel
theorem dL_files_702 : decode cL_files 702 = .ok (.imul, 1) := by decide +kernel
theorem dL_files_703 : decode cL_files 703 = .ok (.aload 4, 2) := by decide +kernel
theorem dL_files_705 : decode cL_files 705 = .ok (.iload 5, 2) := by decide +kernel
theorem dL_files_707 : decode cL_files 707 = .ok (.iaload, 1) := by decide +kernel
theorem dL_files_708 : decode cL_files 708 = .ok (.invokestatic 146, 3) := by decide +kernel
theorem dL_files_711 : decode cL_files 711 = .ok (.aload_n 0, 1) := by decide +kernel
theorem dL_files_712 : decode cL_files 712 = .ok (.iload 5, 2) := by decide +kernel
theorem dL_files_714 : decode cL_files 714 = .ok (.iload 7, 2) := by decide +kernel
theorem dL_files_716 : decode cL_files 716 = .ok (.invokestatic 150, 3) := by decide +kernel
theorem dL_files_719 : decode cL_files 719 = .ok (.iload 8, 2) := by decide +kernel
theorem dL_files_721 : decode cL_files 721 = .ok (.ifCond .eq 7, 3) := by decide +kernel
theorem dL_files_724 : decode cL_files 724 = .ok (.iconst 0, 1) := by decide +kernel
theorem dL_files_725 : decode cL_files 725 = .ok (.goto 5, 3) := by decide +kernel
theorem dL_files_728 : decode cL_files 728 = .ok (.bipush (-101), 2) := by decide +kernel
theorem dL_files_730 : decode cL_files 730 = .ok (.if_icmp .ne 7, 3) := by decide +kernel
theorem dL_files_733 : decode cL_files 733 = .ok (.iconst 1, 1) := by decide +kernel
theorem dL_files_734 : decode cL_files 734 = .ok (.goto 4, 3) := by decide +kernel
theorem dL_files_737 : decode cL_files 737 = .ok (.iconst 0, 1) := by decide +kernel
theorem dL_files_738 : decode cL_files 738 = .ok (.ireturn, 1) := by decide +kernel
theorem dL_sends_0 : decode cL_sends 0 = .ok (.iload_n 2, 1) := by decide +kernel
theorem dL_sends_1 : decode cL_sends 1 = .ok (.iconst 5, 1) := by decide +kernel
theorem dL_sends_2 : decode cL_sends 2 = .ok (.invokestatic 136, 3) := by decide +kernel
theorem dL_sends_5 : decode cL_sends 5 = .ok (.iload_n 2, 1) := by decide +kernel
theorem dL_sends_6 : decode cL_sends 6 = .ok (.bipush 9, 2) := by decide +kernel
theorem dL_sends_8 : decode cL_sends 8 = .ok (.ishr, 1) := by decide +kernel
theorem dL_sends_9 : decode cL_sends 9 = .ok (.bipush 13, 2) := by decide +kernel
theorem dL_sends_11 : decode cL_sends 11 = .ok (.invokestatic 136, 3) := by decide +kernel
theorem dL_sends_14 : decode cL_sends 14 = .ok (.ifCond .ne 7, 3) := by decide +kernel
theorem dL_sends_17 : decode cL_sends 17 = .ok (.iconst 1, 1) := by decide +kernel
theorem dL_sends_18 : decode cL_sends 18 = .ok (.goto 4, 3) := by decide +kernel
theorem dL_sends_21 : decode cL_sends 21 = .ok (.iconst 0, 1) := by decide +kernel
theorem dL_sends_22 : decode cL_sends 22 = .ok (.isub, 1) := by decide +kernel
theorem dL_sends_23 : decode cL_sends 23 = .ok (.istore 12, 2) := by decide +kernel
theorem dL_sends_25 : decode cL_sends 25 = .ok (.iload_n 2, 1) := by decide +kernel
theorem dL_sends_26 : decode cL_sends 26 = .ok (.iconst 3, 1) := by decide +kernel
theorem dL_sends_27 : decode cL_sends 27 = .ok (.ishr, 1) := by decide +kernel
theorem dL_sends_28 : decode cL_sends 28 = .ok (.iconst 5, 1) := by decide +kernel
theorem dL_sends_29 : decode cL_sends 29 = .ok (.invokestatic 136, 3) := by decide +kernel
theorem dL_sends_32 : decode cL_sends 32 = .ok (.istore 13, 2) := by decide +kernel
theorem dL_sends_34 : decode cL_sends 34 = .ok (.iload 12, 2) := by decide +kernel
theorem dL_sends_36 : decode cL_sends 36 = .ok (.ifCond .lt 19, 3) := by decide +kernel
theorem dL_sends_39 : decode cL_sends 39 = .ok (.iload 12, 2) := by decide +kernel
theorem dL_sends_41 : decode cL_sends 41 = .ok (.iconst 4, 1) := by decide +kernel
theorem dL_sends_42 : decode cL_sends 42 = .ok (.if_icmp .ge 13, 3) := by decide +kernel
theorem dL_sends_45 : decode cL_sends 45 = .ok (.iload 13, 2) := by decide +kernel
theorem dL_sends_47 : decode cL_sends 47 = .ok (.iconst 4, 1) := by decide +kernel
theorem dL_sends_48 : decode cL_sends 48 = .ok (.if_icmp .ge 7, 3) := by decide +kernel
theorem dL_sends_51 : decode cL_sends 51 = .ok (.iconst 1, 1) := by decide +kernel
theorem dL_sends_52 : decode cL_sends 52 = .ok (.goto 4, 3) := by decide +kernel
theorem dL_sends_55 : decode cL_sends 55 = .ok (.iconst 0, 1) := by decide +kernel
theorem dL_sends_56 : decode cL_sends 56 = .ok (.istore 14, 2) := by decide +kernel
theorem dL_sends_58 : decode cL_sends 58 = .ok (.iload_n 1, 1) := by decide +kernel
theorem dL_sends_59 : decode cL_sends 59 = .ok (.ifCond .ne 254, 3) := by decide +kernel
theorem dL_sends_62 : decode cL_sends 62 = .ok (.iload_n 2, 1) := by decide +kernel
theorem dL_sends_63 : decode cL_sends 63 = .ok (.iconst 5, 1) := by decide +kernel
theorem dL_sends_64 : decode cL_sends 64 = .ok (.ishr, 1) := by decide +kernel
theorem dL_sends_65 : decode cL_sends 65 = .ok (.bipush 12, 2) := by decide +kernel
theorem dL_sends_67 : decode cL_sends 67 = .ok (.invokestatic 136, 3) := by decide +kernel
theorem dL_sends_70 : decode cL_sends 70 = .ok (.ifCond .ne 14, 3) := by decide +kernel
theorem dL_sends_73 : decode cL_sends 73 = .ok (.iload_n 2, 1) := by decide +kernel
theorem dL_sends_74 : decode cL_sends 74 = .ok (.iconst 2, 1) := by decide +kernel
theorem dL_sends_75 : decode cL_sends 75 = .ok (.invokestatic 136, 3) := by decide +kernel
theorem dL_sends_78 : decode cL_sends 78 = .ok (.bipush 8, 2) := by decide +kernel
theorem dL_sends_80 : decode cL_sends 80 = .ok (.imul, 1) := by decide +kernel
theorem dL_sends_81 : decode cL_sends 81 = .ok (.goto 12, 3) := by decide +kernel
theorem dL_sends_84 : decode cL_sends 84 = .ok (.iconst 1, 1) := by decide +kernel
theorem dL_sends_85 : decode cL_sends 85 = .ok (.iload_n 2, 1) := by decide +kernel
theorem dL_sends_86 : decode cL_sends 86 = .ok (.iconst 5, 1) := by decide +kernel
theorem dL_sends_87 : decode cL_sends 87 = .ok (.ishr, 1) := by decide +kernel
theorem dL_sends_88 : decode cL_sends 88 = .ok (.iconst 5, 1) := by decide +kernel
theorem dL_sends_89 : decode cL_sends 89 = .ok (.invokestatic 136, 3) := by decide +kernel
theorem dL_sends_92 : decode cL_sends 92 = .ok (.iadd, 1) := by decide +kernel
theorem dL_sends_93 : decode cL_sends 93 = .ok (.istore 15, 2) := by decide +kernel
theorem dL_sends_95 : decode cL_sends 95 = .ok (.iload_n 2, 1) := by decide +kernel
theorem dL_sends_96 : decode cL_sends 96 = .ok (.bipush 8, 2) := by decide +kernel
theorem dL_sends_98 : decode cL_sends 98 = .ok (.ishr, 1) := by decide +kernel
theorem dL_sends_99 : decode cL_sends 99 = .ok (.bipush 20, 2) := by decide +kernel
theorem dL_sends_101 : decode cL_sends 101 = .ok (.invokestatic 136, 3) := by decide +kernel
theorem dL_sends_104 : decode cL_sends 104 = .ok (.ifCond .ne 15, 3) := by decide +kernel
theorem dL_sends_107 : decode cL_sends 107 = .ok (.iload_n 2, 1) := by decide +kernel
theorem dL_sends_108 : decode cL_sends 108 = .ok (.iconst 2, 1) := by decide +kernel
theorem dL_sends_109 : decode cL_sends 109 = .ok (.invokestatic 136, 3) := by decide +kernel
theorem dL_sends_112 : decode cL_sends 112 = .ok (.sipush 4097, 3) := by decide +kernel
theorem dL_sends_115 : decode cL_sends 115 = .ok (.imul, 1) := by decide +kernel
theorem dL_sends_116 : decode cL_sends 116 = .ok (.goto 31, 3) := by decide +kernel
theorem dL_sends_119 : decode cL_sends 119 = .ok (.iload_n 2, 1) := by decide +kernel
theorem dL_sends_120 : decode cL_sends 120 = .ok (.bipush 8, 2) := by decide +kernel
theorem dL_sends_122 : decode cL_sends 122 = .ok (.ishr, 1) := by decide +kernel
theorem dL_sends_123 : decode cL_sends 123 = .ok (.iconst 3, 1) := by decide +kernel
theorem dL_sends_124 : decode cL_sends 124 = .ok (.invokestatic 136, 3) := by decide +kernel
theorem dL_sends_127 : decode cL_sends 127 = .ok (.ifCond .ne 9, 3) := by decide +kernel
theorem dL_sends_130 : decode cL_sends 130 = .ok (.sipush 4096, 3) := by decide +kernel
theorem dL_sends_133 : decode cL_sends 133 = .ok (.goto 14, 3) := by decide +kernel
theorem dL_sends_136 : decode cL_sends 136 = .ok (.iconst 1, 1) := by decide +kernel
theorem dL_sends_137 : decode cL_sends 137 = .ok (.iload_n 2, 1) := by decide +kernel
theorem dL_sends_138 : decode cL_sends 138 = .ok (.bipush 8, 2) := by decide +kernel
theorem dL_sends_140 : decode cL_sends 140 = .ok (.ishr, 1) := by decide +kernel
theorem dL_sends_141 : decode cL_sends 141 = .ok (.bipush 6, 2) := by decide +kernel
theorem dL_sends_143 : decode cL_sends 143 = .ok (.invokestatic 136, 3) := by decide +kernel
theorem dL_sends_146 : decode cL_sends 146 = .ok (.iadd, 1) := by decide +kernel
theorem dL_sends_147 : decode cL_sends 147 = .ok (.istore 16, 2) := by decide +kernel
theorem dL_sends_149 : decode cL_sends 149 = .ok (.iload 15, 2) := by decide +kernel
theorem dL_sends_151 : decode cL_sends 151 = .ok (.ifCond .le 27, 3) := by decide +kernel
theorem dL_sends_154 : decode cL_sends 154 = .ok (.iload 15, 2) := by decide +kernel
theorem dL_sends_156 : decode cL_sends 156 = .ok (.bipush 8, 2) := by decide +kernel
theorem dL_sends_158 : decode cL_sends 158 = .ok (.if_icmp .ge 20, 3) := by decide +kernel
theorem dL_sends_161 : decode cL_sends 161 = .ok (.iload 16, 2) := by decide +kernel
theorem dL_sends_163 : decode cL_sends 163 = .ok (.ifCond .le 15, 3) := by decide +kernel
theorem dL_sends_166 : decode cL_sends 166 = .ok (.iload 16, 2) := by decide +kernel
theorem dL_sends_168 : decode cL_sends 168 = .ok (.sipush 4097, 3) := by decide +kernel
theorem dL_sends_171 : decode cL_sends 171 = .ok (.if_icmp .ge 7, 3) := by decide +kernel
theorem dL_sends_174 : decode cL_sends 174 = .ok (.iconst 1, 1) := by decide +kernel
theorem dL_sends_175 : decode cL_sends 175 = .ok (.goto 4, 3) := by decide +kernel
theorem dL_sends_178 : decode cL_sends 178 = .ok (.iconst 0, 1) := by decide +kernel
theorem dL_sends_179 : decode cL_sends 179 = .ok (.istore 17, 2) := by decide +kernel
theorem dL_sends_181 : decode cL_sends 181 = .ok (.iload 14, 2) := by decide +kernel
theorem dL_sends_183 : decode cL_sends 183 = .ok (.ifCond .ne 8, 3) := by decide +kernel
theorem dL_sends_186 : decode cL_sends 186 = .ok (.bipush (-101), 2) := by decide +kernel
theorem dL_sends_188 : decode cL_sends 188 = .ok (.goto 26, 3) := by decide +kernel
theorem dL_sends_191 : decode cL_sends 191 = .ok (.iload 17, 2) := by decide +kernel
theorem dL_sends_193 : decode cL_sends 193 = .ok (.ifCond .ne 8, 3) := by decide +kernel
theorem dL_sends_196 : decode cL_sends 196 = .ok (.bipush (-102), 2) := by decide +kernel
theorem dL_sends_198 : decode cL_sends 198 = .ok (.goto 16, 3) := by decide +kernel
theorem dL_sends_201 : decode cL_sends 201 = .ok (.aload 4, 2) := by decide +kernel
theorem dL_sends_203 : decode cL_sends 203 = .ok (.iload 13, 2) := by decide +kernel
theorem dL_sends_205 : decode cL_sends 205 = .ok (.iaload, 1) := by decide +kernel
theorem dL_sends_206 : decode cL_sends 206 = .ok (.iload 15, 2) := by decide +kernel
theorem dL_sends_208 : decode cL_sends 208 = .ok (.iadd, 1) := by decide +kernel
theorem dL_sends_209 : decode cL_sends 209 = .ok (.iconst 1, 1) := by decide +kernel
theorem dL_sends_210 : decode cL_sends 210 = .ok (.isub, 1) := by decide +kernel
theorem dL_sends_211 : decode cL_sends 211 = .ok (.iload 15, 2) := by decide +kernel
theorem dL_sends_213 : decode cL_sends 213 = .ok (.idiv, 1) := by decide +kernel
theorem dL_sends_214 : decode cL_sends 214 = .ok (.istore 18, 2) := by decide +kernel
theorem dL_sends_216 : decode cL_sends 216 = .ok (.iload 18, 2) := by decide +kernel
theorem dL_sends_218 : decode cL_sends 218 = .ok (.ifCond .lt 72, 3) := by decide +kernel
theorem dL_sends_221 : decode cL_sends 221 = .ok (.aload 6, 2) := by decide +kernel
theorem dL_sends_223 : decode cL_sends 223 = .ok (.iload 12, 2) := by decide +kernel
theorem dL_sends_225 : decode cL_sends 225 = .ok (.iload 15, 2) := by decide +kernel
theorem dL_sends_227 : decode cL_sends 227 = .ok (.iastore, 1) := by decide +kernel
theorem dL_sends_228 : decode cL_sends 228 = .ok (.aload 6, 2) := by decide +kernel
theorem dL_sends_230 : decode cL_sends 230 = .ok (.iconst 4, 1) := by decide +kernel
theorem dL_sends_231 : decode cL_sends 231 = .ok (.iload 12, 2) := by decide +kernel
theorem dL_sends_233 : decode cL_sends 233 = .ok (.iadd, 1) := by decide +kernel
theorem dL_sends_234 : decode cL_sends 234 = .ok (.iload 16, 2) := by decide +kernel
theorem dL_sends_236 : decode cL_sends 236 = .ok (.iastore, 1) := by decide +kernel
theorem dL_sends_237 : decode cL_sends 237 = .ok (.aload 6, 2) := by decide +kernel
theorem dL_sends_239 : decode cL_sends 239 = .ok (.bipush 8, 2) := by decide +kernel
theorem dL_sends_241 : decode cL_sends 241 = .ok (.iload 12, 2) := by decide +kernel
theorem dL_sends_243 : decode cL_sends 243 = .ok (.iadd, 1) := by decide +kernel
theorem dL_sends_244 : decode cL_sends 244 = .ok (.aload 4, 2) := by decide +kernel
theorem dL_sends_246 : decode cL_sends 246 = .ok (.iload 13, 2) := by decide +kernel
theorem dL_sends_248 : decode cL_sends 248 = .ok (.iaload, 1) := by decide +kernel
theorem dL_sends_249 : decode cL_sends 249 = .ok (.iastore, 1) := by decide +kernel
theorem dL_sends_250 : decode cL_sends 250 = .ok (.iconst 0, 1) := by decide +kernel
theorem dL_sends_251 : decode cL_sends 251 = .ok (.istore 19, 2) := by decide +kernel
theorem dL_sends_253 : decode cL_sends 253 = .ok (.iload 19, 2) := by decide +kernel
theorem dL_sends_255 : decode cL_sends 255 = .ok (.aload 4, 2) := by decide +kernel
theorem dL_sends_257 : decode cL_sends 257 = .ok (.iload 13, 2) := by decide +kernel
theorem dL_sends_259 : decode cL_sends 259 = .ok (.iaload, 1) := by decide +kernel
theorem dL_sends_260 : decode cL_sends 260 = .ok (.if_icmp .ge 30, 3) := by decide +kernel
theorem dL_sends_263 : decode cL_sends 263 = .ok (.aload 5, 2) := by decide +kernel
theorem dL_sends_265 : decode cL_sends 265 = .ok (.bipush 16, 2) := by decide +kernel
theorem dL_sends_267 : decode cL_sends 267 = .ok (.iload 12, 2) := by decide +kernel
theorem dL_sends_269 : decode cL_sends 269 = .ok (.imul, 1) := by decide +kernel
theorem dL_sends_270 : decode cL_sends 270 = .ok (.iload 19, 2) := by decide +kernel
theorem dL_sends_272 : decode cL_sends 272 = .ok (.iadd, 1) := by decide +kernel
theorem dL_sends_273 : decode cL_sends 273 = .ok (.aload_n 3, 1) := by decide +kernel
theorem dL_sends_274 : decode cL_sends 274 = .ok (.bipush 16, 2) := by decide +kernel
theorem dL_sends_276 : decode cL_sends 276 = .ok (.iload 13, 2) := by decide +kernel
theorem dL_sends_278 : decode cL_sends 278 = .ok (.imul, 1) := by decide +kernel
theorem dL_sends_279 : decode cL_sends 279 = .ok (.iload 19, 2) := by decide +kernel
theorem dL_sends_281 : decode cL_sends 281 = .ok (.iadd, 1) := by decide +kernel
theorem dL_sends_282 : decode cL_sends 282 = .ok (.iaload, 1) := by decide +kernel
theorem dL_sends_283 : decode cL_sends 283 = .ok (.iastore, 1) := by decide +kernel
theorem dL_sends_284 : decode cL_sends 284 = .ok (.iinc 19 1, 3) := by decide +kernel
theorem dL_sends_287 : decode cL_sends 287 = .ok (.goto (-34), 3) := by decide +kernel
theorem dL_sends_290 : decode cL_sends 290 = .ok (.aload_n 0, 1) := by decide +kernel
theorem dL_sends_291 : decode cL_sends 291 = .ok (.iload 12, 2) := by decide +kernel
theorem dL_sends_293 : decode cL_sends 293 = .ok (.iload 13, 2) := by decide +kernel
theorem dL_sends_295 : decode cL_sends 295 = .ok (.iload 15, 2) := by decide +kernel
theorem dL_sends_297 : decode cL_sends 297 = .ok (.iload 16, 2) := by decide +kernel
theorem dL_sends_299 : decode cL_sends 299 = .ok (.invokestatic 154, 3) := by decide +kernel
theorem dL_sends_302 : decode cL_sends 302 = .ok (.iload 18, 2) := by decide +kernel
theorem dL_sends_304 : decode cL_sends 304 = .ok (.if_icmp .ne 7, 3) := by decide +kernel
theorem dL_sends_307 : decode cL_sends 307 = .ok (.iconst 1, 1) := by decide +kernel
theorem dL_sends_308 : decode cL_sends 308 = .ok (.goto 4, 3) := by decide +kernel
theorem dL_sends_311 : decode cL_sends 311 = .ok (.iconst 0, 1) := by decide +kernel
theorem dL_sends_312 : decode cL_sends 312 = .ok (.ireturn, 1) := by decide +kernel
theorem dL_sends_313 : decode cL_sends 313 = .ok (.iload_n 2, 1) := by decide +kernel
theorem dL_sends_314 : decode cL_sends 314 = .ok (.iconst 5, 1) := by decide +kernel
theorem dL_sends_315 : decode cL_sends 315 = .ok (.ishr, 1) := by decide +kernel
theorem dL_sends_316 : decode cL_sends 316 = .ok (.iconst 5, 1) := by decide +kernel
theorem dL_sends_317 : decode cL_sends 317 = .ok (.invokestatic 136, 3) := by decide +kernel
theorem dL_sends_320 : decode cL_sends 320 = .ok (.istore 15, 2) := by decide +kernel
theorem dL_sends_322 : decode cL_sends 322 = .ok (.iload 14, 2) := by decide +kernel
theorem dL_sends_324 : decode cL_sends 324 = .ok (.ifCond .eq 13, 3) := by decide +kernel
theorem dL_sends_327 : decode cL_sends 327 = .ok (.iload 15, 2) := by decide +kernel
theorem dL_sends_329 : decode cL_sends 329 = .ok (.iconst 4, 1) := by decide +kernel
theorem dL_sends_330 : decode cL_sends 330 = .ok (.if_icmp .ge 7, 3) := by decide +kernel
theorem dL_sends_333 : decode cL_sends 333 = .ok (.iconst 1, 1) := by decide +kernel
theorem dL_sends_334 : decode cL_sends 334 = .ok (.goto 4, 3) := by decide +kernel
theorem dL_sends_337 : decode cL_sends 337 = .ok (.iconst 0, 1) := by decide +kernel
theorem dL_sends_338 : decode cL_sends 338 = .ok (.istore 14, 2) := by decide +kernel
theorem dL_sends_340 : decode cL_sends 340 = .ok (.iload_n 1, 1) := by decide +kernel
theorem dL_sends_341 : decode cL_sends 341 = .ok (.iconst 1, 1) := by decide +kernel
theorem dL_sends_342 : decode cL_sends 342 = .ok (.if_icmp .ne 95, 3) := by decide +kernel
theorem dL_sends_345 : decode cL_sends 345 = .ok (.iload 14, 2) := by decide +kernel
theorem dL_sends_347 : decode cL_sends 347 = .ok (.ifCond .ne 8, 3) := by decide +kernel
theorem dL_sends_350 : decode cL_sends 350 = .ok (.bipush (-101), 2) := by decide +kernel
theorem dL_sends_352 : decode cL_sends 352 = .ok (.goto 17, 3) := by decide +kernel
theorem dL_sends_355 : decode cL_sends 355 = .ok (.aload 6, 2) := by decide +kernel
theorem dL_sends_357 : decode cL_sends 357 = .ok (.iload 15, 2) := by decide +kernel
theorem dL_sends_359 : decode cL_sends 359 = .ok (.iaload, 1) := by decide +kernel
theorem dL_sends_360 : decode cL_sends 360 = .ok (.ifCond .ne 8, 3) := by decide +kernel
theorem dL_sends_363 : decode cL_sends 363 = .ok (.bipush (-102), 2) := by decide +kernel
theorem dL_sends_365 : decode cL_sends 365 = .ok (.goto 4, 3) := by decide +kernel
theorem dL_sends_368 : decode cL_sends 368 = .ok (.iconst 0, 1) := by decide +kernel
theorem dL_sends_369 : decode cL_sends 369 = .ok (.istore 16, 2) := by decide +kernel
theorem dL_sends_371 : decode cL_sends 371 = .ok (.iload 16, 2) := by decide +kernel
theorem dL_sends_373 : decode cL_sends 373 = .ok (.ifCond .ne 42, 3) := by decide +kernel
theorem dL_sends_376 : decode cL_sends 376 = .ok (.aload 5, 2) := by decide +kernel
theorem dL_sends_378 : decode cL_sends 378 = .ok (.aload 6, 2) := by decide +kernel
theorem dL_sends_380 : decode cL_sends 380 = .ok (.iload 15, 2) := by decide +kernel
theorem dL_sends_382 : decode cL_sends 382 = .ok (.aload_n 3, 1) := by decide +kernel
theorem dL_sends_383 : decode cL_sends 383 = .ok (.bipush 16, 2) := by decide +kernel
theorem dL_sends_385 : decode cL_sends 385 = .ok (.iload 13, 2) := by decide +kernel
theorem dL_sends_387 : decode cL_sends 387 = .ok (.imul, 1) := by decide +kernel
theorem dL_sends_388 : decode cL_sends 388 = .ok (.aload 4, 2) := by decide +kernel
theorem dL_sends_390 : decode cL_sends 390 = .ok (.iload 13, 2) := by decide +kernel
theorem dL_sends_392 : decode cL_sends 392 = .ok (.iaload, 1) := by decide +kernel
theorem dL_sends_393 : decode cL_sends 393 = .ok (.aload 7, 2) := by decide +kernel
theorem dL_sends_395 : decode cL_sends 395 = .ok (.aload 8, 2) := by decide +kernel
theorem dL_sends_397 : decode cL_sends 397 = .ok (.aload 9, 2) := by decide +kernel
theorem dL_sends_399 : decode cL_sends 399 = .ok (.aload 10, 2) := by decide +kernel
theorem dL_sends_401 : decode cL_sends 401 = .ok (.aload 11, 2) := by decide +kernel
theorem dL_sends_403 : decode cL_sends 403 = .ok (.iload 12, 2) := by decide +kernel
theorem dL_sends_405 : decode cL_sends 405 = .ok (.invokestatic 158, 3) := by decide +kernel
theorem dL_sends_408 : decode cL_sends 408 = .ok (.aload 11, 2) := by decide +kernel
theorem dL_sends_410 : decode cL_sends 410 = .ok (.iload 12, 2) := by decide +kernel
theorem dL_sends_412 : decode cL_sends 412 = .ok (.iaload, 1) := by decide +kernel
theorem dL_sends_413 : decode cL_sends 413 = .ok (.istore 16, 2) := by decide +kernel
theorem dL_sends_415 : decode cL_sends 415 = .ok (.aload_n 0, 1) := by decide +kernel
theorem dL_sends_416 : decode cL_sends 416 = .ok (.iconst 0, 1) := by decide +kernel
theorem dL_sends_417 : decode cL_sends 417 = .ok (.iload 12, 2) := by decide +kernel
theorem dL_sends_419 : decode cL_sends 419 = .ok (.iload 15, 2) := by decide +kernel
theorem dL_sends_421 : decode cL_sends 421 = .ok (.iload 13, 2) := by decide +kernel
theorem dL_sends_423 : decode cL_sends 423 = .ok (.invokestatic 161, 3) := by decide +kernel
theorem dL_sends_426 : decode cL_sends 426 = .ok (.iload 16, 2) := by decide +kernel
theorem dL_sends_428 : decode cL_sends 428 = .ok (.if_icmp .ne 7, 3) := by decide +kernel
theorem dL_sends_431 : decode cL_sends 431 = .ok (.iconst 1, 1) := by decide +kernel
theorem dL_sends_432 : decode cL_sends 432 = .ok (.goto 4, 3) := by decide +kernel
theorem dL_sends_435 : decode cL_sends 435 = .ok (.iconst 0, 1) := by decide +kernel
theorem dL_sends_436 : decode cL_sends 436 = .ok (.ireturn, 1) := by decide +kernel
theorem dL_sends_437 : decode cL_sends 437 = .ok (.bipush 16, 2) := by decide +kernel
theorem dL_sends_439 : decode cL_sends 439 = .ok (.newarray .int, 2) := by decide +kernel
theorem dL_sends_441 : decode cL_sends 441 = .ok (.astore 16, 2) := by decide +kernel
theorem dL_sends_443 : decode cL_sends 443 = .ok (.iload 14, 2) := by decide +kernel
theorem dL_sends_445 : decode cL_sends 445 = .ok (.ifCond .ne 8, 3) := by decide +kernel
theorem dL_sends_448 : decode cL_sends 448 = .ok (.bipush (-101), 2) := by decide +kernel
theorem dL_sends_450 : decode cL_sends 450 = .ok (.goto 44, 3) := by decide +kernel
theorem dL_sends_453 : decode cL_sends 453 = .ok (.aload 11, 2) := by decide +kernel
theorem dL_sends_455 : decode cL_sends 455 = .ok (.iload 12, 2) := by decide +kernel
theorem dL_sends_457 : decode cL_sends 457 = .ok (.iaload, 1) := by decide +kernel
theorem dL_sends_458 : decode cL_sends 458 = .ok (.ifCond .ge 8, 3) := by decide +kernel
theorem dL_sends_461 : decode cL_sends 461 = .ok (.bipush (-102), 2) := by decide +kernel
theorem dL_sends_463 : decode cL_sends 463 = .ok (.goto 31, 3) := by decide +kernel
theorem dL_sends_466 : decode cL_sends 466 = .ok (.aload_n 3, 1) := by decide +kernel
theorem dL_sends_467 : decode cL_sends 467 = .ok (.bipush 16, 2) := by decide +kernel
theorem dL_sends_469 : decode cL_sends 469 = .ok (.iload 13, 2) := by decide +kernel
theorem dL_sends_471 : decode cL_sends 471 = .ok (.imul, 1) := by decide +kernel
theorem dL_sends_472 : decode cL_sends 472 = .ok (.aload 4, 2) := by decide +kernel
theorem dL_sends_474 : decode cL_sends 474 = .ok (.iload 13, 2) := by decide +kernel
theorem dL_sends_476 : decode cL_sends 476 = .ok (.iaload, 1) := by decide +kernel
theorem dL_sends_477 : decode cL_sends 477 = .ok (.aload 7, 2) := by decide +kernel
theorem dL_sends_479 : decode cL_sends 479 = .ok (.aload 8, 2) := by decide +kernel
theorem dL_sends_481 : decode cL_sends 481 = .ok (.aload 9, 2) := by decide +kernel
theorem dL_sends_483 : decode cL_sends 483 = .ok (.aload 10, 2) := by decide +kernel
theorem dL_sends_485 : decode cL_sends 485 = .ok (.aload 11, 2) := by decide +kernel
theorem dL_sends_487 : decode cL_sends 487 = .ok (.iload 12, 2) := by decide +kernel
theorem dL_sends_489 : decode cL_sends 489 = .ok (.aload 16, 2) := by decide +kernel
theorem dL_sends_491 : decode cL_sends 491 = .ok (.invokestatic 164, 3) := by decide +kernel
theorem dL_sends_494 : decode cL_sends 494 = .ok (.istore 17, 2) := by decide +kernel
theorem dL_sends_496 : decode cL_sends 496 = .ok (.iload 17, 2) := by decide +kernel
theorem dL_sends_498 : decode cL_sends 498 = .ok (.iconst (-1), 1) := by decide +kernel
theorem dL_sends_499 : decode cL_sends 499 = .ok (.if_icmp .ne 8, 3) := by decide +kernel
theorem dL_sends_502 : decode cL_sends 502 = .ok (.bipush (-102), 2) := by decide +kernel
theorem dL_sends_504 : decode cL_sends 504 = .ok (.goto 5, 3) := by decide +kernel
theorem dL_sends_507 : decode cL_sends 507 = .ok (.iload 17, 2) := by decide +kernel
theorem dL_sends_509 : decode cL_sends 509 = .ok (.istore 17, 2) := by decide +kernel
theorem dL_sends_511 : decode cL_sends 511 = .ok (.iload 17, 2) := by decide +kernel
theorem dL_sends_513 : decode cL_sends 513 = .ok (.ifCond .lt 16, 3) := by decide +kernel
theorem dL_sends_516 : decode cL_sends 516 = .ok (.aload_n 3, 1) := by decide +kernel
theorem dL_sends_517 : decode cL_sends 517 = .ok (.aload 4, 2) := by decide +kernel
theorem dL_sends_519 : decode cL_sends 519 = .ok (.iload 15, 2) := by decide +kernel
theorem dL_sends_521 : decode cL_sends 521 = .ok (.aload 16, 2) := by decide +kernel
theorem dL_sends_523 : decode cL_sends 523 = .ok (.iconst 0, 1) := by decide +kernel
theorem dL_sends_524 : decode cL_sends 524 = .ok (.iload 17, 2) := by decide +kernel
theorem dL_sends_526 : decode cL_sends 526 = .ok (.invokestatic 146, 3) := by decide +kernel
theorem dL_sends_529 : decode cL_sends 529 = .ok (.aload_n 0, 1) := by decide +kernel
theorem dL_sends_530 : decode cL_sends 530 = .ok (.iconst 1, 1) := by decide +kernel
theorem dL_sends_531 : decode cL_sends 531 = .ok (.iload 12, 2) := by decide +kernel
theorem dL_sends_533 : decode cL_sends 533 = .ok (.iload 13, 2) := by decide +kernel
theorem dL_sends_535 : decode cL_sends 535 = .ok (.iload 15, 2) := by decide +kernel
theorem dL_sends_537 : decode cL_sends 537 = .ok (.invokestatic 161, 3) := by decide +kernel
theorem dL_sends_540 : decode cL_sends 540 = .ok (.iload 17, 2) := by decide +kernel
theorem dL_sends_542 : decode cL_sends 542 = .ok (.if_icmp .ne 7, 3) := by decide +kernel
theorem dL_sends_545 : decode cL_sends 545 = .ok (.iconst 1, 1) := by decide +kernel
theorem dL_sends_546 : decode cL_sends 546 = .ok (.goto 4, 3) := by decide +kernel
theorem dL_sends_549 : decode cL_sends 549 = .ok (.iconst 0, 1) := by decide +kernel
theorem dL_sends_550 : decode cL_sends 550 = .ok (.ireturn, 1) := by decide +kernel
theorem dL_rebuild_0 : decode cL_rebuild 0 = .ok (.iload_n 0, 1) := by decide +kernel
theorem dL_rebuild_1 : decode cL_rebuild 1 = .ok (.istore 10, 2) := by decide +kernel
theorem dL_rebuild_3 : decode cL_rebuild 3 = .ok (.iconst 0, 1) := by decide +kernel
theorem dL_rebuild_4 : decode cL_rebuild 4 = .ok (.istore 11, 2) := by decide +kernel
theorem dL_rebuild_6 : decode cL_rebuild 6 = .ok (.aload_n 2, 1) := by decide +kernel
theorem dL_rebuild_7 : decode cL_rebuild 7 = .ok (.iload 10, 2) := by decide +kernel
theorem dL_rebuild_9 : decode cL_rebuild 9 = .ok (.iaload, 1) := by decide +kernel
theorem dL_rebuild_10 : decode cL_rebuild 10 = .ok (.iconst 2, 1) := by decide +kernel
theorem dL_rebuild_11 : decode cL_rebuild 11 = .ok (.if_icmp .ne 17, 3) := by decide +kernel
theorem dL_rebuild_14 : decode cL_rebuild 14 = .ok (.aload_n 2, 1) := by decide +kernel
theorem dL_rebuild_15 : decode cL_rebuild 15 = .ok (.iconst 4, 1) := by decide +kernel
theorem dL_rebuild_16 : decode cL_rebuild 16 = .ok (.iload 10, 2) := by decide +kernel
theorem dL_rebuild_18 : decode cL_rebuild 18 = .ok (.iadd, 1) := by decide +kernel
theorem dL_rebuild_19 : decode cL_rebuild 19 = .ok (.iaload, 1) := by decide +kernel
theorem dL_rebuild_20 : decode cL_rebuild 20 = .ok (.istore 10, 2) := by decide +kernel
theorem dL_rebuild_22 : decode cL_rebuild 22 = .ok (.iinc 11 1, 3) := by decide +kernel
theorem dL_rebuild_25 : decode cL_rebuild 25 = .ok (.goto (-19), 3) := by decide +kernel
theorem dL_rebuild_28 : decode cL_rebuild 28 = .ok (.aload 9, 2) := by decide +kernel
theorem dL_rebuild_30 : decode cL_rebuild 30 = .ok (.iconst 0, 1) := by decide +kernel
theorem dL_rebuild_31 : decode cL_rebuild 31 = .ok (.iconst (-1), 1) := by decide +kernel
theorem dL_rebuild_32 : decode cL_rebuild 32 = .ok (.iastore, 1) := by decide +kernel
theorem dL_rebuild_33 : decode cL_rebuild 33 = .ok (.aload 9, 2) := by decide +kernel
theorem dL_rebuild_35 : decode cL_rebuild 35 = .ok (.iconst 1, 1) := by decide +kernel
theorem dL_rebuild_36 : decode cL_rebuild 36 = .ok (.iconst (-1), 1) := by decide +kernel
theorem dL_rebuild_37 : decode cL_rebuild 37 = .ok (.iastore, 1) := by decide +kernel
theorem dL_rebuild_38 : decode cL_rebuild 38 = .ok (.aload 9, 2) := by decide +kernel
theorem dL_rebuild_40 : decode cL_rebuild 40 = .ok (.iconst 2, 1) := by decide +kernel
theorem dL_rebuild_41 : decode cL_rebuild 41 = .ok (.iconst (-1), 1) := by decide +kernel
theorem dL_rebuild_42 : decode cL_rebuild 42 = .ok (.iastore, 1) := by decide +kernel
theorem dL_rebuild_43 : decode cL_rebuild 43 = .ok (.aload_n 2, 1) := by decide +kernel
theorem dL_rebuild_44 : decode cL_rebuild 44 = .ok (.iload 10, 2) := by decide +kernel
theorem dL_rebuild_46 : decode cL_rebuild 46 = .ok (.iaload, 1) := by decide +kernel
theorem dL_rebuild_47 : decode cL_rebuild 47 = .ok (.ifCond .ne 22, 3) := by decide +kernel
theorem dL_rebuild_50 : decode cL_rebuild 50 = .ok (.aload 9, 2) := by decide +kernel
theorem dL_rebuild_52 : decode cL_rebuild 52 = .ok (.iconst 0, 1) := by decide +kernel
theorem dL_rebuild_53 : decode cL_rebuild 53 = .ok (.iload 10, 2) := by decide +kernel
theorem dL_rebuild_55 : decode cL_rebuild 55 = .ok (.iastore, 1) := by decide +kernel
theorem dL_rebuild_56 : decode cL_rebuild 56 = .ok (.aload 9, 2) := by decide +kernel
theorem dL_rebuild_58 : decode cL_rebuild 58 = .ok (.iconst 1, 1) := by decide +kernel
theorem dL_rebuild_59 : decode cL_rebuild 59 = .ok (.iload 11, 2) := by decide +kernel
theorem dL_rebuild_61 : decode cL_rebuild 61 = .ok (.iastore, 1) := by decide +kernel
theorem dL_rebuild_62 : decode cL_rebuild 62 = .ok (.aload 9, 2) := by decide +kernel
theorem dL_rebuild_64 : decode cL_rebuild 64 = .ok (.iconst 2, 1) := by decide +kernel
theorem dL_rebuild_65 : decode cL_rebuild 65 = .ok (.iconst 1, 1) := by decide +kernel
theorem dL_rebuild_66 : decode cL_rebuild 66 = .ok (.iastore, 1) := by decide +kernel
theorem dL_rebuild_67 : decode cL_rebuild 67 = .ok (.iconst (-1), 1) := by decide +kernel
theorem dL_rebuild_68 : decode cL_rebuild 68 = .ok (.ireturn, 1) := by decide +kernel
theorem dL_rebuild_69 : decode cL_rebuild 69 = .ok (.aload_n 2, 1) := by decide +kernel
theorem dL_rebuild_70 : decode cL_rebuild 70 = .ok (.bipush 8, 2) := by decide +kernel
theorem dL_rebuild_72 : decode cL_rebuild 72 = .ok (.iload 10, 2) := by decide +kernel
theorem dL_rebuild_74 : decode cL_rebuild 74 = .ok (.iadd, 1) := by decide +kernel
theorem dL_rebuild_75 : decode cL_rebuild 75 = .ok (.iaload, 1) := by decide +kernel
theorem dL_rebuild_76 : decode cL_rebuild 76 = .ok (.istore 12, 2) := by decide +kernel
theorem dL_rebuild_78 : decode cL_rebuild 78 = .ok (.bipush 16, 2) := by decide +kernel
theorem dL_rebuild_80 : decode cL_rebuild 80 = .ok (.newarray .int, 2) := by decide +kernel
theorem dL_rebuild_82 : decode cL_rebuild 82 = .ok (.astore 13, 2) := by decide +kernel
theorem dL_rebuild_84 : decode cL_rebuild 84 = .ok (.iconst 0, 1) := by decide +kernel
theorem dL_rebuild_85 : decode cL_rebuild 85 = .ok (.istore 14, 2) := by decide +kernel
theorem dL_rebuild_87 : decode cL_rebuild 87 = .ok (.iload 14, 2) := by decide +kernel
theorem dL_rebuild_89 : decode cL_rebuild 89 = .ok (.iload 12, 2) := by decide +kernel
theorem dL_rebuild_91 : decode cL_rebuild 91 = .ok (.if_icmp .ge 24, 3) := by decide +kernel
theorem dL_rebuild_94 : decode cL_rebuild 94 = .ok (.aload 13, 2) := by decide +kernel
theorem dL_rebuild_96 : decode cL_rebuild 96 = .ok (.iload 14, 2) := by decide +kernel
theorem dL_rebuild_98 : decode cL_rebuild 98 = .ok (.aload_n 1, 1) := by decide +kernel
theorem dL_rebuild_99 : decode cL_rebuild 99 = .ok (.bipush 16, 2) := by decide +kernel
theorem dL_rebuild_101 : decode cL_rebuild 101 = .ok (.iload 10, 2) := by decide +kernel
theorem dL_rebuild_103 : decode cL_rebuild 103 = .ok (.imul, 1) := by decide +kernel
theorem dL_rebuild_104 : decode cL_rebuild 104 = .ok (.iload 14, 2) := by decide +kernel
theorem dL_rebuild_106 : decode cL_rebuild 106 = .ok (.iadd, 1) := by decide +kernel
theorem dL_rebuild_107 : decode cL_rebuild 107 = .ok (.iaload, 1) := by decide +kernel
theorem dL_rebuild_108 : decode cL_rebuild 108 = .ok (.iastore, 1) := by decide +kernel
theorem dL_rebuild_109 : decode cL_rebuild 109 = .ok (.iinc 14 1, 3) := by decide +kernel
theorem dL_rebuild_112 : decode cL_rebuild 112 = .ok (.goto (-25), 3) := by decide +kernel
theorem dL_rebuild_115 : decode cL_rebuild 115 = .ok (.iload 11, 2) := by decide +kernel
theorem dL_rebuild_117 : decode cL_rebuild 117 = .ok (.iconst 1, 1) := by decide +kernel
theorem dL_rebuild_118 : decode cL_rebuild 118 = .ok (.isub, 1) := by decide +kernel
theorem dL_rebuild_119 : decode cL_rebuild 119 = .ok (.istore 14, 2) := by decide +kernel
theorem dL_rebuild_121 : decode cL_rebuild 121 = .ok (.iload 14, 2) := by decide +kernel
theorem dL_rebuild_123 : decode cL_rebuild 123 = .ok (.ifCond .lt 113, 3) := by decide +kernel
theorem dL_rebuild_126 : decode cL_rebuild 126 = .ok (.iload_n 0, 1) := by decide +kernel
theorem dL_rebuild_127 : decode cL_rebuild 127 = .ok (.istore 15, 2) := by decide +kernel
theorem dL_rebuild_129 : decode cL_rebuild 129 = .ok (.iconst 0, 1) := by decide +kernel
theorem dL_rebuild_130 : decode cL_rebuild 130 = .ok (.istore 16, 2) := by decide +kernel
theorem dL_rebuild_132 : decode cL_rebuild 132 = .ok (.iload 16, 2) := by decide +kernel
theorem dL_rebuild_134 : decode cL_rebuild 134 = .ok (.iload 14, 2) := by decide +kernel
theorem dL_rebuild_136 : decode cL_rebuild 136 = .ok (.if_icmp .ge 17, 3) := by decide +kernel
theorem dL_rebuild_139 : decode cL_rebuild 139 = .ok (.aload_n 2, 1) := by decide +kernel
theorem dL_rebuild_140 : decode cL_rebuild 140 = .ok (.iconst 4, 1) := by decide +kernel
theorem dL_rebuild_141 : decode cL_rebuild 141 = .ok (.iload 15, 2) := by decide +kernel
theorem dL_rebuild_143 : decode cL_rebuild 143 = .ok (.iadd, 1) := by decide +kernel
theorem dL_rebuild_144 : decode cL_rebuild 144 = .ok (.iaload, 1) := by decide +kernel
theorem dL_rebuild_145 : decode cL_rebuild 145 = .ok (.istore 15, 2) := by decide +kernel
theorem dL_rebuild_147 : decode cL_rebuild 147 = .ok (.iinc 16 1, 3) := by decide +kernel
theorem dL_rebuild_150 : decode cL_rebuild 150 = .ok (.goto (-18), 3) := by decide +kernel
theorem dL_rebuild_153 : decode cL_rebuild 153 = .ok (.aload 13, 2) := by decide +kernel
theorem dL_rebuild_155 : decode cL_rebuild 155 = .ok (.iconst 0, 1) := by decide +kernel
theorem dL_rebuild_156 : decode cL_rebuild 156 = .ok (.iload 12, 2) := by decide +kernel
theorem dL_rebuild_158 : decode cL_rebuild 158 = .ok (.aload_n 3, 1) := by decide +kernel
theorem dL_rebuild_159 : decode cL_rebuild 159 = .ok (.aload 4, 2) := by decide +kernel
theorem dL_rebuild_161 : decode cL_rebuild 161 = .ok (.aload 5, 2) := by decide +kernel
theorem dL_rebuild_163 : decode cL_rebuild 163 = .ok (.aload 6, 2) := by decide +kernel
theorem dL_rebuild_165 : decode cL_rebuild 165 = .ok (.aload 7, 2) := by decide +kernel
theorem dL_rebuild_167 : decode cL_rebuild 167 = .ok (.iload 15, 2) := by decide +kernel
theorem dL_rebuild_169 : decode cL_rebuild 169 = .ok (.aload 8, 2) := by decide +kernel
theorem dL_rebuild_171 : decode cL_rebuild 171 = .ok (.invokestatic 164, 3) := by decide +kernel
theorem dL_rebuild_174 : decode cL_rebuild 174 = .ok (.istore 16, 2) := by decide +kernel
theorem dL_rebuild_176 : decode cL_rebuild 176 = .ok (.iload 16, 2) := by decide +kernel
theorem dL_rebuild_178 : decode cL_rebuild 178 = .ok (.ifCond .ge 22, 3) := by decide +kernel
theorem dL_rebuild_181 : decode cL_rebuild 181 = .ok (.aload 9, 2) := by decide +kernel
theorem dL_rebuild_183 : decode cL_rebuild 183 = .ok (.iconst 0, 1) := by decide +kernel
theorem dL_rebuild_184 : decode cL_rebuild 184 = .ok (.iload 15, 2) := by decide +kernel
theorem dL_rebuild_186 : decode cL_rebuild 186 = .ok (.iastore, 1) := by decide +kernel
theorem dL_rebuild_187 : decode cL_rebuild 187 = .ok (.aload 9, 2) := by decide +kernel
theorem dL_rebuild_189 : decode cL_rebuild 189 = .ok (.iconst 1, 1) := by decide +kernel
theorem dL_rebuild_190 : decode cL_rebuild 190 = .ok (.iload 14, 2) := by decide +kernel
theorem dL_rebuild_192 : decode cL_rebuild 192 = .ok (.iastore, 1) := by decide +kernel
theorem dL_rebuild_193 : decode cL_rebuild 193 = .ok (.aload 9, 2) := by decide +kernel
theorem dL_rebuild_195 : decode cL_rebuild 195 = .ok (.iconst 2, 1) := by decide +kernel
theorem dL_rebuild_196 : decode cL_rebuild 196 = .ok (.iconst 2, 1) := by decide +kernel
theorem dL_rebuild_197 : decode cL_rebuild 197 = .ok (.iastore, 1) := by decide +kernel
theorem dL_rebuild_198 : decode cL_rebuild 198 = .ok (.iconst (-1), 1) := by decide +kernel
theorem dL_rebuild_199 : decode cL_rebuild 199 = .ok (.ireturn, 1) := by decide +kernel
theorem dL_rebuild_200 : decode cL_rebuild 200 = .ok (.iload 16, 2) := by decide +kernel
theorem dL_rebuild_202 : decode cL_rebuild 202 = .ok (.istore 12, 2) := by decide +kernel
theorem dL_rebuild_204 : decode cL_rebuild 204 = .ok (.iconst 0, 1) := by decide +kernel
theorem dL_rebuild_205 : decode cL_rebuild 205 = .ok (.istore 17, 2) := by decide +kernel
theorem dL_rebuild_207 : decode cL_rebuild 207 = .ok (.iload 17, 2) := by decide +kernel
theorem dL_rebuild_209 : decode cL_rebuild 209 = .ok (.iload 12, 2) := by decide +kernel
theorem dL_rebuild_211 : decode cL_rebuild 211 = .ok (.if_icmp .ge 19, 3) := by decide +kernel
theorem dL_rebuild_214 : decode cL_rebuild 214 = .ok (.aload 13, 2) := by decide +kernel
theorem dL_rebuild_216 : decode cL_rebuild 216 = .ok (.iload 17, 2) := by decide +kernel
theorem dL_rebuild_218 : decode cL_rebuild 218 = .ok (.aload 8, 2) := by decide +kernel
theorem dL_rebuild_220 : decode cL_rebuild 220 = .ok (.iload 17, 2) := by decide +kernel
theorem dL_rebuild_222 : decode cL_rebuild 222 = .ok (.iaload, 1) := by decide +kernel
theorem dL_rebuild_223 : decode cL_rebuild 223 = .ok (.iastore, 1) := by decide +kernel
theorem dL_rebuild_224 : decode cL_rebuild 224 = .ok (.iinc 17 1, 3) := by decide +kernel
theorem dL_rebuild_227 : decode cL_rebuild 227 = .ok (.goto (-20), 3) := by decide +kernel
theorem dL_rebuild_230 : decode cL_rebuild 230 = .ok (.iinc 14 (-1), 3) := by decide +kernel
theorem dL_rebuild_233 : decode cL_rebuild 233 = .ok (.goto (-112), 3) := by decide +kernel
theorem dL_rebuild_236 : decode cL_rebuild 236 = .ok (.iconst 0, 1) := by decide +kernel
theorem dL_rebuild_237 : decode cL_rebuild 237 = .ok (.istore 14, 2) := by decide +kernel
theorem dL_rebuild_239 : decode cL_rebuild 239 = .ok (.iload 14, 2) := by decide +kernel
theorem dL_rebuild_241 : decode cL_rebuild 241 = .ok (.iload 12, 2) := by decide +kernel
theorem dL_rebuild_243 : decode cL_rebuild 243 = .ok (.if_icmp .ge 19, 3) := by decide +kernel
theorem dL_rebuild_246 : decode cL_rebuild 246 = .ok (.aload 8, 2) := by decide +kernel
theorem dL_rebuild_248 : decode cL_rebuild 248 = .ok (.iload 14, 2) := by decide +kernel
theorem dL_rebuild_250 : decode cL_rebuild 250 = .ok (.aload 13, 2) := by decide +kernel
theorem dL_rebuild_252 : decode cL_rebuild 252 = .ok (.iload 14, 2) := by decide +kernel
theorem dL_rebuild_254 : decode cL_rebuild 254 = .ok (.iaload, 1) := by decide +kernel
theorem dL_rebuild_255 : decode cL_rebuild 255 = .ok (.iastore, 1) := by decide +kernel
theorem dL_rebuild_256 : decode cL_rebuild 256 = .ok (.iinc 14 1, 3) := by decide +kernel
theorem dL_rebuild_259 : decode cL_rebuild 259 = .ok (.goto (-20), 3) := by decide +kernel
theorem dL_rebuild_262 : decode cL_rebuild 262 = .ok (.iload 12, 2) := by decide +kernel
theorem dL_rebuild_264 : decode cL_rebuild 264 = .ok (.ireturn, 1) := by decide +kernel
theorem dL_held_0 : decode cL_held 0 = .ok (.aload_n 1, 1) := by decide +kernel
theorem dL_held_1 : decode cL_held 1 = .ok (.iload_n 0, 1) := by decide +kernel
theorem dL_held_2 : decode cL_held 2 = .ok (.iaload, 1) := by decide +kernel
theorem dL_held_3 : decode cL_held 3 = .ok (.ifCond .ne 7, 3) := by decide +kernel
theorem dL_held_6 : decode cL_held 6 = .ok (.iconst 0, 1) := by decide +kernel
theorem dL_held_7 : decode cL_held 7 = .ok (.goto 27, 3) := by decide +kernel
theorem dL_held_10 : decode cL_held 10 = .ok (.aload_n 1, 1) := by decide +kernel
theorem dL_held_11 : decode cL_held 11 = .ok (.iload_n 0, 1) := by decide +kernel
theorem dL_held_12 : decode cL_held 12 = .ok (.iaload, 1) := by decide +kernel
theorem dL_held_13 : decode cL_held 13 = .ok (.iconst 1, 1) := by decide +kernel
theorem dL_held_14 : decode cL_held 14 = .ok (.if_icmp .ne 12, 3) := by decide +kernel
theorem dL_held_17 : decode cL_held 17 = .ok (.aload_n 1, 1) := by decide +kernel
theorem dL_held_18 : decode cL_held 18 = .ok (.bipush 8, 2) := by decide +kernel
theorem dL_held_20 : decode cL_held 20 = .ok (.iload_n 0, 1) := by decide +kernel
theorem dL_held_21 : decode cL_held 21 = .ok (.iadd, 1) := by decide +kernel
theorem dL_held_22 : decode cL_held 22 = .ok (.iaload, 1) := by decide +kernel
theorem dL_held_23 : decode cL_held 23 = .ok (.goto 11, 3) := by decide +kernel
theorem dL_held_26 : decode cL_held 26 = .ok (.aload_n 2, 1) := by decide +kernel
theorem dL_held_27 : decode cL_held 27 = .ok (.aload_n 3, 1) := by decide +kernel
theorem dL_held_28 : decode cL_held 28 = .ok (.aload 4, 2) := by decide +kernel
theorem dL_held_30 : decode cL_held 30 = .ok (.iload_n 0, 1) := by decide +kernel
theorem dL_held_31 : decode cL_held 31 = .ok (.invokestatic 167, 3) := by decide +kernel
theorem dL_held_34 : decode cL_held 34 = .ok (.ireturn, 1) := by decide +kernel
theorem dL_versions_0 : decode cL_versions 0 = .ok (.bipush 16, 2) := by decide +kernel
theorem dL_versions_2 : decode cL_versions 2 = .ok (.newarray .int, 2) := by decide +kernel
theorem dL_versions_4 : decode cL_versions 4 = .ok (.astore 13, 2) := by decide +kernel
theorem dL_versions_6 : decode cL_versions 6 = .ok (.iconst 3, 1) := by decide +kernel
theorem dL_versions_7 : decode cL_versions 7 = .ok (.newarray .int, 2) := by decide +kernel
theorem dL_versions_9 : decode cL_versions 9 = .ok (.astore 14, 2) := by decide +kernel
theorem dL_versions_11 : decode cL_versions 11 = .ok (.iload_n 2, 1) := by decide +kernel
theorem dL_versions_12 : decode cL_versions 12 = .ok (.iconst 5, 1) := by decide +kernel
theorem dL_versions_13 : decode cL_versions 13 = .ok (.invokestatic 136, 3) := by decide +kernel
theorem dL_versions_16 : decode cL_versions 16 = .ok (.iload_n 2, 1) := by decide +kernel
theorem dL_versions_17 : decode cL_versions 17 = .ok (.bipush 9, 2) := by decide +kernel
theorem dL_versions_19 : decode cL_versions 19 = .ok (.ishr, 1) := by decide +kernel
theorem dL_versions_20 : decode cL_versions 20 = .ok (.bipush 13, 2) := by decide +kernel
theorem dL_versions_22 : decode cL_versions 22 = .ok (.invokestatic 136, 3) := by decide +kernel
theorem dL_versions_25 : decode cL_versions 25 = .ok (.ifCond .ne 7, 3) := by decide +kernel
theorem dL_versions_28 : decode cL_versions 28 = .ok (.iconst 1, 1) := by decide +kernel
theorem dL_versions_29 : decode cL_versions 29 = .ok (.goto 4, 3) := by decide +kernel
theorem dL_versions_32 : decode cL_versions 32 = .ok (.iconst 0, 1) := by decide +kernel
theorem dL_versions_33 : decode cL_versions 33 = .ok (.isub, 1) := by decide +kernel
theorem dL_versions_34 : decode cL_versions 34 = .ok (.istore 15, 2) := by decide +kernel
theorem dL_versions_36 : decode cL_versions 36 = .ok (.iload_n 2, 1) := by decide +kernel
theorem dL_versions_37 : decode cL_versions 37 = .ok (.iconst 3, 1) := by decide +kernel
theorem dL_versions_38 : decode cL_versions 38 = .ok (.ishr, 1) := by decide +kernel
theorem dL_versions_39 : decode cL_versions 39 = .ok (.iconst 5, 1) := by decide +kernel
theorem dL_versions_40 : decode cL_versions 40 = .ok (.invokestatic 136, 3) := by decide +kernel
theorem dL_versions_43 : decode cL_versions 43 = .ok (.istore 16, 2) := by decide +kernel
theorem dL_versions_45 : decode cL_versions 45 = .ok (.iload 15, 2) := by decide +kernel
theorem dL_versions_47 : decode cL_versions 47 = .ok (.ifCond .lt 13, 3) := by decide +kernel
theorem dL_versions_50 : decode cL_versions 50 = .ok (.iload 15, 2) := by decide +kernel
theorem dL_versions_52 : decode cL_versions 52 = .ok (.iconst 4, 1) := by decide +kernel
theorem dL_versions_53 : decode cL_versions 53 = .ok (.if_icmp .ge 7, 3) := by decide +kernel
theorem dL_versions_56 : decode cL_versions 56 = .ok (.iconst 1, 1) := by decide +kernel
theorem dL_versions_57 : decode cL_versions 57 = .ok (.goto 4, 3) := by decide +kernel
theorem dL_versions_60 : decode cL_versions 60 = .ok (.iconst 0, 1) := by decide +kernel
theorem dL_versions_61 : decode cL_versions 61 = .ok (.istore 17, 2) := by decide +kernel
theorem dL_versions_63 : decode cL_versions 63 = .ok (.iload 17, 2) := by decide +kernel
theorem dL_versions_65 : decode cL_versions 65 = .ok (.ifCond .eq 16, 3) := by decide +kernel
theorem dL_versions_68 : decode cL_versions 68 = .ok (.iload 16, 2) := by decide +kernel
theorem dL_versions_70 : decode cL_versions 70 = .ok (.aload 12, 2) := by decide +kernel
theorem dL_versions_72 : decode cL_versions 72 = .ok (.iconst 0, 1) := by decide +kernel
theorem dL_versions_73 : decode cL_versions 73 = .ok (.iaload, 1) := by decide +kernel
theorem dL_versions_74 : decode cL_versions 74 = .ok (.if_icmp .ge 7, 3) := by decide +kernel
theorem dL_versions_77 : decode cL_versions 77 = .ok (.iconst 1, 1) := by decide +kernel
theorem dL_versions_78 : decode cL_versions 78 = .ok (.goto 4, 3) := by decide +kernel
theorem dL_versions_81 : decode cL_versions 81 = .ok (.iconst 0, 1) := by decide +kernel
theorem dL_versions_82 : decode cL_versions 82 = .ok (.istore 18, 2) := by decide +kernel
theorem dL_versions_84 : decode cL_versions 84 = .ok (.iload_n 1, 1) := by decide +kernel
theorem dL_versions_85 : decode cL_versions 85 = .ok (.iconst 2, 1) := by decide +kernel
theorem dL_versions_86 : decode cL_versions 86 = .ok (.if_icmp .ge 348, 3) := by decide +kernel
theorem dL_versions_89 : decode cL_versions 89 = .ok (.iload_n 2, 1) := by decide +kernel
theorem dL_versions_90 : decode cL_versions 90 = .ok (.bipush 6, 2) := by decide +kernel
theorem dL_versions_92 : decode cL_versions 92 = .ok (.ishr, 1) := by decide +kernel
theorem dL_versions_93 : decode cL_versions 93 = .ok (.bipush 13, 2) := by decide +kernel
theorem dL_versions_95 : decode cL_versions 95 = .ok (.invokestatic 136, 3) := by decide +kernel
theorem dL_versions_98 : decode cL_versions 98 = .ok (.ifCond .ne 14, 3) := by decide +kernel
theorem dL_versions_101 : decode cL_versions 101 = .ok (.iload_n 2, 1) := by decide +kernel
theorem dL_versions_102 : decode cL_versions 102 = .ok (.iconst 2, 1) := by decide +kernel
theorem dL_versions_103 : decode cL_versions 103 = .ok (.invokestatic 136, 3) := by decide +kernel
theorem dL_versions_106 : decode cL_versions 106 = .ok (.bipush 8, 2) := by decide +kernel
theorem dL_versions_108 : decode cL_versions 108 = .ok (.imul, 1) := by decide +kernel
theorem dL_versions_109 : decode cL_versions 109 = .ok (.goto 13, 3) := by decide +kernel
theorem dL_versions_112 : decode cL_versions 112 = .ok (.iconst 1, 1) := by decide +kernel
theorem dL_versions_113 : decode cL_versions 113 = .ok (.iload_n 2, 1) := by decide +kernel
theorem dL_versions_114 : decode cL_versions 114 = .ok (.bipush 6, 2) := by decide +kernel
theorem dL_versions_116 : decode cL_versions 116 = .ok (.ishr, 1) := by decide +kernel
theorem dL_versions_117 : decode cL_versions 117 = .ok (.iconst 5, 1) := by decide +kernel
theorem dL_versions_118 : decode cL_versions 118 = .ok (.invokestatic 136, 3) := by decide +kernel
theorem dL_versions_121 : decode cL_versions 121 = .ok (.iadd, 1) := by decide +kernel
theorem dL_versions_122 : decode cL_versions 122 = .ok (.istore 19, 2) := by decide +kernel
theorem dL_versions_124 : decode cL_versions 124 = .ok (.iload 19, 2) := by decide +kernel
theorem dL_versions_126 : decode cL_versions 126 = .ok (.ifCond .le 14, 3) := by decide +kernel
theorem dL_versions_129 : decode cL_versions 129 = .ok (.iload 19, 2) := by decide +kernel
theorem dL_versions_131 : decode cL_versions 131 = .ok (.bipush 8, 2) := by decide +kernel
theorem dL_versions_133 : decode cL_versions 133 = .ok (.if_icmp .ge 7, 3) := by decide +kernel
theorem dL_versions_136 : decode cL_versions 136 = .ok (.iconst 1, 1) := by decide +kernel
theorem dL_versions_137 : decode cL_versions 137 = .ok (.goto 4, 3) := by decide +kernel
theorem dL_versions_140 : decode cL_versions 140 = .ok (.iconst 0, 1) := by decide +kernel
theorem dL_versions_141 : decode cL_versions 141 = .ok (.istore 20, 2) := by decide +kernel
theorem dL_versions_143 : decode cL_versions 143 = .ok (.iload_n 1, 1) := by decide +kernel
theorem dL_versions_144 : decode cL_versions 144 = .ok (.iconst 1, 1) := by decide +kernel
theorem dL_versions_145 : decode cL_versions 145 = .ok (.if_icmp .ne 34, 3) := by decide +kernel
theorem dL_versions_148 : decode cL_versions 148 = .ok (.iload 18, 2) := by decide +kernel
theorem dL_versions_150 : decode cL_versions 150 = .ok (.ifCond .eq 29, 3) := by decide +kernel
theorem dL_versions_153 : decode cL_versions 153 = .ok (.iload 16, 2) := by decide +kernel
theorem dL_versions_155 : decode cL_versions 155 = .ok (.aload 5, 2) := by decide +kernel
theorem dL_versions_157 : decode cL_versions 157 = .ok (.aload 6, 2) := by decide +kernel
theorem dL_versions_159 : decode cL_versions 159 = .ok (.aload 7, 2) := by decide +kernel
theorem dL_versions_161 : decode cL_versions 161 = .ok (.aload 8, 2) := by decide +kernel
theorem dL_versions_163 : decode cL_versions 163 = .ok (.aload 9, 2) := by decide +kernel
theorem dL_versions_165 : decode cL_versions 165 = .ok (.aload 10, 2) := by decide +kernel
theorem dL_versions_167 : decode cL_versions 167 = .ok (.aload 11, 2) := by decide +kernel
theorem dL_versions_169 : decode cL_versions 169 = .ok (.aload 13, 2) := by decide +kernel
theorem dL_versions_171 : decode cL_versions 171 = .ok (.aload 14, 2) := by decide +kernel
theorem dL_versions_173 : decode cL_versions 173 = .ok (.invokestatic 170, 3) := by decide +kernel
theorem dL_versions_176 : decode cL_versions 176 = .ok (.goto 4, 3) := by decide +kernel
theorem dL_versions_179 : decode cL_versions 179 = .ok (.iconst 0, 1) := by decide +kernel
theorem dL_versions_180 : decode cL_versions 180 = .ok (.istore 21, 2) := by decide +kernel
theorem dL_versions_182 : decode cL_versions 182 = .ok (.iload_n 1, 1) := by decide +kernel
theorem dL_versions_183 : decode cL_versions 183 = .ok (.ifCond .ne 20, 3) := by decide +kernel
theorem dL_versions_186 : decode cL_versions 186 = .ok (.iload 17, 2) := by decide +kernel
theorem dL_versions_188 : decode cL_versions 188 = .ok (.ifCond .eq 10, 3) := by decide +kernel
theorem dL_versions_191 : decode cL_versions 191 = .ok (.aload 12, 2) := by decide +kernel
theorem dL_versions_193 : decode cL_versions 193 = .ok (.iconst 0, 1) := by decide +kernel
theorem dL_versions_194 : decode cL_versions 194 = .ok (.iaload, 1) := by decide +kernel
theorem dL_versions_195 : decode cL_versions 195 = .ok (.goto 42, 3) := by decide +kernel
theorem dL_versions_198 : decode cL_versions 198 = .ok (.bipush (-101), 2) := by decide +kernel
theorem dL_versions_200 : decode cL_versions 200 = .ok (.goto 37, 3) := by decide +kernel
theorem dL_versions_203 : decode cL_versions 203 = .ok (.iload 18, 2) := by decide +kernel
theorem dL_versions_205 : decode cL_versions 205 = .ok (.ifCond .ne 8, 3) := by decide +kernel
theorem dL_versions_208 : decode cL_versions 208 = .ok (.bipush (-101), 2) := by decide +kernel
theorem dL_versions_210 : decode cL_versions 210 = .ok (.goto 27, 3) := by decide +kernel
theorem dL_versions_213 : decode cL_versions 213 = .ok (.iload 20, 2) := by decide +kernel
theorem dL_versions_215 : decode cL_versions 215 = .ok (.ifCond .ne 8, 3) := by decide +kernel
theorem dL_versions_218 : decode cL_versions 218 = .ok (.bipush (-102), 2) := by decide +kernel
theorem dL_versions_220 : decode cL_versions 220 = .ok (.goto 17, 3) := by decide +kernel
theorem dL_versions_223 : decode cL_versions 223 = .ok (.iload 21, 2) := by decide +kernel
theorem dL_versions_225 : decode cL_versions 225 = .ok (.ifCond .ge 8, 3) := by decide +kernel
theorem dL_versions_228 : decode cL_versions 228 = .ok (.bipush (-103), 2) := by decide +kernel
theorem dL_versions_230 : decode cL_versions 230 = .ok (.goto 7, 3) := by decide +kernel
theorem dL_versions_233 : decode cL_versions 233 = .ok (.aload 12, 2) := by decide +kernel
theorem dL_versions_235 : decode cL_versions 235 = .ok (.iconst 0, 1) := by decide +kernel
theorem dL_versions_236 : decode cL_versions 236 = .ok (.iaload, 1) := by decide +kernel
theorem dL_versions_237 : decode cL_versions 237 = .ok (.istore 22, 2) := by decide +kernel
theorem dL_versions_239 : decode cL_versions 239 = .ok (.iload 22, 2) := by decide +kernel
theorem dL_versions_241 : decode cL_versions 241 = .ok (.iconst 4, 1) := by decide +kernel
theorem dL_versions_242 : decode cL_versions 242 = .ok (.if_icmp .ne 5, 3) := by decide +kernel
theorem dL_versions_245 : decode cL_versions 245 = .ok (.iconst 1, 1) := by decide +kernel
theorem dL_versions_246 : decode cL_versions 246 = .ok (.ireturn, 1) := by decide +kernel
theorem dL_versions_247 : decode cL_versions 247 = .ok (.iload 22, 2) := by decide +kernel
theorem dL_versions_249 : decode cL_versions 249 = .ok (.ifCond .lt 81, 3) := by decide +kernel
theorem dL_versions_252 : decode cL_versions 252 = .ok (.aload 12, 2) := by decide +kernel
theorem dL_versions_254 : decode cL_versions 254 = .ok (.iconst 0, 1) := by decide +kernel
theorem dL_versions_255 : decode cL_versions 255 = .ok (.dup2, 1) := by decide +kernel
theorem dL_versions_256 : decode cL_versions 256 = .ok (.iaload, 1) := by decide +kernel
theorem dL_versions_257 : decode cL_versions 257 = .ok (.iconst 1, 1) := by decide +kernel
theorem dL_versions_258 : decode cL_versions 258 = .ok (.iadd, 1) := by decide +kernel
theorem dL_versions_259 : decode cL_versions 259 = .ok (.iastore, 1) := by decide +kernel
theorem dL_versions_260 : decode cL_versions 260 = .ok (.aload 6, 2) := by decide +kernel
theorem dL_versions_262 : decode cL_versions 262 = .ok (.iload 22, 2) := by decide +kernel
theorem dL_versions_264 : decode cL_versions 264 = .ok (.iconst 1, 1) := by decide +kernel
theorem dL_versions_265 : decode cL_versions 265 = .ok (.iload_n 1, 1) := by decide +kernel
theorem dL_versions_266 : decode cL_versions 266 = .ok (.iadd, 1) := by decide +kernel
theorem dL_versions_267 : decode cL_versions 267 = .ok (.iastore, 1) := by decide +kernel
theorem dL_versions_268 : decode cL_versions 268 = .ok (.aload 6, 2) := by decide +kernel
theorem dL_versions_270 : decode cL_versions 270 = .ok (.iconst 4, 1) := by decide +kernel
theorem dL_versions_271 : decode cL_versions 271 = .ok (.iload 22, 2) := by decide +kernel
theorem dL_versions_273 : decode cL_versions 273 = .ok (.iadd, 1) := by decide +kernel
theorem dL_versions_274 : decode cL_versions 274 = .ok (.iload 16, 2) := by decide +kernel
theorem dL_versions_276 : decode cL_versions 276 = .ok (.iastore, 1) := by decide +kernel
theorem dL_versions_277 : decode cL_versions 277 = .ok (.aload 6, 2) := by decide +kernel
theorem dL_versions_279 : decode cL_versions 279 = .ok (.bipush 8, 2) := by decide +kernel
theorem dL_versions_281 : decode cL_versions 281 = .ok (.iload 22, 2) := by decide +kernel
theorem dL_versions_283 : decode cL_versions 283 = .ok (.iadd, 1) := by decide +kernel
theorem dL_versions_284 : decode cL_versions 284 = .ok (.aload 4, 2) := by decide +kernel
theorem dL_versions_286 : decode cL_versions 286 = .ok (.iload 15, 2) := by decide +kernel
theorem dL_versions_288 : decode cL_versions 288 = .ok (.iaload, 1) := by decide +kernel
theorem dL_versions_289 : decode cL_versions 289 = .ok (.iastore, 1) := by decide +kernel
theorem dL_versions_290 : decode cL_versions 290 = .ok (.iconst 0, 1) := by decide +kernel
theorem dL_versions_291 : decode cL_versions 291 = .ok (.istore 23, 2) := by decide +kernel
theorem dL_versions_293 : decode cL_versions 293 = .ok (.iload 23, 2) := by decide +kernel
theorem dL_versions_295 : decode cL_versions 295 = .ok (.aload 4, 2) := by decide +kernel
theorem dL_versions_297 : decode cL_versions 297 = .ok (.iload 15, 2) := by decide +kernel
theorem dL_versions_299 : decode cL_versions 299 = .ok (.iaload, 1) := by decide +kernel
theorem dL_versions_300 : decode cL_versions 300 = .ok (.if_icmp .ge 30, 3) := by decide +kernel
theorem dL_versions_303 : decode cL_versions 303 = .ok (.aload 5, 2) := by decide +kernel
theorem dL_versions_305 : decode cL_versions 305 = .ok (.bipush 16, 2) := by decide +kernel
theorem dL_versions_307 : decode cL_versions 307 = .ok (.iload 22, 2) := by decide +kernel
theorem dL_versions_309 : decode cL_versions 309 = .ok (.imul, 1) := by decide +kernel
theorem dL_versions_310 : decode cL_versions 310 = .ok (.iload 23, 2) := by decide +kernel
theorem dL_versions_312 : decode cL_versions 312 = .ok (.iadd, 1) := by decide +kernel
theorem dL_versions_313 : decode cL_versions 313 = .ok (.aload_n 3, 1) := by decide +kernel
theorem dL_versions_314 : decode cL_versions 314 = .ok (.bipush 16, 2) := by decide +kernel
theorem dL_versions_316 : decode cL_versions 316 = .ok (.iload 15, 2) := by decide +kernel
theorem dL_versions_318 : decode cL_versions 318 = .ok (.imul, 1) := by decide +kernel
theorem dL_versions_319 : decode cL_versions 319 = .ok (.iload 23, 2) := by decide +kernel
theorem dL_versions_321 : decode cL_versions 321 = .ok (.iadd, 1) := by decide +kernel
theorem dL_versions_322 : decode cL_versions 322 = .ok (.iaload, 1) := by decide +kernel
theorem dL_versions_323 : decode cL_versions 323 = .ok (.iastore, 1) := by decide +kernel
theorem dL_versions_324 : decode cL_versions 324 = .ok (.iinc 23 1, 3) := by decide +kernel
theorem dL_versions_327 : decode cL_versions 327 = .ok (.goto (-34), 3) := by decide +kernel
theorem dL_versions_330 : decode cL_versions 330 = .ok (.iload 22, 2) := by decide +kernel
theorem dL_versions_332 : decode cL_versions 332 = .ok (.ifCond .lt 65, 3) := by decide +kernel
theorem dL_versions_335 : decode cL_versions 335 = .ok (.iload_n 1, 1) := by decide +kernel
theorem dL_versions_336 : decode cL_versions 336 = .ok (.iconst 1, 1) := by decide +kernel
theorem dL_versions_337 : decode cL_versions 337 = .ok (.if_icmp .ne 60, 3) := by decide +kernel
theorem dL_versions_340 : decode cL_versions 340 = .ok (.bipush 12, 2) := by decide +kernel
theorem dL_versions_342 : decode cL_versions 342 = .ok (.newarray .int, 2) := by decide +kernel
theorem dL_versions_344 : decode cL_versions 344 = .ok (.astore 23, 2) := by decide +kernel
theorem dL_versions_346 : decode cL_versions 346 = .ok (.aload 23, 2) := by decide +kernel
theorem dL_versions_348 : decode cL_versions 348 = .ok (.iconst 0, 1) := by decide +kernel
theorem dL_versions_349 : decode cL_versions 349 = .ok (.iload 19, 2) := by decide +kernel
theorem dL_versions_351 : decode cL_versions 351 = .ok (.iastore, 1) := by decide +kernel
theorem dL_versions_352 : decode cL_versions 352 = .ok (.aload 23, 2) := by decide +kernel
theorem dL_versions_354 : decode cL_versions 354 = .ok (.iconst 4, 1) := by decide +kernel
theorem dL_versions_355 : decode cL_versions 355 = .ok (.sipush 256, 3) := by decide +kernel
theorem dL_versions_358 : decode cL_versions 358 = .ok (.iastore, 1) := by decide +kernel
theorem dL_versions_359 : decode cL_versions 359 = .ok (.aload 23, 2) := by decide +kernel
theorem dL_versions_361 : decode cL_versions 361 = .ok (.bipush 8, 2) := by decide +kernel
theorem dL_versions_363 : decode cL_versions 363 = .ok (.iload 21, 2) := by decide +kernel
theorem dL_versions_365 : decode cL_versions 365 = .ok (.iastore, 1) := by decide +kernel
theorem dL_versions_366 : decode cL_versions 366 = .ok (.aload 13, 2) := by decide +kernel
theorem dL_versions_368 : decode cL_versions 368 = .ok (.aload 23, 2) := by decide +kernel
theorem dL_versions_370 : decode cL_versions 370 = .ok (.iconst 0, 1) := by decide +kernel
theorem dL_versions_371 : decode cL_versions 371 = .ok (.aload_n 3, 1) := by decide +kernel
theorem dL_versions_372 : decode cL_versions 372 = .ok (.bipush 16, 2) := by decide +kernel
theorem dL_versions_374 : decode cL_versions 374 = .ok (.iload 15, 2) := by decide +kernel
theorem dL_versions_376 : decode cL_versions 376 = .ok (.imul, 1) := by decide +kernel
theorem dL_versions_377 : decode cL_versions 377 = .ok (.aload 4, 2) := by decide +kernel
theorem dL_versions_379 : decode cL_versions 379 = .ok (.iload 15, 2) := by decide +kernel
theorem dL_versions_381 : decode cL_versions 381 = .ok (.iaload, 1) := by decide +kernel
theorem dL_versions_382 : decode cL_versions 382 = .ok (.aload 7, 2) := by decide +kernel
theorem dL_versions_384 : decode cL_versions 384 = .ok (.aload 8, 2) := by decide +kernel
theorem dL_versions_386 : decode cL_versions 386 = .ok (.aload 9, 2) := by decide +kernel
theorem dL_versions_388 : decode cL_versions 388 = .ok (.aload 10, 2) := by decide +kernel
theorem dL_versions_390 : decode cL_versions 390 = .ok (.aload 11, 2) := by decide +kernel
theorem dL_versions_392 : decode cL_versions 392 = .ok (.iload 22, 2) := by decide +kernel
theorem dL_versions_394 : decode cL_versions 394 = .ok (.invokestatic 158, 3) := by decide +kernel
theorem dL_versions_397 : decode cL_versions 397 = .ok (.iload_n 1, 1) := by decide +kernel
theorem dL_versions_398 : decode cL_versions 398 = .ok (.ifCond .ne 15, 3) := by decide +kernel
theorem dL_versions_401 : decode cL_versions 401 = .ok (.aload_n 0, 1) := by decide +kernel
theorem dL_versions_402 : decode cL_versions 402 = .ok (.iconst 2, 1) := by decide +kernel
theorem dL_versions_403 : decode cL_versions 403 = .ok (.iload 15, 2) := by decide +kernel
theorem dL_versions_405 : decode cL_versions 405 = .ok (.iconst 0, 1) := by decide +kernel
theorem dL_versions_406 : decode cL_versions 406 = .ok (.iconst 0, 1) := by decide +kernel
theorem dL_versions_407 : decode cL_versions 407 = .ok (.invokestatic 161, 3) := by decide +kernel
theorem dL_versions_410 : decode cL_versions 410 = .ok (.goto 13, 3) := by decide +kernel
theorem dL_versions_413 : decode cL_versions 413 = .ok (.aload_n 0, 1) := by decide +kernel
theorem dL_versions_414 : decode cL_versions 414 = .ok (.iload 15, 2) := by decide +kernel
theorem dL_versions_416 : decode cL_versions 416 = .ok (.iload 16, 2) := by decide +kernel
theorem dL_versions_418 : decode cL_versions 418 = .ok (.iload 19, 2) := by decide +kernel
theorem dL_versions_420 : decode cL_versions 420 = .ok (.invokestatic 173, 3) := by decide +kernel
theorem dL_versions_423 : decode cL_versions 423 = .ok (.iload 22, 2) := by decide +kernel
theorem dL_versions_425 : decode cL_versions 425 = .ok (.if_icmp .ne 7, 3) := by decide +kernel
theorem dL_versions_428 : decode cL_versions 428 = .ok (.iconst 1, 1) := by decide +kernel
theorem dL_versions_429 : decode cL_versions 429 = .ok (.goto 4, 3) := by decide +kernel
theorem dL_versions_432 : decode cL_versions 432 = .ok (.iconst 0, 1) := by decide +kernel
theorem dL_versions_433 : decode cL_versions 433 = .ok (.ireturn, 1) := by decide +kernel
theorem dL_versions_434 : decode cL_versions 434 = .ok (.iload_n 1, 1) := by decide +kernel
theorem dL_versions_435 : decode cL_versions 435 = .ok (.iconst 2, 1) := by decide +kernel
theorem dL_versions_436 : decode cL_versions 436 = .ok (.if_icmp .ne 63, 3) := by decide +kernel
theorem dL_versions_439 : decode cL_versions 439 = .ok (.iload 16, 2) := by decide +kernel
theorem dL_versions_441 : decode cL_versions 441 = .ok (.aload 12, 2) := by decide +kernel
theorem dL_versions_443 : decode cL_versions 443 = .ok (.iconst 0, 1) := by decide +kernel
theorem dL_versions_444 : decode cL_versions 444 = .ok (.iaload, 1) := by decide +kernel
theorem dL_versions_445 : decode cL_versions 445 = .ok (.if_icmp .ge 19, 3) := by decide +kernel
theorem dL_versions_448 : decode cL_versions 448 = .ok (.iload 16, 2) := by decide +kernel
theorem dL_versions_450 : decode cL_versions 450 = .ok (.aload 6, 2) := by decide +kernel
theorem dL_versions_452 : decode cL_versions 452 = .ok (.aload 8, 2) := by decide +kernel
theorem dL_versions_454 : decode cL_versions 454 = .ok (.aload 10, 2) := by decide +kernel
theorem dL_versions_456 : decode cL_versions 456 = .ok (.aload 11, 2) := by decide +kernel
theorem dL_versions_458 : decode cL_versions 458 = .ok (.invokestatic 177, 3) := by decide +kernel
theorem dL_versions_461 : decode cL_versions 461 = .ok (.goto 5, 3) := by decide +kernel
theorem dL_versions_464 : decode cL_versions 464 = .ok (.bipush (-101), 2) := by decide +kernel
theorem dL_versions_466 : decode cL_versions 466 = .ok (.istore 19, 2) := by decide +kernel
theorem dL_versions_468 : decode cL_versions 468 = .ok (.iload 19, 2) := by decide +kernel
theorem dL_versions_470 : decode cL_versions 470 = .ok (.ifCond .lt 9, 3) := by decide +kernel
theorem dL_versions_473 : decode cL_versions 473 = .ok (.aload 6, 2) := by decide +kernel
theorem dL_versions_475 : decode cL_versions 475 = .ok (.iload 16, 2) := by decide +kernel
theorem dL_versions_477 : decode cL_versions 477 = .ok (.iconst 0, 1) := by decide +kernel
theorem dL_versions_478 : decode cL_versions 478 = .ok (.iastore, 1) := by decide +kernel
theorem dL_versions_479 : decode cL_versions 479 = .ok (.aload_n 0, 1) := by decide +kernel
theorem dL_versions_480 : decode cL_versions 480 = .ok (.bipush 9, 2) := by decide +kernel
theorem dL_versions_482 : decode cL_versions 482 = .ok (.iload 16, 2) := by decide +kernel
theorem dL_versions_484 : decode cL_versions 484 = .ok (.iconst 0, 1) := by decide +kernel
theorem dL_versions_485 : decode cL_versions 485 = .ok (.invokestatic 181, 3) := by decide +kernel
theorem dL_versions_488 : decode cL_versions 488 = .ok (.iload 19, 2) := by decide +kernel
theorem dL_versions_490 : decode cL_versions 490 = .ok (.if_icmp .ne 7, 3) := by decide +kernel
theorem dL_versions_493 : decode cL_versions 493 = .ok (.iconst 1, 1) := by decide +kernel
theorem dL_versions_494 : decode cL_versions 494 = .ok (.goto 4, 3) := by decide +kernel
theorem dL_versions_497 : decode cL_versions 497 = .ok (.iconst 0, 1) := by decide +kernel
theorem dL_versions_498 : decode cL_versions 498 = .ok (.ireturn, 1) := by decide +kernel
theorem dL_versions_499 : decode cL_versions 499 = .ok (.iload_n 1, 1) := by decide +kernel
theorem dL_versions_500 : decode cL_versions 500 = .ok (.iconst 3, 1) := by decide +kernel
theorem dL_versions_501 : decode cL_versions 501 = .ok (.if_icmp .ne 95, 3) := by decide +kernel
theorem dL_versions_504 : decode cL_versions 504 = .ok (.iload 18, 2) := by decide +kernel
theorem dL_versions_506 : decode cL_versions 506 = .ok (.ifCond .eq 62, 3) := by decide +kernel
theorem dL_versions_509 : decode cL_versions 509 = .ok (.aload 6, 2) := by decide +kernel
theorem dL_versions_511 : decode cL_versions 511 = .ok (.iload 16, 2) := by decide +kernel
theorem dL_versions_513 : decode cL_versions 513 = .ok (.iconst 1, 1) := by decide +kernel
theorem dL_versions_514 : decode cL_versions 514 = .ok (.iastore, 1) := by decide +kernel
theorem dL_versions_515 : decode cL_versions 515 = .ok (.aload 6, 2) := by decide +kernel
theorem dL_versions_517 : decode cL_versions 517 = .ok (.bipush 8, 2) := by decide +kernel
theorem dL_versions_519 : decode cL_versions 519 = .ok (.iload 16, 2) := by decide +kernel
theorem dL_versions_521 : decode cL_versions 521 = .ok (.iadd, 1) := by decide +kernel
theorem dL_versions_522 : decode cL_versions 522 = .ok (.aload 4, 2) := by decide +kernel
theorem dL_versions_524 : decode cL_versions 524 = .ok (.iload 15, 2) := by decide +kernel
theorem dL_versions_526 : decode cL_versions 526 = .ok (.iaload, 1) := by decide +kernel
theorem dL_versions_527 : decode cL_versions 527 = .ok (.iastore, 1) := by decide +kernel
theorem dL_versions_528 : decode cL_versions 528 = .ok (.iconst 0, 1) := by decide +kernel
theorem dL_versions_529 : decode cL_versions 529 = .ok (.istore 19, 2) := by decide +kernel
theorem dL_versions_531 : decode cL_versions 531 = .ok (.iload 19, 2) := by decide +kernel
theorem dL_versions_533 : decode cL_versions 533 = .ok (.aload 4, 2) := by decide +kernel
theorem dL_versions_535 : decode cL_versions 535 = .ok (.iload 15, 2) := by decide +kernel
theorem dL_versions_537 : decode cL_versions 537 = .ok (.iaload, 1) := by decide +kernel
theorem dL_versions_538 : decode cL_versions 538 = .ok (.if_icmp .ge 30, 3) := by decide +kernel
theorem dL_versions_541 : decode cL_versions 541 = .ok (.aload 5, 2) := by decide +kernel
theorem dL_versions_543 : decode cL_versions 543 = .ok (.bipush 16, 2) := by decide +kernel
theorem dL_versions_545 : decode cL_versions 545 = .ok (.iload 16, 2) := by decide +kernel
theorem dL_versions_547 : decode cL_versions 547 = .ok (.imul, 1) := by decide +kernel
theorem dL_versions_548 : decode cL_versions 548 = .ok (.iload 19, 2) := by decide +kernel
theorem dL_versions_550 : decode cL_versions 550 = .ok (.iadd, 1) := by decide +kernel
theorem dL_versions_551 : decode cL_versions 551 = .ok (.aload_n 3, 1) := by decide +kernel
theorem dL_versions_552 : decode cL_versions 552 = .ok (.bipush 16, 2) := by decide +kernel
theorem dL_versions_554 : decode cL_versions 554 = .ok (.iload 15, 2) := by decide +kernel
theorem dL_versions_556 : decode cL_versions 556 = .ok (.imul, 1) := by decide +kernel
theorem dL_versions_557 : decode cL_versions 557 = .ok (.iload 19, 2) := by decide +kernel
theorem dL_versions_559 : decode cL_versions 559 = .ok (.iadd, 1) := by decide +kernel
theorem dL_versions_560 : decode cL_versions 560 = .ok (.iaload, 1) := by decide +kernel
theorem dL_versions_561 : decode cL_versions 561 = .ok (.iastore, 1) := by decide +kernel
theorem dL_versions_562 : decode cL_versions 562 = .ok (.iinc 19 1, 3) := by decide +kernel
theorem dL_versions_565 : decode cL_versions 565 = .ok (.goto (-34), 3) := by decide +kernel
theorem dL_versions_568 : decode cL_versions 568 = .ok (.aload_n 0, 1) := by decide +kernel
theorem dL_versions_569 : decode cL_versions 569 = .ok (.iload 16, 2) := by decide +kernel
theorem dL_versions_571 : decode cL_versions 571 = .ok (.iload 15, 2) := by decide +kernel
theorem dL_versions_573 : decode cL_versions 573 = .ok (.invokestatic 184, 3) := by decide +kernel
theorem dL_versions_576 : decode cL_versions 576 = .ok (.iload 18, 2) := by decide +kernel
theorem dL_versions_578 : decode cL_versions 578 = .ok (.ifCond .eq 7, 3) := by decide +kernel
theorem dL_versions_581 : decode cL_versions 581 = .ok (.iconst 0, 1) := by decide +kernel
theorem dL_versions_582 : decode cL_versions 582 = .ok (.goto 5, 3) := by decide +kernel
theorem dL_versions_585 : decode cL_versions 585 = .ok (.bipush (-101), 2) := by decide +kernel
theorem dL_versions_587 : decode cL_versions 587 = .ok (.if_icmp .ne 7, 3) := by decide +kernel
theorem dL_versions_590 : decode cL_versions 590 = .ok (.iconst 1, 1) := by decide +kernel
theorem dL_versions_591 : decode cL_versions 591 = .ok (.goto 4, 3) := by decide +kernel
theorem dL_versions_594 : decode cL_versions 594 = .ok (.iconst 0, 1) := by decide +kernel
theorem dL_versions_595 : decode cL_versions 595 = .ok (.ireturn, 1) := by decide +kernel
theorem dL_versions_596 : decode cL_versions 596 = .ok (.iload 18, 2) := by decide +kernel
theorem dL_versions_598 : decode cL_versions 598 = .ok (.ifCond .eq 29, 3) := by decide +kernel
theorem dL_versions_601 : decode cL_versions 601 = .ok (.iload 16, 2) := by decide +kernel
theorem dL_versions_603 : decode cL_versions 603 = .ok (.aload 5, 2) := by decide +kernel
theorem dL_versions_605 : decode cL_versions 605 = .ok (.aload 6, 2) := by decide +kernel
theorem dL_versions_607 : decode cL_versions 607 = .ok (.aload 7, 2) := by decide +kernel
theorem dL_versions_609 : decode cL_versions 609 = .ok (.aload 8, 2) := by decide +kernel
theorem dL_versions_611 : decode cL_versions 611 = .ok (.aload 9, 2) := by decide +kernel
theorem dL_versions_613 : decode cL_versions 613 = .ok (.aload 10, 2) := by decide +kernel
theorem dL_versions_615 : decode cL_versions 615 = .ok (.aload 11, 2) := by decide +kernel
theorem dL_versions_617 : decode cL_versions 617 = .ok (.aload 13, 2) := by decide +kernel
theorem dL_versions_619 : decode cL_versions 619 = .ok (.aload 14, 2) := by decide +kernel
theorem dL_versions_621 : decode cL_versions 621 = .ok (.invokestatic 170, 3) := by decide +kernel
theorem dL_versions_624 : decode cL_versions 624 = .ok (.goto 5, 3) := by decide +kernel
theorem dL_versions_627 : decode cL_versions 627 = .ok (.bipush (-101), 2) := by decide +kernel
theorem dL_versions_629 : decode cL_versions 629 = .ok (.istore 19, 2) := by decide +kernel
theorem dL_versions_631 : decode cL_versions 631 = .ok (.iload 19, 2) := by decide +kernel
theorem dL_versions_633 : decode cL_versions 633 = .ok (.ifCond .lt 16, 3) := by decide +kernel
theorem dL_versions_636 : decode cL_versions 636 = .ok (.aload_n 3, 1) := by decide +kernel
theorem dL_versions_637 : decode cL_versions 637 = .ok (.aload 4, 2) := by decide +kernel
theorem dL_versions_639 : decode cL_versions 639 = .ok (.iload 15, 2) := by decide +kernel
theorem dL_versions_641 : decode cL_versions 641 = .ok (.aload 13, 2) := by decide +kernel
theorem dL_versions_643 : decode cL_versions 643 = .ok (.iconst 0, 1) := by decide +kernel
theorem dL_versions_644 : decode cL_versions 644 = .ok (.iload 19, 2) := by decide +kernel
theorem dL_versions_646 : decode cL_versions 646 = .ok (.invokestatic 146, 3) := by decide +kernel
theorem dL_versions_649 : decode cL_versions 649 = .ok (.aload_n 0, 1) := by decide +kernel
theorem dL_versions_650 : decode cL_versions 650 = .ok (.iconst 3, 1) := by decide +kernel
theorem dL_versions_651 : decode cL_versions 651 = .ok (.iload 16, 2) := by decide +kernel
theorem dL_versions_653 : decode cL_versions 653 = .ok (.iload 15, 2) := by decide +kernel
theorem dL_versions_655 : decode cL_versions 655 = .ok (.iconst 0, 1) := by decide +kernel
theorem dL_versions_656 : decode cL_versions 656 = .ok (.invokestatic 161, 3) := by decide +kernel
theorem dL_versions_659 : decode cL_versions 659 = .ok (.iload 19, 2) := by decide +kernel
theorem dL_versions_661 : decode cL_versions 661 = .ok (.iconst (-1), 1) := by decide +kernel
theorem dL_versions_662 : decode cL_versions 662 = .ok (.if_icmp .ne 8, 3) := by decide +kernel
theorem dL_versions_665 : decode cL_versions 665 = .ok (.bipush (-102), 2) := by decide +kernel
theorem dL_versions_667 : decode cL_versions 667 = .ok (.goto 5, 3) := by decide +kernel
theorem dL_versions_670 : decode cL_versions 670 = .ok (.iload 19, 2) := by decide +kernel
theorem dL_versions_672 : decode cL_versions 672 = .ok (.if_icmp .ne 7, 3) := by decide +kernel
theorem dL_versions_675 : decode cL_versions 675 = .ok (.iconst 1, 1) := by decide +kernel
theorem dL_versions_676 : decode cL_versions 676 = .ok (.goto 4, 3) := by decide +kernel
theorem dL_versions_679 : decode cL_versions 679 = .ok (.iconst 0, 1) := by decide +kernel
theorem dL_versions_680 : decode cL_versions 680 = .ok (.ireturn, 1) := by decide +kernel
theorem dL_named_0 : decode cL_named 0 = .ok (.bipush 16, 2) := by decide +kernel
theorem dL_named_2 : decode cL_named 2 = .ok (.iload_n 3, 1) := by decide +kernel
theorem dL_named_3 : decode cL_named 3 = .ok (.imul, 1) := by decide +kernel
theorem dL_named_4 : decode cL_named 4 = .ok (.istore 8, 2) := by decide +kernel
theorem dL_named_6 : decode cL_named 6 = .ok (.iconst 0, 1) := by decide +kernel
theorem dL_named_7 : decode cL_named 7 = .ok (.istore 9, 2) := by decide +kernel
theorem dL_named_9 : decode cL_named 9 = .ok (.iload 9, 2) := by decide +kernel
theorem dL_named_11 : decode cL_named 11 = .ok (.iload 4, 2) := by decide +kernel
theorem dL_named_13 : decode cL_named 13 = .ok (.if_icmp .ge 23, 3) := by decide +kernel
theorem dL_named_16 : decode cL_named 16 = .ok (.iload 8, 2) := by decide +kernel
theorem dL_named_18 : decode cL_named 18 = .ok (.aload_n 1, 1) := by decide +kernel
theorem dL_named_19 : decode cL_named 19 = .ok (.bipush 16, 2) := by decide +kernel
theorem dL_named_21 : decode cL_named 21 = .ok (.iload_n 3, 1) := by decide +kernel
theorem dL_named_22 : decode cL_named 22 = .ok (.imul, 1) := by decide +kernel
theorem dL_named_23 : decode cL_named 23 = .ok (.iload 9, 2) := by decide +kernel
theorem dL_named_25 : decode cL_named 25 = .ok (.iadd, 1) := by decide +kernel
theorem dL_named_26 : decode cL_named 26 = .ok (.iaload, 1) := by decide +kernel
theorem dL_named_27 : decode cL_named 27 = .ok (.iadd, 1) := by decide +kernel
theorem dL_named_28 : decode cL_named 28 = .ok (.istore 8, 2) := by decide +kernel
theorem dL_named_30 : decode cL_named 30 = .ok (.iinc 9 1, 3) := by decide +kernel
theorem dL_named_33 : decode cL_named 33 = .ok (.goto (-24), 3) := by decide +kernel
theorem dL_named_36 : decode cL_named 36 = .ok (.iconst 0, 1) := by decide +kernel
theorem dL_named_37 : decode cL_named 37 = .ok (.istore 9, 2) := by decide +kernel
theorem dL_named_39 : decode cL_named 39 = .ok (.iconst 0, 1) := by decide +kernel
theorem dL_named_40 : decode cL_named 40 = .ok (.istore 10, 2) := by decide +kernel
theorem dL_named_42 : decode cL_named 42 = .ok (.iload 10, 2) := by decide +kernel
theorem dL_named_44 : decode cL_named 44 = .ok (.iload 5, 2) := by decide +kernel
theorem dL_named_46 : decode cL_named 46 = .ok (.if_icmp .gt 179, 3) := by decide +kernel
theorem dL_named_49 : decode cL_named 49 = .ok (.bipush 16, 2) := by decide +kernel
theorem dL_named_51 : decode cL_named 51 = .ok (.iload 10, 2) := by decide +kernel
theorem dL_named_53 : decode cL_named 53 = .ok (.imul, 1) := by decide +kernel
theorem dL_named_54 : decode cL_named 54 = .ok (.istore 11, 2) := by decide +kernel
theorem dL_named_56 : decode cL_named 56 = .ok (.iload 10, 2) := by decide +kernel
theorem dL_named_58 : decode cL_named 58 = .ok (.iload 5, 2) := by decide +kernel
theorem dL_named_60 : decode cL_named 60 = .ok (.if_icmp .ne 8, 3) := by decide +kernel
theorem dL_named_63 : decode cL_named 63 = .ok (.iload 6, 2) := by decide +kernel
theorem dL_named_65 : decode cL_named 65 = .ok (.goto 9, 3) := by decide +kernel
theorem dL_named_68 : decode cL_named 68 = .ok (.aload_n 2, 1) := by decide +kernel
theorem dL_named_69 : decode cL_named 69 = .ok (.iconst 4, 1) := by decide +kernel
theorem dL_named_70 : decode cL_named 70 = .ok (.iload 10, 2) := by decide +kernel
theorem dL_named_72 : decode cL_named 72 = .ok (.iadd, 1) := by decide +kernel
theorem dL_named_73 : decode cL_named 73 = .ok (.iaload, 1) := by decide +kernel
theorem dL_named_74 : decode cL_named 74 = .ok (.istore 12, 2) := by decide +kernel
theorem dL_named_76 : decode cL_named 76 = .ok (.iconst 0, 1) := by decide +kernel
theorem dL_named_77 : decode cL_named 77 = .ok (.istore 13, 2) := by decide +kernel
theorem dL_named_79 : decode cL_named 79 = .ok (.iload 13, 2) := by decide +kernel
theorem dL_named_81 : decode cL_named 81 = .ok (.iload 12, 2) := by decide +kernel
theorem dL_named_83 : decode cL_named 83 = .ok (.if_icmp .ge 136, 3) := by decide +kernel
theorem dL_named_86 : decode cL_named 86 = .ok (.aload_n 2, 1) := by decide +kernel
theorem dL_named_87 : decode cL_named 87 = .ok (.iload 10, 2) := by decide +kernel
theorem dL_named_89 : decode cL_named 89 = .ok (.iaload, 1) := by decide +kernel
theorem dL_named_90 : decode cL_named 90 = .ok (.iconst 1, 1) := by decide +kernel
theorem dL_named_91 : decode cL_named 91 = .ok (.if_icmp .ne 128, 3) := by decide +kernel
theorem dL_named_94 : decode cL_named 94 = .ok (.iload 10, 2) := by decide +kernel
theorem dL_named_96 : decode cL_named 96 = .ok (.iload 7, 2) := by decide +kernel
theorem dL_named_98 : decode cL_named 98 = .ok (.if_icmp .eq 121, 3) := by decide +kernel
theorem dL_named_101 : decode cL_named 101 = .ok (.aload_n 1, 1) := by decide +kernel
theorem dL_named_102 : decode cL_named 102 = .ok (.bipush 16, 2) := by decide +kernel
theorem dL_named_104 : decode cL_named 104 = .ok (.iload 10, 2) := by decide +kernel
theorem dL_named_106 : decode cL_named 106 = .ok (.imul, 1) := by decide +kernel
theorem dL_named_107 : decode cL_named 107 = .ok (.iload 13, 2) := by decide +kernel
theorem dL_named_109 : decode cL_named 109 = .ok (.iadd, 1) := by decide +kernel
theorem dL_named_110 : decode cL_named 110 = .ok (.iaload, 1) := by decide +kernel
theorem dL_named_111 : decode cL_named 111 = .ok (.aload_n 1, 1) := by decide +kernel
theorem dL_named_112 : decode cL_named 112 = .ok (.bipush 16, 2) := by decide +kernel
theorem dL_named_114 : decode cL_named 114 = .ok (.iload_n 3, 1) := by decide +kernel
theorem dL_named_115 : decode cL_named 115 = .ok (.imul, 1) := by decide +kernel
theorem dL_named_116 : decode cL_named 116 = .ok (.iload 4, 2) := by decide +kernel
theorem dL_named_118 : decode cL_named 118 = .ok (.iadd, 1) := by decide +kernel
theorem dL_named_119 : decode cL_named 119 = .ok (.iaload, 1) := by decide +kernel
theorem dL_named_120 : decode cL_named 120 = .ok (.if_icmp .ne 7, 3) := by decide +kernel
theorem dL_named_123 : decode cL_named 123 = .ok (.iconst 1, 1) := by decide +kernel
theorem dL_named_124 : decode cL_named 124 = .ok (.goto 4, 3) := by decide +kernel
theorem dL_named_127 : decode cL_named 127 = .ok (.iconst 0, 1) := by decide +kernel
theorem dL_named_128 : decode cL_named 128 = .ok (.istore 14, 2) := by decide +kernel
theorem dL_named_130 : decode cL_named 130 = .ok (.iconst 0, 1) := by decide +kernel
theorem dL_named_131 : decode cL_named 131 = .ok (.istore 15, 2) := by decide +kernel
theorem dL_named_133 : decode cL_named 133 = .ok (.iload 15, 2) := by decide +kernel
theorem dL_named_135 : decode cL_named 135 = .ok (.aload_n 1, 1) := by decide +kernel
theorem dL_named_136 : decode cL_named 136 = .ok (.bipush 16, 2) := by decide +kernel
theorem dL_named_138 : decode cL_named 138 = .ok (.iload 10, 2) := by decide +kernel
theorem dL_named_140 : decode cL_named 140 = .ok (.imul, 1) := by decide +kernel
theorem dL_named_141 : decode cL_named 141 = .ok (.iload 13, 2) := by decide +kernel
theorem dL_named_143 : decode cL_named 143 = .ok (.iadd, 1) := by decide +kernel
theorem dL_named_144 : decode cL_named 144 = .ok (.iaload, 1) := by decide +kernel
theorem dL_named_145 : decode cL_named 145 = .ok (.if_icmp .ge 38, 3) := by decide +kernel
theorem dL_named_148 : decode cL_named 148 = .ok (.iload 14, 2) := by decide +kernel
theorem dL_named_150 : decode cL_named 150 = .ok (.ifCond .eq 33, 3) := by decide +kernel
theorem dL_named_153 : decode cL_named 153 = .ok (.aload_n 0, 1) := by decide +kernel
theorem dL_named_154 : decode cL_named 154 = .ok (.iload 11, 2) := by decide +kernel
theorem dL_named_156 : decode cL_named 156 = .ok (.iload 15, 2) := by decide +kernel
theorem dL_named_158 : decode cL_named 158 = .ok (.iadd, 1) := by decide +kernel
theorem dL_named_159 : decode cL_named 159 = .ok (.iaload, 1) := by decide +kernel
theorem dL_named_160 : decode cL_named 160 = .ok (.aload_n 0, 1) := by decide +kernel
theorem dL_named_161 : decode cL_named 161 = .ok (.iload 8, 2) := by decide +kernel
theorem dL_named_163 : decode cL_named 163 = .ok (.iload 15, 2) := by decide +kernel
theorem dL_named_165 : decode cL_named 165 = .ok (.iadd, 1) := by decide +kernel
theorem dL_named_166 : decode cL_named 166 = .ok (.iaload, 1) := by decide +kernel
theorem dL_named_167 : decode cL_named 167 = .ok (.if_icmp .ne 7, 3) := by decide +kernel
theorem dL_named_170 : decode cL_named 170 = .ok (.iconst 1, 1) := by decide +kernel
theorem dL_named_171 : decode cL_named 171 = .ok (.goto 4, 3) := by decide +kernel
theorem dL_named_174 : decode cL_named 174 = .ok (.iconst 0, 1) := by decide +kernel
theorem dL_named_175 : decode cL_named 175 = .ok (.istore 14, 2) := by decide +kernel
theorem dL_named_177 : decode cL_named 177 = .ok (.iinc 15 1, 3) := by decide +kernel
theorem dL_named_180 : decode cL_named 180 = .ok (.goto (-47), 3) := by decide +kernel
theorem dL_named_183 : decode cL_named 183 = .ok (.iload 9, 2) := by decide +kernel
theorem dL_named_185 : decode cL_named 185 = .ok (.iload 14, 2) := by decide +kernel
theorem dL_named_187 : decode cL_named 187 = .ok (.ifCond .eq 7, 3) := by decide +kernel
theorem dL_named_190 : decode cL_named 190 = .ok (.iconst 1, 1) := by decide +kernel
theorem dL_named_191 : decode cL_named 191 = .ok (.goto 4, 3) := by decide +kernel
theorem dL_named_194 : decode cL_named 194 = .ok (.iconst 0, 1) := by decide +kernel
theorem dL_named_195 : decode cL_named 195 = .ok (.iadd, 1) := by decide +kernel
theorem dL_named_196 : decode cL_named 196 = .ok (.istore 9, 2) := by decide +kernel
theorem dL_named_198 : decode cL_named 198 = .ok (.iload 11, 2) := by decide +kernel
theorem dL_named_200 : decode cL_named 200 = .ok (.aload_n 1, 1) := by decide +kernel
theorem dL_named_201 : decode cL_named 201 = .ok (.bipush 16, 2) := by decide +kernel
theorem dL_named_203 : decode cL_named 203 = .ok (.iload 10, 2) := by decide +kernel
theorem dL_named_205 : decode cL_named 205 = .ok (.imul, 1) := by decide +kernel
theorem dL_named_206 : decode cL_named 206 = .ok (.iload 13, 2) := by decide +kernel
theorem dL_named_208 : decode cL_named 208 = .ok (.iadd, 1) := by decide +kernel
theorem dL_named_209 : decode cL_named 209 = .ok (.iaload, 1) := by decide +kernel
theorem dL_named_210 : decode cL_named 210 = .ok (.iadd, 1) := by decide +kernel
theorem dL_named_211 : decode cL_named 211 = .ok (.istore 11, 2) := by decide +kernel
theorem dL_named_213 : decode cL_named 213 = .ok (.iinc 13 1, 3) := by decide +kernel
theorem dL_named_216 : decode cL_named 216 = .ok (.goto (-137), 3) := by decide +kernel
theorem dL_named_219 : decode cL_named 219 = .ok (.iinc 10 1, 3) := by decide +kernel
theorem dL_named_222 : decode cL_named 222 = .ok (.goto (-180), 3) := by decide +kernel
theorem dL_named_225 : decode cL_named 225 = .ok (.iload 9, 2) := by decide +kernel
theorem dL_named_227 : decode cL_named 227 = .ok (.ireturn, 1) := by decide +kernel
theorem dL_stores_0 : decode cL_stores 0 = .ok (.iload_n 2, 1) := by decide +kernel
theorem dL_stores_1 : decode cL_stores 1 = .ok (.iconst 5, 1) := by decide +kernel
theorem dL_stores_2 : decode cL_stores 2 = .ok (.invokestatic 136, 3) := by decide +kernel
theorem dL_stores_5 : decode cL_stores 5 = .ok (.iload_n 2, 1) := by decide +kernel
theorem dL_stores_6 : decode cL_stores 6 = .ok (.bipush 9, 2) := by decide +kernel
theorem dL_stores_8 : decode cL_stores 8 = .ok (.ishr, 1) := by decide +kernel
theorem dL_stores_9 : decode cL_stores 9 = .ok (.bipush 13, 2) := by decide +kernel
theorem dL_stores_11 : decode cL_stores 11 = .ok (.invokestatic 136, 3) := by decide +kernel
theorem dL_stores_14 : decode cL_stores 14 = .ok (.ifCond .ne 7, 3) := by decide +kernel
theorem dL_stores_17 : decode cL_stores 17 = .ok (.iconst 1, 1) := by decide +kernel
theorem dL_stores_18 : decode cL_stores 18 = .ok (.goto 4, 3) := by decide +kernel
theorem dL_stores_21 : decode cL_stores 21 = .ok (.iconst 0, 1) := by decide +kernel
theorem dL_stores_22 : decode cL_stores 22 = .ok (.isub, 1) := by decide +kernel
theorem dL_stores_23 : decode cL_stores 23 = .ok (.istore 9, 2) := by decide +kernel
theorem dL_stores_25 : decode cL_stores 25 = .ok (.iload_n 2, 1) := by decide +kernel
theorem dL_stores_26 : decode cL_stores 26 = .ok (.iconst 3, 1) := by decide +kernel
theorem dL_stores_27 : decode cL_stores 27 = .ok (.ishr, 1) := by decide +kernel
theorem dL_stores_28 : decode cL_stores 28 = .ok (.iconst 5, 1) := by decide +kernel
theorem dL_stores_29 : decode cL_stores 29 = .ok (.invokestatic 136, 3) := by decide +kernel
theorem dL_stores_32 : decode cL_stores 32 = .ok (.istore 10, 2) := by decide +kernel
theorem dL_stores_34 : decode cL_stores 34 = .ok (.iload 9, 2) := by decide +kernel
theorem dL_stores_36 : decode cL_stores 36 = .ok (.ifCond .lt 13, 3) := by decide +kernel
theorem dL_stores_39 : decode cL_stores 39 = .ok (.iload 9, 2) := by decide +kernel
theorem dL_stores_41 : decode cL_stores 41 = .ok (.iconst 4, 1) := by decide +kernel
theorem dL_stores_42 : decode cL_stores 42 = .ok (.if_icmp .ge 7, 3) := by decide +kernel
theorem dL_stores_45 : decode cL_stores 45 = .ok (.iconst 1, 1) := by decide +kernel
theorem dL_stores_46 : decode cL_stores 46 = .ok (.goto 4, 3) := by decide +kernel
theorem dL_stores_49 : decode cL_stores 49 = .ok (.iconst 0, 1) := by decide +kernel
theorem dL_stores_50 : decode cL_stores 50 = .ok (.istore 11, 2) := by decide +kernel
theorem dL_stores_52 : decode cL_stores 52 = .ok (.iload 10, 2) := by decide +kernel
theorem dL_stores_54 : decode cL_stores 54 = .ok (.iconst 4, 1) := by decide +kernel
theorem dL_stores_55 : decode cL_stores 55 = .ok (.if_icmp .ge 16, 3) := by decide +kernel
theorem dL_stores_58 : decode cL_stores 58 = .ok (.aload 7, 2) := by decide +kernel
theorem dL_stores_60 : decode cL_stores 60 = .ok (.iload 10, 2) := by decide +kernel
theorem dL_stores_62 : decode cL_stores 62 = .ok (.iaload, 1) := by decide +kernel
theorem dL_stores_63 : decode cL_stores 63 = .ok (.iconst 1, 1) := by decide +kernel
theorem dL_stores_64 : decode cL_stores 64 = .ok (.if_icmp .ne 7, 3) := by decide +kernel
theorem dL_stores_67 : decode cL_stores 67 = .ok (.iconst 1, 1) := by decide +kernel
theorem dL_stores_68 : decode cL_stores 68 = .ok (.goto 4, 3) := by decide +kernel
theorem dL_stores_71 : decode cL_stores 71 = .ok (.iconst 0, 1) := by decide +kernel
theorem dL_stores_72 : decode cL_stores 72 = .ok (.istore 12, 2) := by decide +kernel
theorem dL_stores_74 : decode cL_stores 74 = .ok (.iload_n 1, 1) := by decide +kernel
theorem dL_stores_75 : decode cL_stores 75 = .ok (.ifCond .ne 190, 3) := by decide +kernel
theorem dL_stores_78 : decode cL_stores 78 = .ok (.iload_n 2, 1) := by decide +kernel
theorem dL_stores_79 : decode cL_stores 79 = .ok (.bipush 14, 2) := by decide +kernel
theorem dL_stores_81 : decode cL_stores 81 = .ok (.invokestatic 136, 3) := by decide +kernel
theorem dL_stores_84 : decode cL_stores 84 = .ok (.ifCond .ne 16, 3) := by decide +kernel
theorem dL_stores_87 : decode cL_stores 87 = .ok (.iload_n 2, 1) := by decide +kernel
theorem dL_stores_88 : decode cL_stores 88 = .ok (.iconst 3, 1) := by decide +kernel
theorem dL_stores_89 : decode cL_stores 89 = .ok (.ishr, 1) := by decide +kernel
theorem dL_stores_90 : decode cL_stores 90 = .ok (.iconst 2, 1) := by decide +kernel
theorem dL_stores_91 : decode cL_stores 91 = .ok (.invokestatic 136, 3) := by decide +kernel
theorem dL_stores_94 : decode cL_stores 94 = .ok (.bipush 17, 2) := by decide +kernel
theorem dL_stores_96 : decode cL_stores 96 = .ok (.imul, 1) := by decide +kernel
theorem dL_stores_97 : decode cL_stores 97 = .ok (.goto 10, 3) := by decide +kernel
theorem dL_stores_100 : decode cL_stores 100 = .ok (.iconst 1, 1) := by decide +kernel
theorem dL_stores_101 : decode cL_stores 101 = .ok (.iload_n 2, 1) := by decide +kernel
theorem dL_stores_102 : decode cL_stores 102 = .ok (.iconst 4, 1) := by decide +kernel
theorem dL_stores_103 : decode cL_stores 103 = .ok (.invokestatic 136, 3) := by decide +kernel
theorem dL_stores_106 : decode cL_stores 106 = .ok (.iadd, 1) := by decide +kernel
theorem dL_stores_107 : decode cL_stores 107 = .ok (.istore 13, 2) := by decide +kernel
theorem dL_stores_109 : decode cL_stores 109 = .ok (.iload 13, 2) := by decide +kernel
theorem dL_stores_111 : decode cL_stores 111 = .ok (.iload_n 2, 1) := by decide +kernel
theorem dL_stores_112 : decode cL_stores 112 = .ok (.iconst 2, 1) := by decide +kernel
theorem dL_stores_113 : decode cL_stores 113 = .ok (.ishr, 1) := by decide +kernel
theorem dL_stores_114 : decode cL_stores 114 = .ok (.bipush 6, 2) := by decide +kernel
theorem dL_stores_116 : decode cL_stores 116 = .ok (.invokestatic 136, 3) := by decide +kernel
theorem dL_stores_119 : decode cL_stores 119 = .ok (.iadd, 1) := by decide +kernel
theorem dL_stores_120 : decode cL_stores 120 = .ok (.iload_n 2, 1) := by decide +kernel
theorem dL_stores_121 : decode cL_stores 121 = .ok (.iconst 5, 1) := by decide +kernel
theorem dL_stores_122 : decode cL_stores 122 = .ok (.ishr, 1) := by decide +kernel
theorem dL_stores_123 : decode cL_stores 123 = .ok (.bipush 9, 2) := by decide +kernel
theorem dL_stores_125 : decode cL_stores 125 = .ok (.invokestatic 136, 3) := by decide +kernel
theorem dL_stores_128 : decode cL_stores 128 = .ok (.ifCond .ne 7, 3) := by decide +kernel
theorem dL_stores_131 : decode cL_stores 131 = .ok (.iconst 1, 1) := by decide +kernel
theorem dL_stores_132 : decode cL_stores 132 = .ok (.goto 4, 3) := by decide +kernel
theorem dL_stores_135 : decode cL_stores 135 = .ok (.iconst 0, 1) := by decide +kernel
theorem dL_stores_136 : decode cL_stores 136 = .ok (.isub, 1) := by decide +kernel
theorem dL_stores_137 : decode cL_stores 137 = .ok (.istore 14, 2) := by decide +kernel
theorem dL_stores_139 : decode cL_stores 139 = .ok (.iload_n 2, 1) := by decide +kernel
theorem dL_stores_140 : decode cL_stores 140 = .ok (.iconst 4, 1) := by decide +kernel
theorem dL_stores_141 : decode cL_stores 141 = .ok (.ishr, 1) := by decide +kernel
theorem dL_stores_142 : decode cL_stores 142 = .ok (.bipush 20, 2) := by decide +kernel
theorem dL_stores_144 : decode cL_stores 144 = .ok (.invokestatic 136, 3) := by decide +kernel
theorem dL_stores_147 : decode cL_stores 147 = .ok (.ifCond .ne 16, 3) := by decide +kernel
theorem dL_stores_150 : decode cL_stores 150 = .ok (.iload_n 2, 1) := by decide +kernel
theorem dL_stores_151 : decode cL_stores 151 = .ok (.iconst 3, 1) := by decide +kernel
theorem dL_stores_152 : decode cL_stores 152 = .ok (.ishr, 1) := by decide +kernel
theorem dL_stores_153 : decode cL_stores 153 = .ok (.iconst 2, 1) := by decide +kernel
theorem dL_stores_154 : decode cL_stores 154 = .ok (.invokestatic 136, 3) := by decide +kernel
theorem dL_stores_157 : decode cL_stores 157 = .ok (.bipush 65, 2) := by decide +kernel
theorem dL_stores_159 : decode cL_stores 159 = .ok (.imul, 1) := by decide +kernel
theorem dL_stores_160 : decode cL_stores 160 = .ok (.goto 12, 3) := by decide +kernel
theorem dL_stores_163 : decode cL_stores 163 = .ok (.iconst 1, 1) := by decide +kernel
theorem dL_stores_164 : decode cL_stores 164 = .ok (.iload_n 2, 1) := by decide +kernel
theorem dL_stores_165 : decode cL_stores 165 = .ok (.iconst 4, 1) := by decide +kernel
theorem dL_stores_166 : decode cL_stores 166 = .ok (.ishr, 1) := by decide +kernel
theorem dL_stores_167 : decode cL_stores 167 = .ok (.iconst 3, 1) := by decide +kernel
theorem dL_stores_168 : decode cL_stores 168 = .ok (.invokestatic 136, 3) := by decide +kernel
theorem dL_stores_171 : decode cL_stores 171 = .ok (.iadd, 1) := by decide +kernel
theorem dL_stores_172 : decode cL_stores 172 = .ok (.istore 15, 2) := by decide +kernel
theorem dL_stores_174 : decode cL_stores 174 = .ok (.iload 13, 2) := by decide +kernel
theorem dL_stores_176 : decode cL_stores 176 = .ok (.ifCond .le 33, 3) := by decide +kernel
theorem dL_stores_179 : decode cL_stores 179 = .ok (.iload 13, 2) := by decide +kernel
theorem dL_stores_181 : decode cL_stores 181 = .ok (.bipush 17, 2) := by decide +kernel
theorem dL_stores_183 : decode cL_stores 183 = .ok (.if_icmp .ge 26, 3) := by decide +kernel
theorem dL_stores_186 : decode cL_stores 186 = .ok (.iload 14, 2) := by decide +kernel
theorem dL_stores_188 : decode cL_stores 188 = .ok (.iload 13, 2) := by decide +kernel
theorem dL_stores_190 : decode cL_stores 190 = .ok (.if_icmp .lt 19, 3) := by decide +kernel
theorem dL_stores_193 : decode cL_stores 193 = .ok (.iload 15, 2) := by decide +kernel
theorem dL_stores_195 : decode cL_stores 195 = .ok (.ifCond .le 14, 3) := by decide +kernel
theorem dL_stores_198 : decode cL_stores 198 = .ok (.iload 15, 2) := by decide +kernel
theorem dL_stores_200 : decode cL_stores 200 = .ok (.bipush 65, 2) := by decide +kernel
theorem dL_stores_202 : decode cL_stores 202 = .ok (.if_icmp .ge 7, 3) := by decide +kernel
theorem dL_stores_205 : decode cL_stores 205 = .ok (.iconst 1, 1) := by decide +kernel
theorem dL_stores_206 : decode cL_stores 206 = .ok (.goto 4, 3) := by decide +kernel
theorem dL_stores_209 : decode cL_stores 209 = .ok (.iconst 0, 1) := by decide +kernel
theorem dL_stores_210 : decode cL_stores 210 = .ok (.istore 16, 2) := by decide +kernel
theorem dL_stores_212 : decode cL_stores 212 = .ok (.iload 16, 2) := by decide +kernel
theorem dL_stores_214 : decode cL_stores 214 = .ok (.ifCond .eq 21, 3) := by decide +kernel
theorem dL_stores_217 : decode cL_stores 217 = .ok (.aload 8, 2) := by decide +kernel
theorem dL_stores_219 : decode cL_stores 219 = .ok (.iconst 0, 1) := by decide +kernel
theorem dL_stores_220 : decode cL_stores 220 = .ok (.iload 13, 2) := by decide +kernel
theorem dL_stores_222 : decode cL_stores 222 = .ok (.iastore, 1) := by decide +kernel
theorem dL_stores_223 : decode cL_stores 223 = .ok (.aload 8, 2) := by decide +kernel
theorem dL_stores_225 : decode cL_stores 225 = .ok (.iconst 1, 1) := by decide +kernel
theorem dL_stores_226 : decode cL_stores 226 = .ok (.iload 14, 2) := by decide +kernel
theorem dL_stores_228 : decode cL_stores 228 = .ok (.iastore, 1) := by decide +kernel
theorem dL_stores_229 : decode cL_stores 229 = .ok (.aload 8, 2) := by decide +kernel
theorem dL_stores_231 : decode cL_stores 231 = .ok (.iconst 2, 1) := by decide +kernel
theorem dL_stores_232 : decode cL_stores 232 = .ok (.iload 15, 2) := by decide +kernel
theorem dL_stores_234 : decode cL_stores 234 = .ok (.iastore, 1) := by decide +kernel
theorem dL_stores_235 : decode cL_stores 235 = .ok (.aload_n 0, 1) := by decide +kernel
theorem dL_stores_236 : decode cL_stores 236 = .ok (.iload 13, 2) := by decide +kernel
theorem dL_stores_238 : decode cL_stores 238 = .ok (.iload 14, 2) := by decide +kernel
theorem dL_stores_240 : decode cL_stores 240 = .ok (.iload 15, 2) := by decide +kernel
theorem dL_stores_242 : decode cL_stores 242 = .ok (.invokestatic 187, 3) := by decide +kernel
theorem dL_stores_245 : decode cL_stores 245 = .ok (.iload 16, 2) := by decide +kernel
theorem dL_stores_247 : decode cL_stores 247 = .ok (.ifCond .eq 7, 3) := by decide +kernel
theorem dL_stores_250 : decode cL_stores 250 = .ok (.iconst 0, 1) := by decide +kernel
theorem dL_stores_251 : decode cL_stores 251 = .ok (.goto 5, 3) := by decide +kernel
theorem dL_stores_254 : decode cL_stores 254 = .ok (.bipush (-101), 2) := by decide +kernel
theorem dL_stores_256 : decode cL_stores 256 = .ok (.if_icmp .ne 7, 3) := by decide +kernel
theorem dL_stores_259 : decode cL_stores 259 = .ok (.iconst 1, 1) := by decide +kernel
theorem dL_stores_260 : decode cL_stores 260 = .ok (.goto 4, 3) := by decide +kernel
theorem dL_stores_263 : decode cL_stores 263 = .ok (.iconst 0, 1) := by decide +kernel
theorem dL_stores_264 : decode cL_stores 264 = .ok (.ireturn, 1) := by decide +kernel
theorem dL_stores_265 : decode cL_stores 265 = .ok (.iload_n 1, 1) := by decide +kernel
theorem dL_stores_266 : decode cL_stores 266 = .ok (.iconst 3, 1) := by decide +kernel
theorem dL_stores_267 : decode cL_stores 267 = .ok (.if_icmp .ge 277, 3) := by decide +kernel
theorem dL_stores_270 : decode cL_stores 270 = .ok (.iconst 0, 1) := by decide +kernel
theorem dL_stores_271 : decode cL_stores 271 = .ok (.istore 13, 2) := by decide +kernel
theorem dL_stores_273 : decode cL_stores 273 = .ok (.iload 13, 2) := by decide +kernel
theorem dL_stores_275 : decode cL_stores 275 = .ok (.iconst 4, 1) := by decide +kernel
theorem dL_stores_276 : decode cL_stores 276 = .ok (.if_icmp .ge 18, 3) := by decide +kernel
theorem dL_stores_279 : decode cL_stores 279 = .ok (.aload 7, 2) := by decide +kernel
theorem dL_stores_281 : decode cL_stores 281 = .ok (.iload 13, 2) := by decide +kernel
theorem dL_stores_283 : decode cL_stores 283 = .ok (.iaload, 1) := by decide +kernel
theorem dL_stores_284 : decode cL_stores 284 = .ok (.iconst 1, 1) := by decide +kernel
theorem dL_stores_285 : decode cL_stores 285 = .ok (.if_icmp .ne 9, 3) := by decide +kernel
theorem dL_stores_288 : decode cL_stores 288 = .ok (.iinc 13 1, 3) := by decide +kernel
theorem dL_stores_291 : decode cL_stores 291 = .ok (.goto (-18), 3) := by decide +kernel
theorem dL_stores_294 : decode cL_stores 294 = .ok (.iload 13, 2) := by decide +kernel
theorem dL_stores_296 : decode cL_stores 296 = .ok (.iconst 4, 1) := by decide +kernel
theorem dL_stores_297 : decode cL_stores 297 = .ok (.if_icmp .ne 10, 3) := by decide +kernel
theorem dL_stores_300 : decode cL_stores 300 = .ok (.iload 11, 2) := by decide +kernel
theorem dL_stores_302 : decode cL_stores 302 = .ok (.ifCond .eq 5, 3) := by decide +kernel
theorem dL_stores_305 : decode cL_stores 305 = .ok (.iconst 1, 1) := by decide +kernel
theorem dL_stores_306 : decode cL_stores 306 = .ok (.ireturn, 1) := by decide +kernel
theorem dL_stores_307 : decode cL_stores 307 = .ok (.iload 11, 2) := by decide +kernel
theorem dL_stores_309 : decode cL_stores 309 = .ok (.ifCond .eq 205, 3) := by decide +kernel
theorem dL_stores_312 : decode cL_stores 312 = .ok (.aload 7, 2) := by decide +kernel
theorem dL_stores_314 : decode cL_stores 314 = .ok (.iload 13, 2) := by decide +kernel
theorem dL_stores_316 : decode cL_stores 316 = .ok (.iconst 1, 1) := by decide +kernel
theorem dL_stores_317 : decode cL_stores 317 = .ok (.iastore, 1) := by decide +kernel
theorem dL_stores_318 : decode cL_stores 318 = .ok (.aload 7, 2) := by decide +kernel
theorem dL_stores_320 : decode cL_stores 320 = .ok (.iconst 4, 1) := by decide +kernel
theorem dL_stores_321 : decode cL_stores 321 = .ok (.iload 13, 2) := by decide +kernel
theorem dL_stores_323 : decode cL_stores 323 = .ok (.iadd, 1) := by decide +kernel
theorem dL_stores_324 : decode cL_stores 324 = .ok (.iconst 0, 1) := by decide +kernel
theorem dL_stores_325 : decode cL_stores 325 = .ok (.iastore, 1) := by decide +kernel
theorem dL_stores_326 : decode cL_stores 326 = .ok (.iconst 0, 1) := by decide +kernel
theorem dL_stores_327 : decode cL_stores 327 = .ok (.istore 14, 2) := by decide +kernel
theorem dL_stores_329 : decode cL_stores 329 = .ok (.iconst 0, 1) := by decide +kernel
theorem dL_stores_330 : decode cL_stores 330 = .ok (.istore 15, 2) := by decide +kernel
theorem dL_stores_332 : decode cL_stores 332 = .ok (.iload 15, 2) := by decide +kernel
theorem dL_stores_334 : decode cL_stores 334 = .ok (.aload 4, 2) := by decide +kernel
theorem dL_stores_336 : decode cL_stores 336 = .ok (.iload 9, 2) := by decide +kernel
theorem dL_stores_338 : decode cL_stores 338 = .ok (.iaload, 1) := by decide +kernel
theorem dL_stores_339 : decode cL_stores 339 = .ok (.if_icmp .ge 175, 3) := by decide +kernel
theorem dL_stores_342 : decode cL_stores 342 = .ok (.aload 5, 2) := by decide +kernel
theorem dL_stores_344 : decode cL_stores 344 = .ok (.bipush 16, 2) := by decide +kernel
theorem dL_stores_346 : decode cL_stores 346 = .ok (.iload 13, 2) := by decide +kernel
theorem dL_stores_348 : decode cL_stores 348 = .ok (.imul, 1) := by decide +kernel
theorem dL_stores_349 : decode cL_stores 349 = .ok (.iload 15, 2) := by decide +kernel
theorem dL_stores_351 : decode cL_stores 351 = .ok (.iadd, 1) := by decide +kernel
theorem dL_stores_352 : decode cL_stores 352 = .ok (.aload_n 3, 1) := by decide +kernel
theorem dL_stores_353 : decode cL_stores 353 = .ok (.bipush 16, 2) := by decide +kernel
theorem dL_stores_355 : decode cL_stores 355 = .ok (.iload 9, 2) := by decide +kernel
theorem dL_stores_357 : decode cL_stores 357 = .ok (.imul, 1) := by decide +kernel
theorem dL_stores_358 : decode cL_stores 358 = .ok (.iload 15, 2) := by decide +kernel
theorem dL_stores_360 : decode cL_stores 360 = .ok (.iadd, 1) := by decide +kernel
theorem dL_stores_361 : decode cL_stores 361 = .ok (.iaload, 1) := by decide +kernel
theorem dL_stores_362 : decode cL_stores 362 = .ok (.iastore, 1) := by decide +kernel
theorem dL_stores_363 : decode cL_stores 363 = .ok (.iconst 0, 1) := by decide +kernel
theorem dL_stores_364 : decode cL_stores 364 = .ok (.istore 16, 2) := by decide +kernel
theorem dL_stores_366 : decode cL_stores 366 = .ok (.iload 15, 2) := by decide +kernel
theorem dL_stores_368 : decode cL_stores 368 = .ok (.iconst 2, 1) := by decide +kernel
theorem dL_stores_369 : decode cL_stores 369 = .ok (.if_icmp .le 10, 3) := by decide +kernel
theorem dL_stores_372 : decode cL_stores 372 = .ok (.iload 15, 2) := by decide +kernel
theorem dL_stores_374 : decode cL_stores 374 = .ok (.iconst 3, 1) := by decide +kernel
theorem dL_stores_375 : decode cL_stores 375 = .ok (.isub, 1) := by decide +kernel
theorem dL_stores_376 : decode cL_stores 376 = .ok (.goto 4, 3) := by decide +kernel
theorem dL_stores_379 : decode cL_stores 379 = .ok (.iconst 0, 1) := by decide +kernel
theorem dL_stores_380 : decode cL_stores 380 = .ok (.istore 17, 2) := by decide +kernel
theorem dL_stores_382 : decode cL_stores 382 = .ok (.iload 17, 2) := by decide +kernel
theorem dL_stores_384 : decode cL_stores 384 = .ok (.iload 15, 2) := by decide +kernel
theorem dL_stores_386 : decode cL_stores 386 = .ok (.if_icmp .gt 32, 3) := by decide +kernel
theorem dL_stores_389 : decode cL_stores 389 = .ok (.iload 16, 2) := by decide +kernel
theorem dL_stores_391 : decode cL_stores 391 = .ok (.iload 15, 2) := by decide +kernel
theorem dL_stores_393 : decode cL_stores 393 = .ok (.iload 17, 2) := by decide +kernel
theorem dL_stores_395 : decode cL_stores 395 = .ok (.isub, 1) := by decide +kernel
theorem dL_stores_396 : decode cL_stores 396 = .ok (.iconst 1, 1) := by decide +kernel
theorem dL_stores_397 : decode cL_stores 397 = .ok (.iadd, 1) := by decide +kernel
theorem dL_stores_398 : decode cL_stores 398 = .ok (.aload_n 3, 1) := by decide +kernel
theorem dL_stores_399 : decode cL_stores 399 = .ok (.bipush 16, 2) := by decide +kernel
theorem dL_stores_401 : decode cL_stores 401 = .ok (.iload 9, 2) := by decide +kernel
theorem dL_stores_403 : decode cL_stores 403 = .ok (.imul, 1) := by decide +kernel
theorem dL_stores_404 : decode cL_stores 404 = .ok (.iload 17, 2) := by decide +kernel
theorem dL_stores_406 : decode cL_stores 406 = .ok (.iadd, 1) := by decide +kernel
theorem dL_stores_407 : decode cL_stores 407 = .ok (.iaload, 1) := by decide +kernel
theorem dL_stores_408 : decode cL_stores 408 = .ok (.imul, 1) := by decide +kernel
theorem dL_stores_409 : decode cL_stores 409 = .ok (.iadd, 1) := by decide +kernel
theorem dL_stores_410 : decode cL_stores 410 = .ok (.istore 16, 2) := by decide +kernel
theorem dL_stores_412 : decode cL_stores 412 = .ok (.iinc 17 1, 3) := by decide +kernel
theorem dL_stores_415 : decode cL_stores 415 = .ok (.goto (-33), 3) := by decide +kernel
theorem dL_stores_418 : decode cL_stores 418 = .ok (.iload 15, 2) := by decide +kernel
theorem dL_stores_420 : decode cL_stores 420 = .ok (.iconst 1, 1) := by decide +kernel
theorem dL_stores_421 : decode cL_stores 421 = .ok (.iadd, 1) := by decide +kernel
theorem dL_stores_422 : decode cL_stores 422 = .ok (.iload 14, 2) := by decide +kernel
theorem dL_stores_424 : decode cL_stores 424 = .ok (.isub, 1) := by decide +kernel
theorem dL_stores_425 : decode cL_stores 425 = .ok (.istore 17, 2) := by decide +kernel
theorem dL_stores_427 : decode cL_stores 427 = .ok (.iload 15, 2) := by decide +kernel
theorem dL_stores_429 : decode cL_stores 429 = .ok (.aload 4, 2) := by decide +kernel
theorem dL_stores_431 : decode cL_stores 431 = .ok (.iload 9, 2) := by decide +kernel
theorem dL_stores_433 : decode cL_stores 433 = .ok (.iaload, 1) := by decide +kernel
theorem dL_stores_434 : decode cL_stores 434 = .ok (.iconst 1, 1) := by decide +kernel
theorem dL_stores_435 : decode cL_stores 435 = .ok (.isub, 1) := by decide +kernel
theorem dL_stores_436 : decode cL_stores 436 = .ok (.if_icmp .eq 37, 3) := by decide +kernel
theorem dL_stores_439 : decode cL_stores 439 = .ok (.iload 17, 2) := by decide +kernel
theorem dL_stores_441 : decode cL_stores 441 = .ok (.aload 8, 2) := by decide +kernel
theorem dL_stores_443 : decode cL_stores 443 = .ok (.iconst 1, 1) := by decide +kernel
theorem dL_stores_444 : decode cL_stores 444 = .ok (.iaload, 1) := by decide +kernel
theorem dL_stores_445 : decode cL_stores 445 = .ok (.if_icmp .eq 28, 3) := by decide +kernel
theorem dL_stores_448 : decode cL_stores 448 = .ok (.iload 17, 2) := by decide +kernel
theorem dL_stores_450 : decode cL_stores 450 = .ok (.aload 8, 2) := by decide +kernel
theorem dL_stores_452 : decode cL_stores 452 = .ok (.iconst 0, 1) := by decide +kernel
theorem dL_stores_453 : decode cL_stores 453 = .ok (.iaload, 1) := by decide +kernel
theorem dL_stores_454 : decode cL_stores 454 = .ok (.if_icmp .lt 54, 3) := by decide +kernel
theorem dL_stores_457 : decode cL_stores 457 = .ok (.iload 16, 2) := by decide +kernel
theorem dL_stores_459 : decode cL_stores 459 = .ok (.aload 8, 2) := by decide +kernel
theorem dL_stores_461 : decode cL_stores 461 = .ok (.iconst 2, 1) := by decide +kernel
theorem dL_stores_462 : decode cL_stores 462 = .ok (.iaload, 1) := by decide +kernel
theorem dL_stores_463 : decode cL_stores 463 = .ok (.irem, 1) := by decide +kernel
theorem dL_stores_464 : decode cL_stores 464 = .ok (.aload 8, 2) := by decide +kernel
theorem dL_stores_466 : decode cL_stores 466 = .ok (.iconst 2, 1) := by decide +kernel
theorem dL_stores_467 : decode cL_stores 467 = .ok (.iaload, 1) := by decide +kernel
theorem dL_stores_468 : decode cL_stores 468 = .ok (.iconst 1, 1) := by decide +kernel
theorem dL_stores_469 : decode cL_stores 469 = .ok (.isub, 1) := by decide +kernel
theorem dL_stores_470 : decode cL_stores 470 = .ok (.if_icmp .ne 38, 3) := by decide +kernel
theorem dL_stores_473 : decode cL_stores 473 = .ok (.aload 6, 2) := by decide +kernel
theorem dL_stores_475 : decode cL_stores 475 = .ok (.bipush 16, 2) := by decide +kernel
theorem dL_stores_477 : decode cL_stores 477 = .ok (.iload 13, 2) := by decide +kernel
theorem dL_stores_479 : decode cL_stores 479 = .ok (.imul, 1) := by decide +kernel
theorem dL_stores_480 : decode cL_stores 480 = .ok (.aload 7, 2) := by decide +kernel
theorem dL_stores_482 : decode cL_stores 482 = .ok (.iconst 4, 1) := by decide +kernel
theorem dL_stores_483 : decode cL_stores 483 = .ok (.iload 13, 2) := by decide +kernel
theorem dL_stores_485 : decode cL_stores 485 = .ok (.iadd, 1) := by decide +kernel
theorem dL_stores_486 : decode cL_stores 486 = .ok (.iaload, 1) := by decide +kernel
theorem dL_stores_487 : decode cL_stores 487 = .ok (.iadd, 1) := by decide +kernel
theorem dL_stores_488 : decode cL_stores 488 = .ok (.iload 17, 2) := by decide +kernel
theorem dL_stores_490 : decode cL_stores 490 = .ok (.iastore, 1) := by decide +kernel
theorem dL_stores_491 : decode cL_stores 491 = .ok (.aload 7, 2) := by decide +kernel
theorem dL_stores_493 : decode cL_stores 493 = .ok (.iconst 4, 1) := by decide +kernel
theorem dL_stores_494 : decode cL_stores 494 = .ok (.iload 13, 2) := by decide +kernel
theorem dL_stores_496 : decode cL_stores 496 = .ok (.iadd, 1) := by decide +kernel
theorem dL_stores_497 : decode cL_stores 497 = .ok (.dup2, 1) := by decide +kernel
theorem dL_stores_498 : decode cL_stores 498 = .ok (.iaload, 1) := by decide +kernel
theorem dL_stores_499 : decode cL_stores 499 = .ok (.iconst 1, 1) := by decide +kernel
theorem dL_stores_500 : decode cL_stores 500 = .ok (.iadd, 1) := by decide +kernel
theorem dL_stores_501 : decode cL_stores 501 = .ok (.iastore, 1) := by decide +kernel
theorem dL_stores_502 : decode cL_stores 502 = .ok (.iload 15, 2) := by decide +kernel
theorem dL_stores_504 : decode cL_stores 504 = .ok (.iconst 1, 1) := by decide +kernel
theorem dL_stores_505 : decode cL_stores 505 = .ok (.iadd, 1) := by decide +kernel
theorem dL_stores_506 : decode cL_stores 506 = .ok (.istore 14, 2) := by decide +kernel
theorem dL_stores_508 : decode cL_stores 508 = .ok (.iinc 15 1, 3) := by decide +kernel
theorem dL_stores_511 : decode cL_stores 511 = .ok (.goto (-179), 3) := by decide +kernel
theorem dL_stores_514 : decode cL_stores 514 = .ok (.aload_n 0, 1) := by decide +kernel
theorem dL_stores_515 : decode cL_stores 515 = .ok (.iconst 4, 1) := by decide +kernel
theorem dL_stores_516 : decode cL_stores 516 = .ok (.iload 9, 2) := by decide +kernel
theorem dL_stores_518 : decode cL_stores 518 = .ok (.iconst 0, 1) := by decide +kernel
theorem dL_stores_519 : decode cL_stores 519 = .ok (.iconst 0, 1) := by decide +kernel
theorem dL_stores_520 : decode cL_stores 520 = .ok (.invokestatic 161, 3) := by decide +kernel
theorem dL_stores_523 : decode cL_stores 523 = .ok (.iload 11, 2) := by decide +kernel
theorem dL_stores_525 : decode cL_stores 525 = .ok (.ifCond .eq 8, 3) := by decide +kernel
theorem dL_stores_528 : decode cL_stores 528 = .ok (.iload 13, 2) := by decide +kernel
theorem dL_stores_530 : decode cL_stores 530 = .ok (.goto 5, 3) := by decide +kernel
theorem dL_stores_533 : decode cL_stores 533 = .ok (.bipush (-101), 2) := by decide +kernel
theorem dL_stores_535 : decode cL_stores 535 = .ok (.if_icmp .ne 7, 3) := by decide +kernel
theorem dL_stores_538 : decode cL_stores 538 = .ok (.iconst 1, 1) := by decide +kernel
theorem dL_stores_539 : decode cL_stores 539 = .ok (.goto 4, 3) := by decide +kernel
theorem dL_stores_542 : decode cL_stores 542 = .ok (.iconst 0, 1) := by decide +kernel
theorem dL_stores_543 : decode cL_stores 543 = .ok (.ireturn, 1) := by decide +kernel
theorem dL_stores_544 : decode cL_stores 544 = .ok (.iload_n 1, 1) := by decide +kernel
theorem dL_stores_545 : decode cL_stores 545 = .ok (.iconst 3, 1) := by decide +kernel
theorem dL_stores_546 : decode cL_stores 546 = .ok (.if_icmp .ne 163, 3) := by decide +kernel
theorem dL_stores_549 : decode cL_stores 549 = .ok (.iconst 0, 1) := by decide +kernel
theorem dL_stores_550 : decode cL_stores 550 = .ok (.istore 13, 2) := by decide +kernel
theorem dL_stores_552 : decode cL_stores 552 = .ok (.iconst 0, 1) := by decide +kernel
theorem dL_stores_553 : decode cL_stores 553 = .ok (.istore 14, 2) := by decide +kernel
theorem dL_stores_555 : decode cL_stores 555 = .ok (.iload 14, 2) := by decide +kernel
theorem dL_stores_557 : decode cL_stores 557 = .ok (.bipush 16, 2) := by decide +kernel
theorem dL_stores_559 : decode cL_stores 559 = .ok (.if_icmp .ge 110, 3) := by decide +kernel
theorem dL_stores_562 : decode cL_stores 562 = .ok (.iload 12, 2) := by decide +kernel
theorem dL_stores_564 : decode cL_stores 564 = .ok (.ifCond .eq 105, 3) := by decide +kernel
theorem dL_stores_567 : decode cL_stores 567 = .ok (.iload 14, 2) := by decide +kernel
theorem dL_stores_569 : decode cL_stores 569 = .ok (.aload 7, 2) := by decide +kernel
theorem dL_stores_571 : decode cL_stores 571 = .ok (.iconst 4, 1) := by decide +kernel
theorem dL_stores_572 : decode cL_stores 572 = .ok (.iload 10, 2) := by decide +kernel
theorem dL_stores_574 : decode cL_stores 574 = .ok (.iadd, 1) := by decide +kernel
theorem dL_stores_575 : decode cL_stores 575 = .ok (.iaload, 1) := by decide +kernel
theorem dL_stores_576 : decode cL_stores 576 = .ok (.if_icmp .ge 93, 3) := by decide +kernel
theorem dL_stores_579 : decode cL_stores 579 = .ok (.aload 5, 2) := by decide +kernel
theorem dL_stores_581 : decode cL_stores 581 = .ok (.aload 6, 2) := by decide +kernel
theorem dL_stores_583 : decode cL_stores 583 = .ok (.aload 7, 2) := by decide +kernel
theorem dL_stores_585 : decode cL_stores 585 = .ok (.iload 10, 2) := by decide +kernel
theorem dL_stores_587 : decode cL_stores 587 = .ok (.iload 14, 2) := by decide +kernel
theorem dL_stores_589 : decode cL_stores 589 = .ok (.iload 10, 2) := by decide +kernel
theorem dL_stores_591 : decode cL_stores 591 = .ok (.iload 14, 2) := by decide +kernel
theorem dL_stores_593 : decode cL_stores 593 = .ok (.iconst (-1), 1) := by decide +kernel
theorem dL_stores_594 : decode cL_stores 594 = .ok (.invokestatic 190, 3) := by decide +kernel
theorem dL_stores_597 : decode cL_stores 597 = .ok (.aload 5, 2) := by decide +kernel
theorem dL_stores_599 : decode cL_stores 599 = .ok (.aload 6, 2) := by decide +kernel
theorem dL_stores_601 : decode cL_stores 601 = .ok (.aload 7, 2) := by decide +kernel
theorem dL_stores_603 : decode cL_stores 603 = .ok (.iload 10, 2) := by decide +kernel
theorem dL_stores_605 : decode cL_stores 605 = .ok (.iload 14, 2) := by decide +kernel
theorem dL_stores_607 : decode cL_stores 607 = .ok (.iload 10, 2) := by decide +kernel
theorem dL_stores_609 : decode cL_stores 609 = .ok (.iconst 0, 1) := by decide +kernel
theorem dL_stores_610 : decode cL_stores 610 = .ok (.iconst (-1), 1) := by decide +kernel
theorem dL_stores_611 : decode cL_stores 611 = .ok (.invokestatic 190, 3) := by decide +kernel
theorem dL_stores_614 : decode cL_stores 614 = .ok (.if_icmp .ne 7, 3) := by decide +kernel
theorem dL_stores_617 : decode cL_stores 617 = .ok (.iconst 1, 1) := by decide +kernel
theorem dL_stores_618 : decode cL_stores 618 = .ok (.goto 4, 3) := by decide +kernel
theorem dL_stores_621 : decode cL_stores 621 = .ok (.iconst 0, 1) := by decide +kernel
theorem dL_stores_622 : decode cL_stores 622 = .ok (.istore 15, 2) := by decide +kernel
theorem dL_stores_624 : decode cL_stores 624 = .ok (.iload 13, 2) := by decide +kernel
theorem dL_stores_626 : decode cL_stores 626 = .ok (.iload 15, 2) := by decide +kernel
theorem dL_stores_628 : decode cL_stores 628 = .ok (.ifCond .eq 31, 3) := by decide +kernel
theorem dL_stores_631 : decode cL_stores 631 = .ok (.aload 5, 2) := by decide +kernel
theorem dL_stores_633 : decode cL_stores 633 = .ok (.aload 6, 2) := by decide +kernel
theorem dL_stores_635 : decode cL_stores 635 = .ok (.aload 7, 2) := by decide +kernel
theorem dL_stores_637 : decode cL_stores 637 = .ok (.iload 10, 2) := by decide +kernel
theorem dL_stores_639 : decode cL_stores 639 = .ok (.iload 14, 2) := by decide +kernel
theorem dL_stores_641 : decode cL_stores 641 = .ok (.iconst 3, 1) := by decide +kernel
theorem dL_stores_642 : decode cL_stores 642 = .ok (.aload 7, 2) := by decide +kernel
theorem dL_stores_644 : decode cL_stores 644 = .ok (.bipush 7, 2) := by decide +kernel
theorem dL_stores_646 : decode cL_stores 646 = .ok (.iaload, 1) := by decide +kernel
theorem dL_stores_647 : decode cL_stores 647 = .ok (.iload 10, 2) := by decide +kernel
theorem dL_stores_649 : decode cL_stores 649 = .ok (.invokestatic 190, 3) := by decide +kernel
theorem dL_stores_652 : decode cL_stores 652 = .ok (.ifCond .ne 7, 3) := by decide +kernel
theorem dL_stores_655 : decode cL_stores 655 = .ok (.iconst 1, 1) := by decide +kernel
theorem dL_stores_656 : decode cL_stores 656 = .ok (.goto 4, 3) := by decide +kernel
theorem dL_stores_659 : decode cL_stores 659 = .ok (.iconst 0, 1) := by decide +kernel
theorem dL_stores_660 : decode cL_stores 660 = .ok (.iadd, 1) := by decide +kernel
theorem dL_stores_661 : decode cL_stores 661 = .ok (.istore 13, 2) := by decide +kernel
theorem dL_stores_663 : decode cL_stores 663 = .ok (.iinc 14 1, 3) := by decide +kernel
theorem dL_stores_666 : decode cL_stores 666 = .ok (.goto (-111), 3) := by decide +kernel
theorem dL_stores_669 : decode cL_stores 669 = .ok (.iload 12, 2) := by decide +kernel
theorem dL_stores_671 : decode cL_stores 671 = .ok (.ifCond .eq 9, 3) := by decide +kernel
theorem dL_stores_674 : decode cL_stores 674 = .ok (.aload 7, 2) := by decide +kernel
theorem dL_stores_676 : decode cL_stores 676 = .ok (.iload 10, 2) := by decide +kernel
theorem dL_stores_678 : decode cL_stores 678 = .ok (.iconst 0, 1) := by decide +kernel
theorem dL_stores_679 : decode cL_stores 679 = .ok (.iastore, 1) := by decide +kernel
theorem dL_stores_680 : decode cL_stores 680 = .ok (.aload_n 0, 1) := by decide +kernel
theorem dL_stores_681 : decode cL_stores 681 = .ok (.iconst 0, 1) := by decide +kernel
theorem dL_stores_682 : decode cL_stores 682 = .ok (.iload 10, 2) := by decide +kernel
theorem dL_stores_684 : decode cL_stores 684 = .ok (.iconst 0, 1) := by decide +kernel
theorem dL_stores_685 : decode cL_stores 685 = .ok (.invokestatic 194, 3) := by decide +kernel
theorem dL_stores_688 : decode cL_stores 688 = .ok (.iload 12, 2) := by decide +kernel
theorem dL_stores_690 : decode cL_stores 690 = .ok (.ifCond .eq 8, 3) := by decide +kernel
theorem dL_stores_693 : decode cL_stores 693 = .ok (.iload 13, 2) := by decide +kernel
theorem dL_stores_695 : decode cL_stores 695 = .ok (.goto 5, 3) := by decide +kernel
theorem dL_stores_698 : decode cL_stores 698 = .ok (.bipush (-101), 2) := by decide +kernel
theorem dL_stores_700 : decode cL_stores 700 = .ok (.if_icmp .ne 7, 3) := by decide +kernel
theorem dL_stores_703 : decode cL_stores 703 = .ok (.iconst 1, 1) := by decide +kernel
theorem dL_stores_704 : decode cL_stores 704 = .ok (.goto 4, 3) := by decide +kernel
theorem dL_stores_707 : decode cL_stores 707 = .ok (.iconst 0, 1) := by decide +kernel
theorem dL_stores_708 : decode cL_stores 708 = .ok (.ireturn, 1) := by decide +kernel
theorem dL_stores_709 : decode cL_stores 709 = .ok (.iconst 0, 1) := by decide +kernel
theorem dL_stores_710 : decode cL_stores 710 = .ok (.istore 13, 2) := by decide +kernel
theorem dL_stores_712 : decode cL_stores 712 = .ok (.iconst 0, 1) := by decide +kernel
theorem dL_stores_713 : decode cL_stores 713 = .ok (.istore 14, 2) := by decide +kernel
theorem dL_stores_715 : decode cL_stores 715 = .ok (.iload 12, 2) := by decide +kernel
theorem dL_stores_717 : decode cL_stores 717 = .ok (.ifCond .eq 37, 3) := by decide +kernel
theorem dL_stores_720 : decode cL_stores 720 = .ok (.iload 14, 2) := by decide +kernel
theorem dL_stores_722 : decode cL_stores 722 = .ok (.aload 7, 2) := by decide +kernel
theorem dL_stores_724 : decode cL_stores 724 = .ok (.iconst 4, 1) := by decide +kernel
theorem dL_stores_725 : decode cL_stores 725 = .ok (.iload 10, 2) := by decide +kernel
theorem dL_stores_727 : decode cL_stores 727 = .ok (.iadd, 1) := by decide +kernel
theorem dL_stores_728 : decode cL_stores 728 = .ok (.iaload, 1) := by decide +kernel
theorem dL_stores_729 : decode cL_stores 729 = .ok (.if_icmp .ge 25, 3) := by decide +kernel
theorem dL_stores_732 : decode cL_stores 732 = .ok (.iload 13, 2) := by decide +kernel
theorem dL_stores_734 : decode cL_stores 734 = .ok (.aload 6, 2) := by decide +kernel
theorem dL_stores_736 : decode cL_stores 736 = .ok (.bipush 16, 2) := by decide +kernel
theorem dL_stores_738 : decode cL_stores 738 = .ok (.iload 10, 2) := by decide +kernel
theorem dL_stores_740 : decode cL_stores 740 = .ok (.imul, 1) := by decide +kernel
theorem dL_stores_741 : decode cL_stores 741 = .ok (.iload 14, 2) := by decide +kernel
theorem dL_stores_743 : decode cL_stores 743 = .ok (.iadd, 1) := by decide +kernel
theorem dL_stores_744 : decode cL_stores 744 = .ok (.iaload, 1) := by decide +kernel
theorem dL_stores_745 : decode cL_stores 745 = .ok (.iadd, 1) := by decide +kernel
theorem dL_stores_746 : decode cL_stores 746 = .ok (.istore 13, 2) := by decide +kernel
theorem dL_stores_748 : decode cL_stores 748 = .ok (.iinc 14 1, 3) := by decide +kernel
theorem dL_stores_751 : decode cL_stores 751 = .ok (.goto (-36), 3) := by decide +kernel
theorem dL_stores_754 : decode cL_stores 754 = .ok (.iload 12, 2) := by decide +kernel
theorem dL_stores_756 : decode cL_stores 756 = .ok (.ifCond .eq 25, 3) := by decide +kernel
theorem dL_stores_759 : decode cL_stores 759 = .ok (.iload 11, 2) := by decide +kernel
theorem dL_stores_761 : decode cL_stores 761 = .ok (.ifCond .eq 20, 3) := by decide +kernel
theorem dL_stores_764 : decode cL_stores 764 = .ok (.aload_n 3, 1) := by decide +kernel
theorem dL_stores_765 : decode cL_stores 765 = .ok (.aload 4, 2) := by decide +kernel
theorem dL_stores_767 : decode cL_stores 767 = .ok (.iload 9, 2) := by decide +kernel
theorem dL_stores_769 : decode cL_stores 769 = .ok (.aload 5, 2) := by decide +kernel
theorem dL_stores_771 : decode cL_stores 771 = .ok (.bipush 16, 2) := by decide +kernel
theorem dL_stores_773 : decode cL_stores 773 = .ok (.iload 10, 2) := by decide +kernel
theorem dL_stores_775 : decode cL_stores 775 = .ok (.imul, 1) := by decide +kernel
theorem dL_stores_776 : decode cL_stores 776 = .ok (.iload 13, 2) := by decide +kernel
theorem dL_stores_778 : decode cL_stores 778 = .ok (.invokestatic 146, 3) := by decide +kernel
theorem dL_stores_781 : decode cL_stores 781 = .ok (.aload_n 0, 1) := by decide +kernel
theorem dL_stores_782 : decode cL_stores 782 = .ok (.iconst 1, 1) := by decide +kernel
theorem dL_stores_783 : decode cL_stores 783 = .ok (.iload 10, 2) := by decide +kernel
theorem dL_stores_785 : decode cL_stores 785 = .ok (.iload 9, 2) := by decide +kernel
theorem dL_stores_787 : decode cL_stores 787 = .ok (.invokestatic 194, 3) := by decide +kernel
theorem dL_stores_790 : decode cL_stores 790 = .ok (.iload 12, 2) := by decide +kernel
theorem dL_stores_792 : decode cL_stores 792 = .ok (.ifCond .eq 13, 3) := by decide +kernel
theorem dL_stores_795 : decode cL_stores 795 = .ok (.iload 11, 2) := by decide +kernel
theorem dL_stores_797 : decode cL_stores 797 = .ok (.ifCond .eq 8, 3) := by decide +kernel
theorem dL_stores_800 : decode cL_stores 800 = .ok (.iload 13, 2) := by decide +kernel
theorem dL_stores_802 : decode cL_stores 802 = .ok (.goto 5, 3) := by decide +kernel
theorem dL_stores_805 : decode cL_stores 805 = .ok (.bipush (-101), 2) := by decide +kernel
theorem dL_stores_807 : decode cL_stores 807 = .ok (.if_icmp .ne 7, 3) := by decide +kernel
theorem dL_stores_810 : decode cL_stores 810 = .ok (.iconst 1, 1) := by decide +kernel
theorem dL_stores_811 : decode cL_stores 811 = .ok (.goto 4, 3) := by decide +kernel
theorem dL_stores_814 : decode cL_stores 814 = .ok (.iconst 0, 1) := by decide +kernel
theorem dL_stores_815 : decode cL_stores 815 = .ok (.ireturn, 1) := by decide +kernel
theorem dL_asks_0 : decode cL_asks 0 = .ok (.iload_n 1, 1) := by decide +kernel
theorem dL_asks_1 : decode cL_asks 1 = .ok (.iconst 5, 1) := by decide +kernel
theorem dL_asks_2 : decode cL_asks 2 = .ok (.invokestatic 136, 3) := by decide +kernel
theorem dL_asks_5 : decode cL_asks 5 = .ok (.istore 10, 2) := by decide +kernel
theorem dL_asks_7 : decode cL_asks 7 = .ok (.iload 10, 2) := by decide +kernel
theorem dL_asks_9 : decode cL_asks 9 = .ok (.iconst 4, 1) := by decide +kernel
theorem dL_asks_10 : decode cL_asks 10 = .ok (.if_icmp .ge 7, 3) := by decide +kernel
theorem dL_asks_13 : decode cL_asks 13 = .ok (.iconst 1, 1) := by decide +kernel
theorem dL_asks_14 : decode cL_asks 14 = .ok (.goto 4, 3) := by decide +kernel
theorem dL_asks_17 : decode cL_asks 17 = .ok (.iconst 0, 1) := by decide +kernel
theorem dL_asks_18 : decode cL_asks 18 = .ok (.istore 11, 2) := by decide +kernel
theorem dL_asks_20 : decode cL_asks 20 = .ok (.iload_n 1, 1) := by decide +kernel
theorem dL_asks_21 : decode cL_asks 21 = .ok (.iconst 3, 1) := by decide +kernel
theorem dL_asks_22 : decode cL_asks 22 = .ok (.ishr, 1) := by decide +kernel
theorem dL_asks_23 : decode cL_asks 23 = .ok (.bipush 18, 2) := by decide +kernel
theorem dL_asks_25 : decode cL_asks 25 = .ok (.invokestatic 136, 3) := by decide +kernel
theorem dL_asks_28 : decode cL_asks 28 = .ok (.iconst 1, 1) := by decide +kernel
theorem dL_asks_29 : decode cL_asks 29 = .ok (.isub, 1) := by decide +kernel
theorem dL_asks_30 : decode cL_asks 30 = .ok (.istore 12, 2) := by decide +kernel
theorem dL_asks_32 : decode cL_asks 32 = .ok (.iload 11, 2) := by decide +kernel
theorem dL_asks_34 : decode cL_asks 34 = .ok (.ifCond .eq 30, 3) := by decide +kernel
theorem dL_asks_37 : decode cL_asks 37 = .ok (.iload 12, 2) := by decide +kernel
theorem dL_asks_39 : decode cL_asks 39 = .ok (.ifCond .lt 25, 3) := by decide +kernel
theorem dL_asks_42 : decode cL_asks 42 = .ok (.iload 12, 2) := by decide +kernel
theorem dL_asks_44 : decode cL_asks 44 = .ok (.aload_n 3, 1) := by decide +kernel
theorem dL_asks_45 : decode cL_asks 45 = .ok (.iload 10, 2) := by decide +kernel
theorem dL_asks_47 : decode cL_asks 47 = .ok (.iaload, 1) := by decide +kernel
theorem dL_asks_48 : decode cL_asks 48 = .ok (.if_icmp .ge 16, 3) := by decide +kernel
theorem dL_asks_51 : decode cL_asks 51 = .ok (.aload_n 2, 1) := by decide +kernel
theorem dL_asks_52 : decode cL_asks 52 = .ok (.bipush 16, 2) := by decide +kernel
theorem dL_asks_54 : decode cL_asks 54 = .ok (.iload 10, 2) := by decide +kernel
theorem dL_asks_56 : decode cL_asks 56 = .ok (.imul, 1) := by decide +kernel
theorem dL_asks_57 : decode cL_asks 57 = .ok (.iload 12, 2) := by decide +kernel
theorem dL_asks_59 : decode cL_asks 59 = .ok (.iadd, 1) := by decide +kernel
theorem dL_asks_60 : decode cL_asks 60 = .ok (.iaload, 1) := by decide +kernel
theorem dL_asks_61 : decode cL_asks 61 = .ok (.goto 5, 3) := by decide +kernel
theorem dL_asks_64 : decode cL_asks 64 = .ok (.bipush (-101), 2) := by decide +kernel
theorem dL_asks_66 : decode cL_asks 66 = .ok (.istore 13, 2) := by decide +kernel
theorem dL_asks_68 : decode cL_asks 68 = .ok (.aload_n 0, 1) := by decide +kernel
theorem dL_asks_69 : decode cL_asks 69 = .ok (.iconst 0, 1) := by decide +kernel
theorem dL_asks_70 : decode cL_asks 70 = .ok (.iload 10, 2) := by decide +kernel
theorem dL_asks_72 : decode cL_asks 72 = .ok (.iconst 0, 1) := by decide +kernel
theorem dL_asks_73 : decode cL_asks 73 = .ok (.invokestatic 181, 3) := by decide +kernel
theorem dL_asks_76 : decode cL_asks 76 = .ok (.iload 11, 2) := by decide +kernel
theorem dL_asks_78 : decode cL_asks 78 = .ok (.ifCond .eq 10, 3) := by decide +kernel
theorem dL_asks_81 : decode cL_asks 81 = .ok (.aload_n 3, 1) := by decide +kernel
theorem dL_asks_82 : decode cL_asks 82 = .ok (.iload 10, 2) := by decide +kernel
theorem dL_asks_84 : decode cL_asks 84 = .ok (.iaload, 1) := by decide +kernel
theorem dL_asks_85 : decode cL_asks 85 = .ok (.goto 5, 3) := by decide +kernel
theorem dL_asks_88 : decode cL_asks 88 = .ok (.bipush (-101), 2) := by decide +kernel
theorem dL_asks_90 : decode cL_asks 90 = .ok (.if_icmp .ne 17, 3) := by decide +kernel
theorem dL_asks_93 : decode cL_asks 93 = .ok (.aload_n 0, 1) := by decide +kernel
theorem dL_asks_94 : decode cL_asks 94 = .ok (.iconst 1, 1) := by decide +kernel
theorem dL_asks_95 : decode cL_asks 95 = .ok (.iload 10, 2) := by decide +kernel
theorem dL_asks_97 : decode cL_asks 97 = .ok (.iload 12, 2) := by decide +kernel
theorem dL_asks_99 : decode cL_asks 99 = .ok (.invokestatic 181, 3) := by decide +kernel
theorem dL_asks_102 : decode cL_asks 102 = .ok (.iload 13, 2) := by decide +kernel
theorem dL_asks_104 : decode cL_asks 104 = .ok (.if_icmp .eq 5, 3) := by decide +kernel
theorem dL_asks_107 : decode cL_asks 107 = .ok (.iconst 0, 1) := by decide +kernel
theorem dL_asks_108 : decode cL_asks 108 = .ok (.ireturn, 1) := by decide +kernel
theorem dL_asks_109 : decode cL_asks 109 = .ok (.iload 11, 2) := by decide +kernel
theorem dL_asks_111 : decode cL_asks 111 = .ok (.ifCond .eq 36, 3) := by decide +kernel
theorem dL_asks_114 : decode cL_asks 114 = .ok (.aload 5, 2) := by decide +kernel
theorem dL_asks_116 : decode cL_asks 116 = .ok (.iload 10, 2) := by decide +kernel
theorem dL_asks_118 : decode cL_asks 118 = .ok (.iaload, 1) := by decide +kernel
theorem dL_asks_119 : decode cL_asks 119 = .ok (.ifCond .le 28, 3) := by decide +kernel
theorem dL_asks_122 : decode cL_asks 122 = .ok (.aload 5, 2) := by decide +kernel
theorem dL_asks_124 : decode cL_asks 124 = .ok (.bipush 8, 2) := by decide +kernel
theorem dL_asks_126 : decode cL_asks 126 = .ok (.iload 10, 2) := by decide +kernel
theorem dL_asks_128 : decode cL_asks 128 = .ok (.iadd, 1) := by decide +kernel
theorem dL_asks_129 : decode cL_asks 129 = .ok (.iaload, 1) := by decide +kernel
theorem dL_asks_130 : decode cL_asks 130 = .ok (.aload 5, 2) := by decide +kernel
theorem dL_asks_132 : decode cL_asks 132 = .ok (.iload 10, 2) := by decide +kernel
theorem dL_asks_134 : decode cL_asks 134 = .ok (.iaload, 1) := by decide +kernel
theorem dL_asks_135 : decode cL_asks 135 = .ok (.iadd, 1) := by decide +kernel
theorem dL_asks_136 : decode cL_asks 136 = .ok (.iconst 1, 1) := by decide +kernel
theorem dL_asks_137 : decode cL_asks 137 = .ok (.isub, 1) := by decide +kernel
theorem dL_asks_138 : decode cL_asks 138 = .ok (.aload 5, 2) := by decide +kernel
theorem dL_asks_140 : decode cL_asks 140 = .ok (.iload 10, 2) := by decide +kernel
theorem dL_asks_142 : decode cL_asks 142 = .ok (.iaload, 1) := by decide +kernel
theorem dL_asks_143 : decode cL_asks 143 = .ok (.idiv, 1) := by decide +kernel
theorem dL_asks_144 : decode cL_asks 144 = .ok (.goto 4, 3) := by decide +kernel
theorem dL_asks_147 : decode cL_asks 147 = .ok (.iconst 0, 1) := by decide +kernel
theorem dL_asks_148 : decode cL_asks 148 = .ok (.istore 14, 2) := by decide +kernel
theorem dL_asks_150 : decode cL_asks 150 = .ok (.iload_n 1, 1) := by decide +kernel
theorem dL_asks_151 : decode cL_asks 151 = .ok (.iconst 4, 1) := by decide +kernel
theorem dL_asks_152 : decode cL_asks 152 = .ok (.ishr, 1) := by decide +kernel
theorem dL_asks_153 : decode cL_asks 153 = .ok (.iload 14, 2) := by decide +kernel
theorem dL_asks_155 : decode cL_asks 155 = .ok (.iconst 1, 1) := by decide +kernel
theorem dL_asks_156 : decode cL_asks 156 = .ok (.iadd, 1) := by decide +kernel
theorem dL_asks_157 : decode cL_asks 157 = .ok (.invokestatic 136, 3) := by decide +kernel
theorem dL_asks_160 : decode cL_asks 160 = .ok (.iload_n 1, 1) := by decide +kernel
theorem dL_asks_161 : decode cL_asks 161 = .ok (.bipush 9, 2) := by decide +kernel
theorem dL_asks_163 : decode cL_asks 163 = .ok (.ishr, 1) := by decide +kernel
theorem dL_asks_164 : decode cL_asks 164 = .ok (.bipush 11, 2) := by decide +kernel
theorem dL_asks_166 : decode cL_asks 166 = .ok (.invokestatic 136, 3) := by decide +kernel
theorem dL_asks_169 : decode cL_asks 169 = .ok (.ifCond .ne 7, 3) := by decide +kernel
theorem dL_asks_172 : decode cL_asks 172 = .ok (.iconst 1, 1) := by decide +kernel
theorem dL_asks_173 : decode cL_asks 173 = .ok (.goto 4, 3) := by decide +kernel
theorem dL_asks_176 : decode cL_asks 176 = .ok (.iconst 0, 1) := by decide +kernel
theorem dL_asks_177 : decode cL_asks 177 = .ok (.isub, 1) := by decide +kernel
theorem dL_asks_178 : decode cL_asks 178 = .ok (.istore 15, 2) := by decide +kernel
theorem dL_asks_180 : decode cL_asks 180 = .ok (.iload 15, 2) := by decide +kernel
theorem dL_asks_182 : decode cL_asks 182 = .ok (.ifCond .lt 14, 3) := by decide +kernel
theorem dL_asks_185 : decode cL_asks 185 = .ok (.iload 15, 2) := by decide +kernel
theorem dL_asks_187 : decode cL_asks 187 = .ok (.iload 14, 2) := by decide +kernel
theorem dL_asks_189 : decode cL_asks 189 = .ok (.if_icmp .ge 7, 3) := by decide +kernel
theorem dL_asks_192 : decode cL_asks 192 = .ok (.iconst 1, 1) := by decide +kernel
theorem dL_asks_193 : decode cL_asks 193 = .ok (.goto 4, 3) := by decide +kernel
theorem dL_asks_196 : decode cL_asks 196 = .ok (.iconst 0, 1) := by decide +kernel
theorem dL_asks_197 : decode cL_asks 197 = .ok (.istore 16, 2) := by decide +kernel
theorem dL_asks_199 : decode cL_asks 199 = .ok (.iload 16, 2) := by decide +kernel
theorem dL_asks_201 : decode cL_asks 201 = .ok (.ifCond .eq 40, 3) := by decide +kernel
theorem dL_asks_204 : decode cL_asks 204 = .ok (.iload 15, 2) := by decide +kernel
theorem dL_asks_206 : decode cL_asks 206 = .ok (.iload 14, 2) := by decide +kernel
theorem dL_asks_208 : decode cL_asks 208 = .ok (.iconst 1, 1) := by decide +kernel
theorem dL_asks_209 : decode cL_asks 209 = .ok (.isub, 1) := by decide +kernel
theorem dL_asks_210 : decode cL_asks 210 = .ok (.if_icmp .ne 23, 3) := by decide +kernel
theorem dL_asks_213 : decode cL_asks 213 = .ok (.aload 5, 2) := by decide +kernel
theorem dL_asks_215 : decode cL_asks 215 = .ok (.bipush 8, 2) := by decide +kernel
theorem dL_asks_217 : decode cL_asks 217 = .ok (.iload 10, 2) := by decide +kernel
theorem dL_asks_219 : decode cL_asks 219 = .ok (.iadd, 1) := by decide +kernel
theorem dL_asks_220 : decode cL_asks 220 = .ok (.iaload, 1) := by decide +kernel
theorem dL_asks_221 : decode cL_asks 221 = .ok (.iload 15, 2) := by decide +kernel
theorem dL_asks_223 : decode cL_asks 223 = .ok (.aload 5, 2) := by decide +kernel
theorem dL_asks_225 : decode cL_asks 225 = .ok (.iload 10, 2) := by decide +kernel
theorem dL_asks_227 : decode cL_asks 227 = .ok (.iaload, 1) := by decide +kernel
theorem dL_asks_228 : decode cL_asks 228 = .ok (.imul, 1) := by decide +kernel
theorem dL_asks_229 : decode cL_asks 229 = .ok (.isub, 1) := by decide +kernel
theorem dL_asks_230 : decode cL_asks 230 = .ok (.goto 12, 3) := by decide +kernel
theorem dL_asks_233 : decode cL_asks 233 = .ok (.aload 5, 2) := by decide +kernel
theorem dL_asks_235 : decode cL_asks 235 = .ok (.iload 10, 2) := by decide +kernel
theorem dL_asks_237 : decode cL_asks 237 = .ok (.iaload, 1) := by decide +kernel
theorem dL_asks_238 : decode cL_asks 238 = .ok (.goto 4, 3) := by decide +kernel
theorem dL_asks_241 : decode cL_asks 241 = .ok (.iconst 0, 1) := by decide +kernel
theorem dL_asks_242 : decode cL_asks 242 = .ok (.istore 17, 2) := by decide +kernel
theorem dL_asks_244 : decode cL_asks 244 = .ok (.aload_n 0, 1) := by decide +kernel
theorem dL_asks_245 : decode cL_asks 245 = .ok (.iconst 2, 1) := by decide +kernel
theorem dL_asks_246 : decode cL_asks 246 = .ok (.iload 10, 2) := by decide +kernel
theorem dL_asks_248 : decode cL_asks 248 = .ok (.iconst 0, 1) := by decide +kernel
theorem dL_asks_249 : decode cL_asks 249 = .ok (.invokestatic 181, 3) := by decide +kernel
theorem dL_asks_252 : decode cL_asks 252 = .ok (.iload 11, 2) := by decide +kernel
theorem dL_asks_254 : decode cL_asks 254 = .ok (.ifCond .eq 8, 3) := by decide +kernel
theorem dL_asks_257 : decode cL_asks 257 = .ok (.iload 14, 2) := by decide +kernel
theorem dL_asks_259 : decode cL_asks 259 = .ok (.goto 5, 3) := by decide +kernel
theorem dL_asks_262 : decode cL_asks 262 = .ok (.bipush (-101), 2) := by decide +kernel
theorem dL_asks_264 : decode cL_asks 264 = .ok (.if_icmp .ne 97, 3) := by decide +kernel
theorem dL_asks_267 : decode cL_asks 267 = .ok (.aload_n 0, 1) := by decide +kernel
theorem dL_asks_268 : decode cL_asks 268 = .ok (.iconst 3, 1) := by decide +kernel
theorem dL_asks_269 : decode cL_asks 269 = .ok (.iload 10, 2) := by decide +kernel
theorem dL_asks_271 : decode cL_asks 271 = .ok (.iload 15, 2) := by decide +kernel
theorem dL_asks_273 : decode cL_asks 273 = .ok (.invokestatic 181, 3) := by decide +kernel
theorem dL_asks_276 : decode cL_asks 276 = .ok (.iload 16, 2) := by decide +kernel
theorem dL_asks_278 : decode cL_asks 278 = .ok (.ifCond .eq 34, 3) := by decide +kernel
theorem dL_asks_281 : decode cL_asks 281 = .ok (.aload 4, 2) := by decide +kernel
theorem dL_asks_283 : decode cL_asks 283 = .ok (.bipush 16, 2) := by decide +kernel
theorem dL_asks_285 : decode cL_asks 285 = .ok (.iload 10, 2) := by decide +kernel
theorem dL_asks_287 : decode cL_asks 287 = .ok (.imul, 1) := by decide +kernel
theorem dL_asks_288 : decode cL_asks 288 = .ok (.iload 15, 2) := by decide +kernel
theorem dL_asks_290 : decode cL_asks 290 = .ok (.aload 5, 2) := by decide +kernel
theorem dL_asks_292 : decode cL_asks 292 = .ok (.iload 10, 2) := by decide +kernel
theorem dL_asks_294 : decode cL_asks 294 = .ok (.iaload, 1) := by decide +kernel
theorem dL_asks_295 : decode cL_asks 295 = .ok (.imul, 1) := by decide +kernel
theorem dL_asks_296 : decode cL_asks 296 = .ok (.iadd, 1) := by decide +kernel
theorem dL_asks_297 : decode cL_asks 297 = .ok (.iload 17, 2) := by decide +kernel
theorem dL_asks_299 : decode cL_asks 299 = .ok (.aload 5, 2) := by decide +kernel
theorem dL_asks_301 : decode cL_asks 301 = .ok (.iconst 4, 1) := by decide +kernel
theorem dL_asks_302 : decode cL_asks 302 = .ok (.iload 10, 2) := by decide +kernel
theorem dL_asks_304 : decode cL_asks 304 = .ok (.iadd, 1) := by decide +kernel
theorem dL_asks_305 : decode cL_asks 305 = .ok (.iaload, 1) := by decide +kernel
theorem dL_asks_306 : decode cL_asks 306 = .ok (.invokestatic 9, 3) := by decide +kernel
theorem dL_asks_309 : decode cL_asks 309 = .ok (.goto 5, 3) := by decide +kernel
theorem dL_asks_312 : decode cL_asks 312 = .ok (.bipush (-101), 2) := by decide +kernel
theorem dL_asks_314 : decode cL_asks 314 = .ok (.if_icmp .ne 47, 3) := by decide +kernel
theorem dL_asks_317 : decode cL_asks 317 = .ok (.aload_n 0, 1) := by decide +kernel
theorem dL_asks_318 : decode cL_asks 318 = .ok (.iload 10, 2) := by decide +kernel
theorem dL_asks_320 : decode cL_asks 320 = .ok (.iload 15, 2) := by decide +kernel
theorem dL_asks_322 : decode cL_asks 322 = .ok (.invokestatic 197, 3) := by decide +kernel
theorem dL_asks_325 : decode cL_asks 325 = .ok (.iload 16, 2) := by decide +kernel
theorem dL_asks_327 : decode cL_asks 327 = .ok (.ifCond .eq 27, 3) := by decide +kernel
theorem dL_asks_330 : decode cL_asks 330 = .ok (.aload 4, 2) := by decide +kernel
theorem dL_asks_332 : decode cL_asks 332 = .ok (.bipush 16, 2) := by decide +kernel
theorem dL_asks_334 : decode cL_asks 334 = .ok (.iload 10, 2) := by decide +kernel
theorem dL_asks_336 : decode cL_asks 336 = .ok (.imul, 1) := by decide +kernel
theorem dL_asks_337 : decode cL_asks 337 = .ok (.iload 15, 2) := by decide +kernel
theorem dL_asks_339 : decode cL_asks 339 = .ok (.aload 5, 2) := by decide +kernel
theorem dL_asks_341 : decode cL_asks 341 = .ok (.iload 10, 2) := by decide +kernel
theorem dL_asks_343 : decode cL_asks 343 = .ok (.iaload, 1) := by decide +kernel
theorem dL_asks_344 : decode cL_asks 344 = .ok (.imul, 1) := by decide +kernel
theorem dL_asks_345 : decode cL_asks 345 = .ok (.iadd, 1) := by decide +kernel
theorem dL_asks_346 : decode cL_asks 346 = .ok (.iload 17, 2) := by decide +kernel
theorem dL_asks_348 : decode cL_asks 348 = .ok (.invokestatic 201, 3) := by decide +kernel
theorem dL_asks_351 : decode cL_asks 351 = .ok (.goto 6, 3) := by decide +kernel
theorem dL_asks_354 : decode cL_asks 354 = .ok (.ldc2_w 87, 3) := by decide +kernel
theorem dL_asks_357 : decode cL_asks 357 = .ok (.lcmp, 1) := by decide +kernel
theorem dL_asks_358 : decode cL_asks 358 = .ok (.ifCond .eq 5, 3) := by decide +kernel
theorem dL_asks_361 : decode cL_asks 361 = .ok (.iconst 0, 1) := by decide +kernel
theorem dL_asks_362 : decode cL_asks 362 = .ok (.ireturn, 1) := by decide +kernel
theorem dL_asks_363 : decode cL_asks 363 = .ok (.iload 11, 2) := by decide +kernel
theorem dL_asks_365 : decode cL_asks 365 = .ok (.ifCond .eq 19, 3) := by decide +kernel
theorem dL_asks_368 : decode cL_asks 368 = .ok (.aload 9, 2) := by decide +kernel
theorem dL_asks_370 : decode cL_asks 370 = .ok (.iload 10, 2) := by decide +kernel
theorem dL_asks_372 : decode cL_asks 372 = .ok (.iaload, 1) := by decide +kernel
theorem dL_asks_373 : decode cL_asks 373 = .ok (.ifCond .le 11, 3) := by decide +kernel
theorem dL_asks_376 : decode cL_asks 376 = .ok (.aload 9, 2) := by decide +kernel
theorem dL_asks_378 : decode cL_asks 378 = .ok (.iload 10, 2) := by decide +kernel
theorem dL_asks_380 : decode cL_asks 380 = .ok (.iaload, 1) := by decide +kernel
theorem dL_asks_381 : decode cL_asks 381 = .ok (.goto 4, 3) := by decide +kernel
theorem dL_asks_384 : decode cL_asks 384 = .ok (.iconst 0, 1) := by decide +kernel
theorem dL_asks_385 : decode cL_asks 385 = .ok (.istore 18, 2) := by decide +kernel
theorem dL_asks_387 : decode cL_asks 387 = .ok (.aload_n 0, 1) := by decide +kernel
theorem dL_asks_388 : decode cL_asks 388 = .ok (.iconst 4, 1) := by decide +kernel
theorem dL_asks_389 : decode cL_asks 389 = .ok (.iload 10, 2) := by decide +kernel
theorem dL_asks_391 : decode cL_asks 391 = .ok (.iconst 0, 1) := by decide +kernel
theorem dL_asks_392 : decode cL_asks 392 = .ok (.invokestatic 181, 3) := by decide +kernel
theorem dL_asks_395 : decode cL_asks 395 = .ok (.iload 11, 2) := by decide +kernel
theorem dL_asks_397 : decode cL_asks 397 = .ok (.ifCond .eq 8, 3) := by decide +kernel
theorem dL_asks_400 : decode cL_asks 400 = .ok (.iload 18, 2) := by decide +kernel
theorem dL_asks_402 : decode cL_asks 402 = .ok (.goto 5, 3) := by decide +kernel
theorem dL_asks_405 : decode cL_asks 405 = .ok (.bipush (-101), 2) := by decide +kernel
theorem dL_asks_407 : decode cL_asks 407 = .ok (.if_icmp .ne 86, 3) := by decide +kernel
theorem dL_asks_410 : decode cL_asks 410 = .ok (.aload_n 0, 1) := by decide +kernel
theorem dL_asks_411 : decode cL_asks 411 = .ok (.bipush 7, 2) := by decide +kernel
theorem dL_asks_413 : decode cL_asks 413 = .ok (.iload 10, 2) := by decide +kernel
theorem dL_asks_415 : decode cL_asks 415 = .ok (.iconst 0, 1) := by decide +kernel
theorem dL_asks_416 : decode cL_asks 416 = .ok (.invokestatic 181, 3) := by decide +kernel
theorem dL_asks_419 : decode cL_asks 419 = .ok (.iload 11, 2) := by decide +kernel
theorem dL_asks_421 : decode cL_asks 421 = .ok (.ifCond .eq 26, 3) := by decide +kernel
theorem dL_asks_424 : decode cL_asks 424 = .ok (.iload 18, 2) := by decide +kernel
theorem dL_asks_426 : decode cL_asks 426 = .ok (.ifCond .le 17, 3) := by decide +kernel
theorem dL_asks_429 : decode cL_asks 429 = .ok (.aload 6, 2) := by decide +kernel
theorem dL_asks_431 : decode cL_asks 431 = .ok (.aload 8, 2) := by decide +kernel
theorem dL_asks_433 : decode cL_asks 433 = .ok (.aload 9, 2) := by decide +kernel
theorem dL_asks_435 : decode cL_asks 435 = .ok (.iload 10, 2) := by decide +kernel
theorem dL_asks_437 : decode cL_asks 437 = .ok (.invokestatic 167, 3) := by decide +kernel
theorem dL_asks_440 : decode cL_asks 440 = .ok (.goto 9, 3) := by decide +kernel
theorem dL_asks_443 : decode cL_asks 443 = .ok (.iconst 0, 1) := by decide +kernel
theorem dL_asks_444 : decode cL_asks 444 = .ok (.goto 5, 3) := by decide +kernel
theorem dL_asks_447 : decode cL_asks 447 = .ok (.bipush (-101), 2) := by decide +kernel
theorem dL_asks_449 : decode cL_asks 449 = .ok (.if_icmp .ne 44, 3) := by decide +kernel
theorem dL_asks_452 : decode cL_asks 452 = .ok (.aload_n 0, 1) := by decide +kernel
theorem dL_asks_453 : decode cL_asks 453 = .ok (.bipush 8, 2) := by decide +kernel
theorem dL_asks_455 : decode cL_asks 455 = .ok (.iload 10, 2) := by decide +kernel
theorem dL_asks_457 : decode cL_asks 457 = .ok (.iconst 0, 1) := by decide +kernel
theorem dL_asks_458 : decode cL_asks 458 = .ok (.invokestatic 181, 3) := by decide +kernel
theorem dL_asks_461 : decode cL_asks 461 = .ok (.iload 11, 2) := by decide +kernel
theorem dL_asks_463 : decode cL_asks 463 = .ok (.ifCond .eq 25, 3) := by decide +kernel
theorem dL_asks_466 : decode cL_asks 466 = .ok (.aload 9, 2) := by decide +kernel
theorem dL_asks_468 : decode cL_asks 468 = .ok (.iload 10, 2) := by decide +kernel
theorem dL_asks_470 : decode cL_asks 470 = .ok (.iaload, 1) := by decide +kernel
theorem dL_asks_471 : decode cL_asks 471 = .ok (.ifCond .ge 7, 3) := by decide +kernel
theorem dL_asks_474 : decode cL_asks 474 = .ok (.iconst 0, 1) := by decide +kernel
theorem dL_asks_475 : decode cL_asks 475 = .ok (.goto 15, 3) := by decide +kernel
theorem dL_asks_478 : decode cL_asks 478 = .ok (.aload 9, 2) := by decide +kernel
theorem dL_asks_480 : decode cL_asks 480 = .ok (.iconst 4, 1) := by decide +kernel
theorem dL_asks_481 : decode cL_asks 481 = .ok (.iload 10, 2) := by decide +kernel
theorem dL_asks_483 : decode cL_asks 483 = .ok (.iadd, 1) := by decide +kernel
theorem dL_asks_484 : decode cL_asks 484 = .ok (.iaload, 1) := by decide +kernel
theorem dL_asks_485 : decode cL_asks 485 = .ok (.goto 5, 3) := by decide +kernel
theorem dL_asks_488 : decode cL_asks 488 = .ok (.bipush (-101), 2) := by decide +kernel
theorem dL_asks_490 : decode cL_asks 490 = .ok (.if_icmp .eq 5, 3) := by decide +kernel
theorem dL_asks_493 : decode cL_asks 493 = .ok (.iconst 0, 1) := by decide +kernel
theorem dL_asks_494 : decode cL_asks 494 = .ok (.ireturn, 1) := by decide +kernel
theorem dL_asks_495 : decode cL_asks 495 = .ok (.iconst 0, 1) := by decide +kernel
theorem dL_asks_496 : decode cL_asks 496 = .ok (.istore 19, 2) := by decide +kernel
theorem dL_asks_498 : decode cL_asks 498 = .ok (.iload 19, 2) := by decide +kernel
theorem dL_asks_500 : decode cL_asks 500 = .ok (.iload 18, 2) := by decide +kernel
theorem dL_asks_502 : decode cL_asks 502 = .ok (.if_icmp .gt 124, 3) := by decide +kernel
theorem dL_asks_505 : decode cL_asks 505 = .ok (.iload 19, 2) := by decide +kernel
theorem dL_asks_507 : decode cL_asks 507 = .ok (.iload 18, 2) := by decide +kernel
theorem dL_asks_509 : decode cL_asks 509 = .ok (.if_icmp .ge 7, 3) := by decide +kernel
theorem dL_asks_512 : decode cL_asks 512 = .ok (.iconst 1, 1) := by decide +kernel
theorem dL_asks_513 : decode cL_asks 513 = .ok (.goto 4, 3) := by decide +kernel
theorem dL_asks_516 : decode cL_asks 516 = .ok (.iconst 0, 1) := by decide +kernel
theorem dL_asks_517 : decode cL_asks 517 = .ok (.istore 20, 2) := by decide +kernel
theorem dL_asks_519 : decode cL_asks 519 = .ok (.aload_n 0, 1) := by decide +kernel
theorem dL_asks_520 : decode cL_asks 520 = .ok (.iload 10, 2) := by decide +kernel
theorem dL_asks_522 : decode cL_asks 522 = .ok (.iload 19, 2) := by decide +kernel
theorem dL_asks_524 : decode cL_asks 524 = .ok (.invokestatic 204, 3) := by decide +kernel
theorem dL_asks_527 : decode cL_asks 527 = .ok (.iload 20, 2) := by decide +kernel
theorem dL_asks_529 : decode cL_asks 529 = .ok (.ifCond .eq 17, 3) := by decide +kernel
theorem dL_asks_532 : decode cL_asks 532 = .ok (.aload 6, 2) := by decide +kernel
theorem dL_asks_534 : decode cL_asks 534 = .ok (.bipush 16, 2) := by decide +kernel
theorem dL_asks_536 : decode cL_asks 536 = .ok (.iload 10, 2) := by decide +kernel
theorem dL_asks_538 : decode cL_asks 538 = .ok (.imul, 1) := by decide +kernel
theorem dL_asks_539 : decode cL_asks 539 = .ok (.iload 19, 2) := by decide +kernel
theorem dL_asks_541 : decode cL_asks 541 = .ok (.iadd, 1) := by decide +kernel
theorem dL_asks_542 : decode cL_asks 542 = .ok (.iaload, 1) := by decide +kernel
theorem dL_asks_543 : decode cL_asks 543 = .ok (.goto 5, 3) := by decide +kernel
theorem dL_asks_546 : decode cL_asks 546 = .ok (.bipush (-101), 2) := by decide +kernel
theorem dL_asks_548 : decode cL_asks 548 = .ok (.if_icmp .ne 70, 3) := by decide +kernel
theorem dL_asks_551 : decode cL_asks 551 = .ok (.aload_n 0, 1) := by decide +kernel
theorem dL_asks_552 : decode cL_asks 552 = .ok (.iconst 5, 1) := by decide +kernel
theorem dL_asks_553 : decode cL_asks 553 = .ok (.iload 10, 2) := by decide +kernel
theorem dL_asks_555 : decode cL_asks 555 = .ok (.iload 19, 2) := by decide +kernel
theorem dL_asks_557 : decode cL_asks 557 = .ok (.invokestatic 181, 3) := by decide +kernel
theorem dL_asks_560 : decode cL_asks 560 = .ok (.iload 20, 2) := by decide +kernel
theorem dL_asks_562 : decode cL_asks 562 = .ok (.ifCond .eq 17, 3) := by decide +kernel
theorem dL_asks_565 : decode cL_asks 565 = .ok (.aload 7, 2) := by decide +kernel
theorem dL_asks_567 : decode cL_asks 567 = .ok (.bipush 16, 2) := by decide +kernel
theorem dL_asks_569 : decode cL_asks 569 = .ok (.iload 10, 2) := by decide +kernel
theorem dL_asks_571 : decode cL_asks 571 = .ok (.imul, 1) := by decide +kernel
theorem dL_asks_572 : decode cL_asks 572 = .ok (.iload 19, 2) := by decide +kernel
theorem dL_asks_574 : decode cL_asks 574 = .ok (.iadd, 1) := by decide +kernel
theorem dL_asks_575 : decode cL_asks 575 = .ok (.iaload, 1) := by decide +kernel
theorem dL_asks_576 : decode cL_asks 576 = .ok (.goto 5, 3) := by decide +kernel
theorem dL_asks_579 : decode cL_asks 579 = .ok (.bipush (-101), 2) := by decide +kernel
theorem dL_asks_581 : decode cL_asks 581 = .ok (.if_icmp .ne 37, 3) := by decide +kernel
theorem dL_asks_584 : decode cL_asks 584 = .ok (.aload_n 0, 1) := by decide +kernel
theorem dL_asks_585 : decode cL_asks 585 = .ok (.bipush 6, 2) := by decide +kernel
theorem dL_asks_587 : decode cL_asks 587 = .ok (.iload 10, 2) := by decide +kernel
theorem dL_asks_589 : decode cL_asks 589 = .ok (.iload 19, 2) := by decide +kernel
theorem dL_asks_591 : decode cL_asks 591 = .ok (.invokestatic 181, 3) := by decide +kernel
theorem dL_asks_594 : decode cL_asks 594 = .ok (.iload 20, 2) := by decide +kernel
theorem dL_asks_596 : decode cL_asks 596 = .ok (.ifCond .eq 17, 3) := by decide +kernel
theorem dL_asks_599 : decode cL_asks 599 = .ok (.aload 8, 2) := by decide +kernel
theorem dL_asks_601 : decode cL_asks 601 = .ok (.bipush 16, 2) := by decide +kernel
theorem dL_asks_603 : decode cL_asks 603 = .ok (.iload 10, 2) := by decide +kernel
theorem dL_asks_605 : decode cL_asks 605 = .ok (.imul, 1) := by decide +kernel
theorem dL_asks_606 : decode cL_asks 606 = .ok (.iload 19, 2) := by decide +kernel
theorem dL_asks_608 : decode cL_asks 608 = .ok (.iadd, 1) := by decide +kernel
theorem dL_asks_609 : decode cL_asks 609 = .ok (.iaload, 1) := by decide +kernel
theorem dL_asks_610 : decode cL_asks 610 = .ok (.goto 5, 3) := by decide +kernel
theorem dL_asks_613 : decode cL_asks 613 = .ok (.bipush (-101), 2) := by decide +kernel
theorem dL_asks_615 : decode cL_asks 615 = .ok (.if_icmp .eq 5, 3) := by decide +kernel
theorem dL_asks_618 : decode cL_asks 618 = .ok (.iconst 0, 1) := by decide +kernel
theorem dL_asks_619 : decode cL_asks 619 = .ok (.ireturn, 1) := by decide +kernel
theorem dL_asks_620 : decode cL_asks 620 = .ok (.iinc 19 1, 3) := by decide +kernel
theorem dL_asks_623 : decode cL_asks 623 = .ok (.goto (-125), 3) := by decide +kernel
theorem dL_asks_626 : decode cL_asks 626 = .ok (.iconst 1, 1) := by decide +kernel
theorem dL_asks_627 : decode cL_asks 627 = .ok (.ireturn, 1) := by decide +kernel
theorem dL_keepsTold_0 : decode cL_keepsTold 0 = .ok (.bipush 16, 2) := by decide +kernel
theorem dL_keepsTold_2 : decode cL_keepsTold 2 = .ok (.newarray .int, 2) := by decide +kernel
theorem dL_keepsTold_4 : decode cL_keepsTold 4 = .ok (.astore 13, 2) := by decide +kernel
theorem dL_keepsTold_6 : decode cL_keepsTold 6 = .ok (.iconst 3, 1) := by decide +kernel
theorem dL_keepsTold_7 : decode cL_keepsTold 7 = .ok (.newarray .int, 2) := by decide +kernel
theorem dL_keepsTold_9 : decode cL_keepsTold 9 = .ok (.astore 14, 2) := by decide +kernel
theorem dL_keepsTold_11 : decode cL_keepsTold 11 = .ok (.iload_n 1, 1) := by decide +kernel
theorem dL_keepsTold_12 : decode cL_keepsTold 12 = .ok (.bipush 6, 2) := by decide +kernel
theorem dL_keepsTold_14 : decode cL_keepsTold 14 = .ok (.invokestatic 136, 3) := by decide +kernel
theorem dL_keepsTold_17 : decode cL_keepsTold 17 = .ok (.iconst 1, 1) := by decide +kernel
theorem dL_keepsTold_18 : decode cL_keepsTold 18 = .ok (.isub, 1) := by decide +kernel
theorem dL_keepsTold_19 : decode cL_keepsTold 19 = .ok (.istore 15, 2) := by decide +kernel
theorem dL_keepsTold_21 : decode cL_keepsTold 21 = .ok (.iload 15, 2) := by decide +kernel
theorem dL_keepsTold_23 : decode cL_keepsTold 23 = .ok (.ifCond .lt 16, 3) := by decide +kernel
theorem dL_keepsTold_26 : decode cL_keepsTold 26 = .ok (.iload 15, 2) := by decide +kernel
theorem dL_keepsTold_28 : decode cL_keepsTold 28 = .ok (.aload 9, 2) := by decide +kernel
theorem dL_keepsTold_30 : decode cL_keepsTold 30 = .ok (.iconst 0, 1) := by decide +kernel
theorem dL_keepsTold_31 : decode cL_keepsTold 31 = .ok (.iaload, 1) := by decide +kernel
theorem dL_keepsTold_32 : decode cL_keepsTold 32 = .ok (.if_icmp .ge 7, 3) := by decide +kernel
theorem dL_keepsTold_35 : decode cL_keepsTold 35 = .ok (.iconst 1, 1) := by decide +kernel
theorem dL_keepsTold_36 : decode cL_keepsTold 36 = .ok (.goto 4, 3) := by decide +kernel
theorem dL_keepsTold_39 : decode cL_keepsTold 39 = .ok (.iconst 0, 1) := by decide +kernel
theorem dL_keepsTold_40 : decode cL_keepsTold 40 = .ok (.istore 16, 2) := by decide +kernel
theorem dL_keepsTold_42 : decode cL_keepsTold 42 = .ok (.iload 16, 2) := by decide +kernel
theorem dL_keepsTold_44 : decode cL_keepsTold 44 = .ok (.ifCond .eq 25, 3) := by decide +kernel
theorem dL_keepsTold_47 : decode cL_keepsTold 47 = .ok (.iload 15, 2) := by decide +kernel
theorem dL_keepsTold_49 : decode cL_keepsTold 49 = .ok (.aload_n 2, 1) := by decide +kernel
theorem dL_keepsTold_50 : decode cL_keepsTold 50 = .ok (.aload_n 3, 1) := by decide +kernel
theorem dL_keepsTold_51 : decode cL_keepsTold 51 = .ok (.aload 4, 2) := by decide +kernel
theorem dL_keepsTold_53 : decode cL_keepsTold 53 = .ok (.aload 5, 2) := by decide +kernel
theorem dL_keepsTold_55 : decode cL_keepsTold 55 = .ok (.aload 6, 2) := by decide +kernel
theorem dL_keepsTold_57 : decode cL_keepsTold 57 = .ok (.aload 7, 2) := by decide +kernel
theorem dL_keepsTold_59 : decode cL_keepsTold 59 = .ok (.aload 8, 2) := by decide +kernel
theorem dL_keepsTold_61 : decode cL_keepsTold 61 = .ok (.aload 13, 2) := by decide +kernel
theorem dL_keepsTold_63 : decode cL_keepsTold 63 = .ok (.aload 14, 2) := by decide +kernel
theorem dL_keepsTold_65 : decode cL_keepsTold 65 = .ok (.invokestatic 170, 3) := by decide +kernel
theorem dL_keepsTold_68 : decode cL_keepsTold 68 = .ok (.pop, 1) := by decide +kernel
theorem dL_keepsTold_69 : decode cL_keepsTold 69 = .ok (.iconst 0, 1) := by decide +kernel
theorem dL_keepsTold_70 : decode cL_keepsTold 70 = .ok (.istore 17, 2) := by decide +kernel
theorem dL_keepsTold_72 : decode cL_keepsTold 72 = .ok (.iload 17, 2) := by decide +kernel
theorem dL_keepsTold_74 : decode cL_keepsTold 74 = .ok (.iconst 3, 1) := by decide +kernel
theorem dL_keepsTold_75 : decode cL_keepsTold 75 = .ok (.if_icmp .ge 41, 3) := by decide +kernel
theorem dL_keepsTold_78 : decode cL_keepsTold 78 = .ok (.aload_n 0, 1) := by decide +kernel
theorem dL_keepsTold_79 : decode cL_keepsTold 79 = .ok (.bipush 10, 2) := by decide +kernel
theorem dL_keepsTold_81 : decode cL_keepsTold 81 = .ok (.iload 17, 2) := by decide +kernel
theorem dL_keepsTold_83 : decode cL_keepsTold 83 = .ok (.iadd, 1) := by decide +kernel
theorem dL_keepsTold_84 : decode cL_keepsTold 84 = .ok (.iload 15, 2) := by decide +kernel
theorem dL_keepsTold_86 : decode cL_keepsTold 86 = .ok (.iconst 0, 1) := by decide +kernel
theorem dL_keepsTold_87 : decode cL_keepsTold 87 = .ok (.invokestatic 181, 3) := by decide +kernel
theorem dL_keepsTold_90 : decode cL_keepsTold 90 = .ok (.iload 16, 2) := by decide +kernel
theorem dL_keepsTold_92 : decode cL_keepsTold 92 = .ok (.ifCond .eq 11, 3) := by decide +kernel
theorem dL_keepsTold_95 : decode cL_keepsTold 95 = .ok (.aload 14, 2) := by decide +kernel
theorem dL_keepsTold_97 : decode cL_keepsTold 97 = .ok (.iload 17, 2) := by decide +kernel
theorem dL_keepsTold_99 : decode cL_keepsTold 99 = .ok (.iaload, 1) := by decide +kernel
theorem dL_keepsTold_100 : decode cL_keepsTold 100 = .ok (.goto 5, 3) := by decide +kernel
theorem dL_keepsTold_103 : decode cL_keepsTold 103 = .ok (.bipush (-101), 2) := by decide +kernel
theorem dL_keepsTold_105 : decode cL_keepsTold 105 = .ok (.if_icmp .eq 5, 3) := by decide +kernel
theorem dL_keepsTold_108 : decode cL_keepsTold 108 = .ok (.iconst 0, 1) := by decide +kernel
theorem dL_keepsTold_109 : decode cL_keepsTold 109 = .ok (.ireturn, 1) := by decide +kernel
theorem dL_keepsTold_110 : decode cL_keepsTold 110 = .ok (.iinc 17 1, 3) := by decide +kernel
theorem dL_keepsTold_113 : decode cL_keepsTold 113 = .ok (.goto (-41), 3) := by decide +kernel
theorem dL_keepsTold_116 : decode cL_keepsTold 116 = .ok (.aload_n 0, 1) := by decide +kernel
theorem dL_keepsTold_117 : decode cL_keepsTold 117 = .ok (.bipush 13, 2) := by decide +kernel
theorem dL_keepsTold_119 : decode cL_keepsTold 119 = .ok (.iload 15, 2) := by decide +kernel
theorem dL_keepsTold_121 : decode cL_keepsTold 121 = .ok (.iconst 0, 1) := by decide +kernel
theorem dL_keepsTold_122 : decode cL_keepsTold 122 = .ok (.invokestatic 181, 3) := by decide +kernel
theorem dL_keepsTold_125 : decode cL_keepsTold 125 = .ok (.iload 16, 2) := by decide +kernel
theorem dL_keepsTold_127 : decode cL_keepsTold 127 = .ok (.ifCond .eq 18, 3) := by decide +kernel
theorem dL_keepsTold_130 : decode cL_keepsTold 130 = .ok (.iload 15, 2) := by decide +kernel
theorem dL_keepsTold_132 : decode cL_keepsTold 132 = .ok (.aload_n 3, 1) := by decide +kernel
theorem dL_keepsTold_133 : decode cL_keepsTold 133 = .ok (.aload 5, 2) := by decide +kernel
theorem dL_keepsTold_135 : decode cL_keepsTold 135 = .ok (.aload 7, 2) := by decide +kernel
theorem dL_keepsTold_137 : decode cL_keepsTold 137 = .ok (.aload 8, 2) := by decide +kernel
theorem dL_keepsTold_139 : decode cL_keepsTold 139 = .ok (.invokestatic 177, 3) := by decide +kernel
theorem dL_keepsTold_142 : decode cL_keepsTold 142 = .ok (.goto 5, 3) := by decide +kernel
theorem dL_keepsTold_145 : decode cL_keepsTold 145 = .ok (.bipush (-101), 2) := by decide +kernel
theorem dL_keepsTold_147 : decode cL_keepsTold 147 = .ok (.if_icmp .ne 14, 3) := by decide +kernel
theorem dL_keepsTold_150 : decode cL_keepsTold 150 = .ok (.aload_n 0, 1) := by decide +kernel
theorem dL_keepsTold_151 : decode cL_keepsTold 151 = .ok (.invokevirtual 207, 3) := by decide +kernel
theorem dL_keepsTold_154 : decode cL_keepsTold 154 = .ok (.aload 9, 2) := by decide +kernel
theorem dL_keepsTold_156 : decode cL_keepsTold 156 = .ok (.iconst 0, 1) := by decide +kernel
theorem dL_keepsTold_157 : decode cL_keepsTold 157 = .ok (.iaload, 1) := by decide +kernel
theorem dL_keepsTold_158 : decode cL_keepsTold 158 = .ok (.if_icmp .eq 5, 3) := by decide +kernel
theorem dL_keepsTold_161 : decode cL_keepsTold 161 = .ok (.iconst 0, 1) := by decide +kernel
theorem dL_keepsTold_162 : decode cL_keepsTold 162 = .ok (.ireturn, 1) := by decide +kernel
theorem dL_keepsTold_163 : decode cL_keepsTold 163 = .ok (.iconst 0, 1) := by decide +kernel
theorem dL_keepsTold_164 : decode cL_keepsTold 164 = .ok (.istore 17, 2) := by decide +kernel
theorem dL_keepsTold_166 : decode cL_keepsTold 166 = .ok (.iconst 0, 1) := by decide +kernel
theorem dL_keepsTold_167 : decode cL_keepsTold 167 = .ok (.istore 18, 2) := by decide +kernel
theorem dL_keepsTold_169 : decode cL_keepsTold 169 = .ok (.iconst 0, 1) := by decide +kernel
theorem dL_keepsTold_170 : decode cL_keepsTold 170 = .ok (.istore 19, 2) := by decide +kernel
theorem dL_keepsTold_172 : decode cL_keepsTold 172 = .ok (.iconst 0, 1) := by decide +kernel
theorem dL_keepsTold_173 : decode cL_keepsTold 173 = .ok (.istore 20, 2) := by decide +kernel
theorem dL_keepsTold_175 : decode cL_keepsTold 175 = .ok (.iload 20, 2) := by decide +kernel
theorem dL_keepsTold_177 : decode cL_keepsTold 177 = .ok (.iconst 4, 1) := by decide +kernel
theorem dL_keepsTold_178 : decode cL_keepsTold 178 = .ok (.if_icmp .ge 89, 3) := by decide +kernel
theorem dL_keepsTold_181 : decode cL_keepsTold 181 = .ok (.iload 19, 2) := by decide +kernel
theorem dL_keepsTold_183 : decode cL_keepsTold 183 = .ok (.aload 12, 2) := by decide +kernel
theorem dL_keepsTold_185 : decode cL_keepsTold 185 = .ok (.iload 20, 2) := by decide +kernel
theorem dL_keepsTold_187 : decode cL_keepsTold 187 = .ok (.iaload, 1) := by decide +kernel
theorem dL_keepsTold_188 : decode cL_keepsTold 188 = .ok (.iadd, 1) := by decide +kernel
theorem dL_keepsTold_189 : decode cL_keepsTold 189 = .ok (.istore 19, 2) := by decide +kernel
theorem dL_keepsTold_191 : decode cL_keepsTold 191 = .ok (.iconst 0, 1) := by decide +kernel
theorem dL_keepsTold_192 : decode cL_keepsTold 192 = .ok (.istore 21, 2) := by decide +kernel
theorem dL_keepsTold_194 : decode cL_keepsTold 194 = .ok (.aload 12, 2) := by decide +kernel
theorem dL_keepsTold_196 : decode cL_keepsTold 196 = .ok (.iload 20, 2) := by decide +kernel
theorem dL_keepsTold_198 : decode cL_keepsTold 198 = .ok (.iaload, 1) := by decide +kernel
theorem dL_keepsTold_199 : decode cL_keepsTold 199 = .ok (.iconst 1, 1) := by decide +kernel
theorem dL_keepsTold_200 : decode cL_keepsTold 200 = .ok (.if_icmp .ne 61, 3) := by decide +kernel
theorem dL_keepsTold_203 : decode cL_keepsTold 203 = .ok (.iload 21, 2) := by decide +kernel
theorem dL_keepsTold_205 : decode cL_keepsTold 205 = .ok (.aload 12, 2) := by decide +kernel
theorem dL_keepsTold_207 : decode cL_keepsTold 207 = .ok (.iconst 4, 1) := by decide +kernel
theorem dL_keepsTold_208 : decode cL_keepsTold 208 = .ok (.iload 20, 2) := by decide +kernel
theorem dL_keepsTold_210 : decode cL_keepsTold 210 = .ok (.iadd, 1) := by decide +kernel
theorem dL_keepsTold_211 : decode cL_keepsTold 211 = .ok (.iaload, 1) := by decide +kernel
theorem dL_keepsTold_212 : decode cL_keepsTold 212 = .ok (.if_icmp .ge 49, 3) := by decide +kernel
theorem dL_keepsTold_215 : decode cL_keepsTold 215 = .ok (.aload 10, 2) := by decide +kernel
theorem dL_keepsTold_217 : decode cL_keepsTold 217 = .ok (.aload 11, 2) := by decide +kernel
theorem dL_keepsTold_219 : decode cL_keepsTold 219 = .ok (.aload 12, 2) := by decide +kernel
theorem dL_keepsTold_221 : decode cL_keepsTold 221 = .ok (.iload 20, 2) := by decide +kernel
theorem dL_keepsTold_223 : decode cL_keepsTold 223 = .ok (.iload 21, 2) := by decide +kernel
theorem dL_keepsTold_225 : decode cL_keepsTold 225 = .ok (.iload 20, 2) := by decide +kernel
theorem dL_keepsTold_227 : decode cL_keepsTold 227 = .ok (.iload 21, 2) := by decide +kernel
theorem dL_keepsTold_229 : decode cL_keepsTold 229 = .ok (.iconst (-1), 1) := by decide +kernel
theorem dL_keepsTold_230 : decode cL_keepsTold 230 = .ok (.invokestatic 190, 3) := by decide +kernel
theorem dL_keepsTold_233 : decode cL_keepsTold 233 = .ok (.ifCond .ne 22, 3) := by decide +kernel
theorem dL_keepsTold_236 : decode cL_keepsTold 236 = .ok (.iinc 17 1, 3) := by decide +kernel
theorem dL_keepsTold_239 : decode cL_keepsTold 239 = .ok (.iload 18, 2) := by decide +kernel
theorem dL_keepsTold_241 : decode cL_keepsTold 241 = .ok (.aload 11, 2) := by decide +kernel
theorem dL_keepsTold_243 : decode cL_keepsTold 243 = .ok (.bipush 16, 2) := by decide +kernel
theorem dL_keepsTold_245 : decode cL_keepsTold 245 = .ok (.iload 20, 2) := by decide +kernel
theorem dL_keepsTold_247 : decode cL_keepsTold 247 = .ok (.imul, 1) := by decide +kernel
theorem dL_keepsTold_248 : decode cL_keepsTold 248 = .ok (.iload 21, 2) := by decide +kernel
theorem dL_keepsTold_250 : decode cL_keepsTold 250 = .ok (.iadd, 1) := by decide +kernel
theorem dL_keepsTold_251 : decode cL_keepsTold 251 = .ok (.iaload, 1) := by decide +kernel
theorem dL_keepsTold_252 : decode cL_keepsTold 252 = .ok (.iadd, 1) := by decide +kernel
theorem dL_keepsTold_253 : decode cL_keepsTold 253 = .ok (.istore 18, 2) := by decide +kernel
theorem dL_keepsTold_255 : decode cL_keepsTold 255 = .ok (.iinc 21 1, 3) := by decide +kernel
theorem dL_keepsTold_258 : decode cL_keepsTold 258 = .ok (.goto (-64), 3) := by decide +kernel
theorem dL_keepsTold_261 : decode cL_keepsTold 261 = .ok (.iinc 20 1, 3) := by decide +kernel
theorem dL_keepsTold_264 : decode cL_keepsTold 264 = .ok (.goto (-89), 3) := by decide +kernel
theorem dL_keepsTold_267 : decode cL_keepsTold 267 = .ok (.iload_n 1, 1) := by decide +kernel
theorem dL_keepsTold_268 : decode cL_keepsTold 268 = .ok (.iconst 3, 1) := by decide +kernel
theorem dL_keepsTold_269 : decode cL_keepsTold 269 = .ok (.ishr, 1) := by decide +kernel
theorem dL_keepsTold_270 : decode cL_keepsTold 270 = .ok (.iconst 5, 1) := by decide +kernel
theorem dL_keepsTold_271 : decode cL_keepsTold 271 = .ok (.invokestatic 136, 3) := by decide +kernel
theorem dL_keepsTold_274 : decode cL_keepsTold 274 = .ok (.istore 20, 2) := by decide +kernel
theorem dL_keepsTold_276 : decode cL_keepsTold 276 = .ok (.iload 20, 2) := by decide +kernel
theorem dL_keepsTold_278 : decode cL_keepsTold 278 = .ok (.iconst 4, 1) := by decide +kernel
theorem dL_keepsTold_279 : decode cL_keepsTold 279 = .ok (.if_icmp .ge 16, 3) := by decide +kernel
theorem dL_keepsTold_282 : decode cL_keepsTold 282 = .ok (.aload 12, 2) := by decide +kernel
theorem dL_keepsTold_284 : decode cL_keepsTold 284 = .ok (.iload 20, 2) := by decide +kernel
theorem dL_keepsTold_286 : decode cL_keepsTold 286 = .ok (.iaload, 1) := by decide +kernel
theorem dL_keepsTold_287 : decode cL_keepsTold 287 = .ok (.iconst 1, 1) := by decide +kernel
theorem dL_keepsTold_288 : decode cL_keepsTold 288 = .ok (.if_icmp .ne 7, 3) := by decide +kernel
theorem dL_keepsTold_291 : decode cL_keepsTold 291 = .ok (.iconst 1, 1) := by decide +kernel
theorem dL_keepsTold_292 : decode cL_keepsTold 292 = .ok (.goto 4, 3) := by decide +kernel
theorem dL_keepsTold_295 : decode cL_keepsTold 295 = .ok (.iconst 0, 1) := by decide +kernel
theorem dL_keepsTold_296 : decode cL_keepsTold 296 = .ok (.istore 21, 2) := by decide +kernel
theorem dL_keepsTold_298 : decode cL_keepsTold 298 = .ok (.iload_n 1, 1) := by decide +kernel
theorem dL_keepsTold_299 : decode cL_keepsTold 299 = .ok (.iconst 5, 1) := by decide +kernel
theorem dL_keepsTold_300 : decode cL_keepsTold 300 = .ok (.ishr, 1) := by decide +kernel
theorem dL_keepsTold_301 : decode cL_keepsTold 301 = .ok (.iload 21, 2) := by decide +kernel
theorem dL_keepsTold_303 : decode cL_keepsTold 303 = .ok (.ifCond .eq 15, 3) := by decide +kernel
theorem dL_keepsTold_306 : decode cL_keepsTold 306 = .ok (.aload 12, 2) := by decide +kernel
theorem dL_keepsTold_308 : decode cL_keepsTold 308 = .ok (.iconst 4, 1) := by decide +kernel
theorem dL_keepsTold_309 : decode cL_keepsTold 309 = .ok (.iload 20, 2) := by decide +kernel
theorem dL_keepsTold_311 : decode cL_keepsTold 311 = .ok (.iadd, 1) := by decide +kernel
theorem dL_keepsTold_312 : decode cL_keepsTold 312 = .ok (.iaload, 1) := by decide +kernel
theorem dL_keepsTold_313 : decode cL_keepsTold 313 = .ok (.iconst 2, 1) := by decide +kernel
theorem dL_keepsTold_314 : decode cL_keepsTold 314 = .ok (.iadd, 1) := by decide +kernel
theorem dL_keepsTold_315 : decode cL_keepsTold 315 = .ok (.goto 4, 3) := by decide +kernel
theorem dL_keepsTold_318 : decode cL_keepsTold 318 = .ok (.iconst 2, 1) := by decide +kernel
theorem dL_keepsTold_319 : decode cL_keepsTold 319 = .ok (.invokestatic 136, 3) := by decide +kernel
theorem dL_keepsTold_322 : decode cL_keepsTold 322 = .ok (.iconst 1, 1) := by decide +kernel
theorem dL_keepsTold_323 : decode cL_keepsTold 323 = .ok (.isub, 1) := by decide +kernel
theorem dL_keepsTold_324 : decode cL_keepsTold 324 = .ok (.istore 22, 2) := by decide +kernel
theorem dL_keepsTold_326 : decode cL_keepsTold 326 = .ok (.iload 21, 2) := by decide +kernel
theorem dL_keepsTold_328 : decode cL_keepsTold 328 = .ok (.ifCond .eq 24, 3) := by decide +kernel
theorem dL_keepsTold_331 : decode cL_keepsTold 331 = .ok (.iload 22, 2) := by decide +kernel
theorem dL_keepsTold_333 : decode cL_keepsTold 333 = .ok (.ifCond .lt 19, 3) := by decide +kernel
theorem dL_keepsTold_336 : decode cL_keepsTold 336 = .ok (.iload 22, 2) := by decide +kernel
theorem dL_keepsTold_338 : decode cL_keepsTold 338 = .ok (.aload 12, 2) := by decide +kernel
theorem dL_keepsTold_340 : decode cL_keepsTold 340 = .ok (.iconst 4, 1) := by decide +kernel
theorem dL_keepsTold_341 : decode cL_keepsTold 341 = .ok (.iload 20, 2) := by decide +kernel
theorem dL_keepsTold_343 : decode cL_keepsTold 343 = .ok (.iadd, 1) := by decide +kernel
theorem dL_keepsTold_344 : decode cL_keepsTold 344 = .ok (.iaload, 1) := by decide +kernel
theorem dL_keepsTold_345 : decode cL_keepsTold 345 = .ok (.if_icmp .ge 7, 3) := by decide +kernel
theorem dL_keepsTold_348 : decode cL_keepsTold 348 = .ok (.iconst 1, 1) := by decide +kernel
theorem dL_keepsTold_349 : decode cL_keepsTold 349 = .ok (.goto 4, 3) := by decide +kernel
theorem dL_keepsTold_352 : decode cL_keepsTold 352 = .ok (.iconst 0, 1) := by decide +kernel
theorem dL_keepsTold_353 : decode cL_keepsTold 353 = .ok (.istore 23, 2) := by decide +kernel
theorem dL_keepsTold_355 : decode cL_keepsTold 355 = .ok (.aload_n 0, 1) := by decide +kernel
theorem dL_keepsTold_356 : decode cL_keepsTold 356 = .ok (.invokevirtual 211, 3) := by decide +kernel
theorem dL_keepsTold_359 : decode cL_keepsTold 359 = .ok (.iload 19, 2) := by decide +kernel
theorem dL_keepsTold_361 : decode cL_keepsTold 361 = .ok (.if_icmp .ne 128, 3) := by decide +kernel
theorem dL_keepsTold_364 : decode cL_keepsTold 364 = .ok (.aload_n 0, 1) := by decide +kernel
theorem dL_keepsTold_365 : decode cL_keepsTold 365 = .ok (.invokevirtual 213, 3) := by decide +kernel
theorem dL_keepsTold_368 : decode cL_keepsTold 368 = .ok (.iload 17, 2) := by decide +kernel
theorem dL_keepsTold_370 : decode cL_keepsTold 370 = .ok (.if_icmp .ne 119, 3) := by decide +kernel
theorem dL_keepsTold_373 : decode cL_keepsTold 373 = .ok (.aload_n 0, 1) := by decide +kernel
theorem dL_keepsTold_374 : decode cL_keepsTold 374 = .ok (.invokevirtual 216, 3) := by decide +kernel
theorem dL_keepsTold_377 : decode cL_keepsTold 377 = .ok (.iload 18, 2) := by decide +kernel
theorem dL_keepsTold_379 : decode cL_keepsTold 379 = .ok (.if_icmp .ne 110, 3) := by decide +kernel
theorem dL_keepsTold_382 : decode cL_keepsTold 382 = .ok (.aload_n 0, 1) := by decide +kernel
theorem dL_keepsTold_383 : decode cL_keepsTold 383 = .ok (.iconst 2, 1) := by decide +kernel
theorem dL_keepsTold_384 : decode cL_keepsTold 384 = .ok (.iload 20, 2) := by decide +kernel
theorem dL_keepsTold_386 : decode cL_keepsTold 386 = .ok (.iconst 0, 1) := by decide +kernel
theorem dL_keepsTold_387 : decode cL_keepsTold 387 = .ok (.invokestatic 194, 3) := by decide +kernel
theorem dL_keepsTold_390 : decode cL_keepsTold 390 = .ok (.iload 21, 2) := by decide +kernel
theorem dL_keepsTold_392 : decode cL_keepsTold 392 = .ok (.ifCond .eq 13, 3) := by decide +kernel
theorem dL_keepsTold_395 : decode cL_keepsTold 395 = .ok (.aload 12, 2) := by decide +kernel
theorem dL_keepsTold_397 : decode cL_keepsTold 397 = .ok (.iconst 4, 1) := by decide +kernel
theorem dL_keepsTold_398 : decode cL_keepsTold 398 = .ok (.iload 20, 2) := by decide +kernel
theorem dL_keepsTold_400 : decode cL_keepsTold 400 = .ok (.iadd, 1) := by decide +kernel
theorem dL_keepsTold_401 : decode cL_keepsTold 401 = .ok (.iaload, 1) := by decide +kernel
theorem dL_keepsTold_402 : decode cL_keepsTold 402 = .ok (.goto 5, 3) := by decide +kernel
theorem dL_keepsTold_405 : decode cL_keepsTold 405 = .ok (.bipush (-101), 2) := by decide +kernel
theorem dL_keepsTold_407 : decode cL_keepsTold 407 = .ok (.if_icmp .ne 82, 3) := by decide +kernel
theorem dL_keepsTold_410 : decode cL_keepsTold 410 = .ok (.aload_n 0, 1) := by decide +kernel
theorem dL_keepsTold_411 : decode cL_keepsTold 411 = .ok (.iconst 3, 1) := by decide +kernel
theorem dL_keepsTold_412 : decode cL_keepsTold 412 = .ok (.iload 20, 2) := by decide +kernel
theorem dL_keepsTold_414 : decode cL_keepsTold 414 = .ok (.iload 22, 2) := by decide +kernel
theorem dL_keepsTold_416 : decode cL_keepsTold 416 = .ok (.invokestatic 194, 3) := by decide +kernel
theorem dL_keepsTold_419 : decode cL_keepsTold 419 = .ok (.iload 23, 2) := by decide +kernel
theorem dL_keepsTold_421 : decode cL_keepsTold 421 = .ok (.ifCond .eq 17, 3) := by decide +kernel
theorem dL_keepsTold_424 : decode cL_keepsTold 424 = .ok (.aload 11, 2) := by decide +kernel
theorem dL_keepsTold_426 : decode cL_keepsTold 426 = .ok (.bipush 16, 2) := by decide +kernel
theorem dL_keepsTold_428 : decode cL_keepsTold 428 = .ok (.iload 20, 2) := by decide +kernel
theorem dL_keepsTold_430 : decode cL_keepsTold 430 = .ok (.imul, 1) := by decide +kernel
theorem dL_keepsTold_431 : decode cL_keepsTold 431 = .ok (.iload 22, 2) := by decide +kernel
theorem dL_keepsTold_433 : decode cL_keepsTold 433 = .ok (.iadd, 1) := by decide +kernel
theorem dL_keepsTold_434 : decode cL_keepsTold 434 = .ok (.iaload, 1) := by decide +kernel
theorem dL_keepsTold_435 : decode cL_keepsTold 435 = .ok (.goto 5, 3) := by decide +kernel
theorem dL_keepsTold_438 : decode cL_keepsTold 438 = .ok (.bipush (-101), 2) := by decide +kernel
theorem dL_keepsTold_440 : decode cL_keepsTold 440 = .ok (.if_icmp .ne 49, 3) := by decide +kernel
theorem dL_keepsTold_443 : decode cL_keepsTold 443 = .ok (.aload_n 0, 1) := by decide +kernel
theorem dL_keepsTold_444 : decode cL_keepsTold 444 = .ok (.iconst 4, 1) := by decide +kernel
theorem dL_keepsTold_445 : decode cL_keepsTold 445 = .ok (.iload 20, 2) := by decide +kernel
theorem dL_keepsTold_447 : decode cL_keepsTold 447 = .ok (.iload 22, 2) := by decide +kernel
theorem dL_keepsTold_449 : decode cL_keepsTold 449 = .ok (.invokestatic 194, 3) := by decide +kernel
theorem dL_keepsTold_452 : decode cL_keepsTold 452 = .ok (.iload 23, 2) := by decide +kernel
theorem dL_keepsTold_454 : decode cL_keepsTold 454 = .ok (.ifCond .eq 26, 3) := by decide +kernel
theorem dL_keepsTold_457 : decode cL_keepsTold 457 = .ok (.aload 10, 2) := by decide +kernel
theorem dL_keepsTold_459 : decode cL_keepsTold 459 = .ok (.aload 11, 2) := by decide +kernel
theorem dL_keepsTold_461 : decode cL_keepsTold 461 = .ok (.aload 12, 2) := by decide +kernel
theorem dL_keepsTold_463 : decode cL_keepsTold 463 = .ok (.iload 20, 2) := by decide +kernel
theorem dL_keepsTold_465 : decode cL_keepsTold 465 = .ok (.iload 22, 2) := by decide +kernel
theorem dL_keepsTold_467 : decode cL_keepsTold 467 = .ok (.iconst 3, 1) := by decide +kernel
theorem dL_keepsTold_468 : decode cL_keepsTold 468 = .ok (.aload 12, 2) := by decide +kernel
theorem dL_keepsTold_470 : decode cL_keepsTold 470 = .ok (.bipush 7, 2) := by decide +kernel
theorem dL_keepsTold_472 : decode cL_keepsTold 472 = .ok (.iaload, 1) := by decide +kernel
theorem dL_keepsTold_473 : decode cL_keepsTold 473 = .ok (.iconst (-1), 1) := by decide +kernel
theorem dL_keepsTold_474 : decode cL_keepsTold 474 = .ok (.invokestatic 190, 3) := by decide +kernel
theorem dL_keepsTold_477 : decode cL_keepsTold 477 = .ok (.goto 5, 3) := by decide +kernel
theorem dL_keepsTold_480 : decode cL_keepsTold 480 = .ok (.bipush (-101), 2) := by decide +kernel
theorem dL_keepsTold_482 : decode cL_keepsTold 482 = .ok (.if_icmp .ne 7, 3) := by decide +kernel
theorem dL_keepsTold_485 : decode cL_keepsTold 485 = .ok (.iconst 1, 1) := by decide +kernel
theorem dL_keepsTold_486 : decode cL_keepsTold 486 = .ok (.goto 4, 3) := by decide +kernel
theorem dL_keepsTold_489 : decode cL_keepsTold 489 = .ok (.iconst 0, 1) := by decide +kernel
theorem dL_keepsTold_490 : decode cL_keepsTold 490 = .ok (.ireturn, 1) := by decide +kernel
theorem dL_law_0 : decode cL_law 0 = .ok (.new 18, 3) := by decide +kernel
theorem dL_law_3 : decode cL_law 3 = .ok (.dup, 1) := by decide +kernel
theorem dL_law_4 : decode cL_law 4 = .ok (.invokespecial 219, 3) := by decide +kernel
theorem dL_law_7 : decode cL_law 7 = .ok (.astore_n 1, 1) := by decide +kernel
theorem dL_law_8 : decode cL_law 8 = .ok (.bipush 64, 2) := by decide +kernel
theorem dL_law_10 : decode cL_law 10 = .ok (.newarray .int, 2) := by decide +kernel
theorem dL_law_12 : decode cL_law 12 = .ok (.astore_n 2, 1) := by decide +kernel
theorem dL_law_13 : decode cL_law 13 = .ok (.iconst 4, 1) := by decide +kernel
theorem dL_law_14 : decode cL_law 14 = .ok (.newarray .int, 2) := by decide +kernel
theorem dL_law_16 : decode cL_law 16 = .ok (.astore_n 3, 1) := by decide +kernel
theorem dL_law_17 : decode cL_law 17 = .ok (.bipush 64, 2) := by decide +kernel
theorem dL_law_19 : decode cL_law 19 = .ok (.newarray .int, 2) := by decide +kernel
theorem dL_law_21 : decode cL_law 21 = .ok (.astore 4, 2) := by decide +kernel
theorem dL_law_23 : decode cL_law 23 = .ok (.bipush 12, 2) := by decide +kernel
theorem dL_law_25 : decode cL_law 25 = .ok (.newarray .int, 2) := by decide +kernel
theorem dL_law_27 : decode cL_law 27 = .ok (.astore 5, 2) := by decide +kernel
theorem dL_law_29 : decode cL_law 29 = .ok (.bipush 64, 2) := by decide +kernel
theorem dL_law_31 : decode cL_law 31 = .ok (.newarray .int, 2) := by decide +kernel
theorem dL_law_33 : decode cL_law 33 = .ok (.astore 6, 2) := by decide +kernel
theorem dL_law_35 : decode cL_law 35 = .ok (.bipush 64, 2) := by decide +kernel
theorem dL_law_37 : decode cL_law 37 = .ok (.newarray .int, 2) := by decide +kernel
theorem dL_law_39 : decode cL_law 39 = .ok (.astore 7, 2) := by decide +kernel
theorem dL_law_41 : decode cL_law 41 = .ok (.bipush 64, 2) := by decide +kernel
theorem dL_law_43 : decode cL_law 43 = .ok (.newarray .int, 2) := by decide +kernel
theorem dL_law_45 : decode cL_law 45 = .ok (.astore 8, 2) := by decide +kernel
theorem dL_law_47 : decode cL_law 47 = .ok (.bipush 64, 2) := by decide +kernel
theorem dL_law_49 : decode cL_law 49 = .ok (.newarray .int, 2) := by decide +kernel
theorem dL_law_51 : decode cL_law 51 = .ok (.astore 9, 2) := by decide +kernel
theorem dL_law_53 : decode cL_law 53 = .ok (.bipush 8, 2) := by decide +kernel
theorem dL_law_55 : decode cL_law 55 = .ok (.newarray .int, 2) := by decide +kernel
theorem dL_law_57 : decode cL_law 57 = .ok (.astore 10, 2) := by decide +kernel
theorem dL_law_59 : decode cL_law 59 = .ok (.bipush 64, 2) := by decide +kernel
theorem dL_law_61 : decode cL_law 61 = .ok (.newarray .int, 2) := by decide +kernel
theorem dL_law_63 : decode cL_law 63 = .ok (.astore 11, 2) := by decide +kernel
theorem dL_law_65 : decode cL_law 65 = .ok (.bipush 12, 2) := by decide +kernel
theorem dL_law_67 : decode cL_law 67 = .ok (.newarray .int, 2) := by decide +kernel
theorem dL_law_69 : decode cL_law 69 = .ok (.astore 12, 2) := by decide +kernel
theorem dL_law_71 : decode cL_law 71 = .ok (.bipush 64, 2) := by decide +kernel
theorem dL_law_73 : decode cL_law 73 = .ok (.newarray .int, 2) := by decide +kernel
theorem dL_law_75 : decode cL_law 75 = .ok (.astore 13, 2) := by decide +kernel
theorem dL_law_77 : decode cL_law 77 = .ok (.bipush 64, 2) := by decide +kernel
theorem dL_law_79 : decode cL_law 79 = .ok (.newarray .int, 2) := by decide +kernel
theorem dL_law_81 : decode cL_law 81 = .ok (.astore 14, 2) := by decide +kernel
theorem dL_law_83 : decode cL_law 83 = .ok (.bipush 64, 2) := by decide +kernel
theorem dL_law_85 : decode cL_law 85 = .ok (.newarray .int, 2) := by decide +kernel
theorem dL_law_87 : decode cL_law 87 = .ok (.astore 15, 2) := by decide +kernel
theorem dL_law_89 : decode cL_law 89 = .ok (.bipush 64, 2) := by decide +kernel
theorem dL_law_91 : decode cL_law 91 = .ok (.newarray .int, 2) := by decide +kernel
theorem dL_law_93 : decode cL_law 93 = .ok (.astore 16, 2) := by decide +kernel
theorem dL_law_95 : decode cL_law 95 = .ok (.bipush 8, 2) := by decide +kernel
theorem dL_law_97 : decode cL_law 97 = .ok (.newarray .int, 2) := by decide +kernel
theorem dL_law_99 : decode cL_law 99 = .ok (.astore 17, 2) := by decide +kernel
theorem dL_law_101 : decode cL_law 101 = .ok (.iconst 1, 1) := by decide +kernel
theorem dL_law_102 : decode cL_law 102 = .ok (.newarray .int, 2) := by decide +kernel
theorem dL_law_104 : decode cL_law 104 = .ok (.astore 18, 2) := by decide +kernel
theorem dL_law_106 : decode cL_law 106 = .ok (.bipush 64, 2) := by decide +kernel
theorem dL_law_108 : decode cL_law 108 = .ok (.newarray .int, 2) := by decide +kernel
theorem dL_law_110 : decode cL_law 110 = .ok (.astore 19, 2) := by decide +kernel
theorem dL_law_112 : decode cL_law 112 = .ok (.bipush 64, 2) := by decide +kernel
theorem dL_law_114 : decode cL_law 114 = .ok (.newarray .int, 2) := by decide +kernel
theorem dL_law_116 : decode cL_law 116 = .ok (.astore 20, 2) := by decide +kernel
theorem dL_law_118 : decode cL_law 118 = .ok (.bipush 8, 2) := by decide +kernel
theorem dL_law_120 : decode cL_law 120 = .ok (.newarray .int, 2) := by decide +kernel
theorem dL_law_122 : decode cL_law 122 = .ok (.astore 21, 2) := by decide +kernel
theorem dL_law_124 : decode cL_law 124 = .ok (.iconst 3, 1) := by decide +kernel
theorem dL_law_125 : decode cL_law 125 = .ok (.newarray .int, 2) := by decide +kernel
theorem dL_law_127 : decode cL_law 127 = .ok (.astore 22, 2) := by decide +kernel
theorem dL_law_129 : decode cL_law 129 = .ok (.aload 22, 2) := by decide +kernel
theorem dL_law_131 : decode cL_law 131 = .ok (.iconst 0, 1) := by decide +kernel
theorem dL_law_132 : decode cL_law 132 = .ok (.iconst 4, 1) := by decide +kernel
theorem dL_law_133 : decode cL_law 133 = .ok (.iastore, 1) := by decide +kernel
theorem dL_law_134 : decode cL_law 134 = .ok (.aload 22, 2) := by decide +kernel
theorem dL_law_136 : decode cL_law 136 = .ok (.iconst 1, 1) := by decide +kernel
theorem dL_law_137 : decode cL_law 137 = .ok (.bipush 16, 2) := by decide +kernel
theorem dL_law_139 : decode cL_law 139 = .ok (.iastore, 1) := by decide +kernel
theorem dL_law_140 : decode cL_law 140 = .ok (.aload 22, 2) := by decide +kernel
theorem dL_law_142 : decode cL_law 142 = .ok (.iconst 2, 1) := by decide +kernel
theorem dL_law_143 : decode cL_law 143 = .ok (.bipush 8, 2) := by decide +kernel
theorem dL_law_145 : decode cL_law 145 = .ok (.iastore, 1) := by decide +kernel
theorem dL_law_146 : decode cL_law 146 = .ok (.iconst 0, 1) := by decide +kernel
theorem dL_law_147 : decode cL_law 147 = .ok (.istore 23, 2) := by decide +kernel
theorem dL_law_149 : decode cL_law 149 = .ok (.iload 23, 2) := by decide +kernel
theorem dL_law_151 : decode cL_law 151 = .ok (.iconst 4, 1) := by decide +kernel
theorem dL_law_152 : decode cL_law 152 = .ok (.if_icmp .ge 26, 3) := by decide +kernel
theorem dL_law_155 : decode cL_law 155 = .ok (.aload 10, 2) := by decide +kernel
theorem dL_law_157 : decode cL_law 157 = .ok (.iload 23, 2) := by decide +kernel
theorem dL_law_159 : decode cL_law 159 = .ok (.iconst (-1), 1) := by decide +kernel
theorem dL_law_160 : decode cL_law 160 = .ok (.iastore, 1) := by decide +kernel
theorem dL_law_161 : decode cL_law 161 = .ok (.aload_n 1, 1) := by decide +kernel
theorem dL_law_162 : decode cL_law 162 = .ok (.invokevirtual 220, 3) := by decide +kernel
theorem dL_law_165 : decode cL_law 165 = .ok (.iload 23, 2) := by decide +kernel
theorem dL_law_167 : decode cL_law 167 = .ok (.if_icmp .eq 5, 3) := by decide +kernel
theorem dL_law_170 : decode cL_law 170 = .ok (.iconst 0, 1) := by decide +kernel
theorem dL_law_171 : decode cL_law 171 = .ok (.ireturn, 1) := by decide +kernel
theorem dL_law_172 : decode cL_law 172 = .ok (.iinc 23 1, 3) := by decide +kernel
theorem dL_law_175 : decode cL_law 175 = .ok (.goto (-26), 3) := by decide +kernel
theorem dL_law_178 : decode cL_law 178 = .ok (.iconst 0, 1) := by decide +kernel
theorem dL_law_179 : decode cL_law 179 = .ok (.istore 23, 2) := by decide +kernel
theorem dL_law_181 : decode cL_law 181 = .ok (.iload 23, 2) := by decide +kernel
theorem dL_law_183 : decode cL_law 183 = .ok (.bipush 100, 2) := by decide +kernel
theorem dL_law_185 : decode cL_law 185 = .ok (.if_icmp .ge 284, 3) := by decide +kernel
theorem dL_law_188 : decode cL_law 188 = .ok (.aload_n 0, 1) := by decide +kernel
theorem dL_law_189 : decode cL_law 189 = .ok (.iload 23, 2) := by decide +kernel
theorem dL_law_191 : decode cL_law 191 = .ok (.invokestatic 223, 3) := by decide +kernel
theorem dL_law_194 : decode cL_law 194 = .ok (.istore 24, 2) := by decide +kernel
theorem dL_law_196 : decode cL_law 196 = .ok (.iload 24, 2) := by decide +kernel
theorem dL_law_198 : decode cL_law 198 = .ok (.iconst 4, 1) := by decide +kernel
theorem dL_law_199 : decode cL_law 199 = .ok (.ishr, 1) := by decide +kernel
theorem dL_law_200 : decode cL_law 200 = .ok (.istore 25, 2) := by decide +kernel
theorem dL_law_202 : decode cL_law 202 = .ok (.iload 24, 2) := by decide +kernel
theorem dL_law_204 : decode cL_law 204 = .ok (.bipush 20, 2) := by decide +kernel
theorem dL_law_206 : decode cL_law 206 = .ok (.invokestatic 136, 3) := by decide +kernel
theorem dL_law_209 : decode cL_law 209 = .ok (.istore 26, 2) := by decide +kernel
theorem dL_law_211 : decode cL_law 211 = .ok (.iload 23, 2) := by decide +kernel
theorem dL_law_213 : decode cL_law 213 = .ok (.bipush 6, 2) := by decide +kernel
theorem dL_law_215 : decode cL_law 215 = .ok (.if_icmp .ge 15, 3) := by decide +kernel
theorem dL_law_218 : decode cL_law 218 = .ok (.aload_n 1, 1) := by decide +kernel
theorem dL_law_219 : decode cL_law 219 = .ok (.iconst 0, 1) := by decide +kernel
theorem dL_law_220 : decode cL_law 220 = .ok (.iload 25, 2) := by decide +kernel
theorem dL_law_222 : decode cL_law 222 = .ok (.aload_n 2, 1) := by decide +kernel
theorem dL_law_223 : decode cL_law 223 = .ok (.aload_n 3, 1) := by decide +kernel
theorem dL_law_224 : decode cL_law 224 = .ok (.invokestatic 227, 3) := by decide +kernel
theorem dL_law_227 : decode cL_law 227 = .ok (.goto 173, 3) := by decide +kernel
theorem dL_law_230 : decode cL_law 230 = .ok (.iload 26, 2) := by decide +kernel
theorem dL_law_232 : decode cL_law 232 = .ok (.bipush 6, 2) := by decide +kernel
theorem dL_law_234 : decode cL_law 234 = .ok (.if_icmp .ge 26, 3) := by decide +kernel
theorem dL_law_237 : decode cL_law 237 = .ok (.aload_n 1, 1) := by decide +kernel
theorem dL_law_238 : decode cL_law 238 = .ok (.iload 26, 2) := by decide +kernel
theorem dL_law_240 : decode cL_law 240 = .ok (.iconst 5, 1) := by decide +kernel
theorem dL_law_241 : decode cL_law 241 = .ok (.if_icmp .ge 8, 3) := by decide +kernel
theorem dL_law_244 : decode cL_law 244 = .ok (.iload 26, 2) := by decide +kernel
theorem dL_law_246 : decode cL_law 246 = .ok (.goto 4, 3) := by decide +kernel
theorem dL_law_249 : decode cL_law 249 = .ok (.iconst 0, 1) := by decide +kernel
theorem dL_law_250 : decode cL_law 250 = .ok (.iload 25, 2) := by decide +kernel
theorem dL_law_252 : decode cL_law 252 = .ok (.aload_n 2, 1) := by decide +kernel
theorem dL_law_253 : decode cL_law 253 = .ok (.aload_n 3, 1) := by decide +kernel
theorem dL_law_254 : decode cL_law 254 = .ok (.invokestatic 227, 3) := by decide +kernel
theorem dL_law_257 : decode cL_law 257 = .ok (.goto 143, 3) := by decide +kernel
theorem dL_law_260 : decode cL_law 260 = .ok (.iload 26, 2) := by decide +kernel
theorem dL_law_262 : decode cL_law 262 = .ok (.bipush 11, 2) := by decide +kernel
theorem dL_law_264 : decode cL_law 264 = .ok (.if_icmp .ge 55, 3) := by decide +kernel
theorem dL_law_267 : decode cL_law 267 = .ok (.aload_n 1, 1) := by decide +kernel
theorem dL_law_268 : decode cL_law 268 = .ok (.iload 26, 2) := by decide +kernel
theorem dL_law_270 : decode cL_law 270 = .ok (.bipush 8, 2) := by decide +kernel
theorem dL_law_272 : decode cL_law 272 = .ok (.if_icmp .ge 11, 3) := by decide +kernel
theorem dL_law_275 : decode cL_law 275 = .ok (.iload 26, 2) := by decide +kernel
theorem dL_law_277 : decode cL_law 277 = .ok (.bipush 6, 2) := by decide +kernel
theorem dL_law_279 : decode cL_law 279 = .ok (.isub, 1) := by decide +kernel
theorem dL_law_280 : decode cL_law 280 = .ok (.goto 15, 3) := by decide +kernel
theorem dL_law_283 : decode cL_law 283 = .ok (.iload 26, 2) := by decide +kernel
theorem dL_law_285 : decode cL_law 285 = .ok (.bipush 10, 2) := by decide +kernel
theorem dL_law_287 : decode cL_law 287 = .ok (.if_icmp .ge 7, 3) := by decide +kernel
theorem dL_law_290 : decode cL_law 290 = .ok (.iconst 1, 1) := by decide +kernel
theorem dL_law_291 : decode cL_law 291 = .ok (.goto 4, 3) := by decide +kernel
theorem dL_law_294 : decode cL_law 294 = .ok (.iconst 2, 1) := by decide +kernel
theorem dL_law_295 : decode cL_law 295 = .ok (.iload 25, 2) := by decide +kernel
theorem dL_law_297 : decode cL_law 297 = .ok (.aload_n 2, 1) := by decide +kernel
theorem dL_law_298 : decode cL_law 298 = .ok (.aload_n 3, 1) := by decide +kernel
theorem dL_law_299 : decode cL_law 299 = .ok (.aload 4, 2) := by decide +kernel
theorem dL_law_301 : decode cL_law 301 = .ok (.aload 5, 2) := by decide +kernel
theorem dL_law_303 : decode cL_law 303 = .ok (.aload 6, 2) := by decide +kernel
theorem dL_law_305 : decode cL_law 305 = .ok (.aload 7, 2) := by decide +kernel
theorem dL_law_307 : decode cL_law 307 = .ok (.aload 8, 2) := by decide +kernel
theorem dL_law_309 : decode cL_law 309 = .ok (.aload 9, 2) := by decide +kernel
theorem dL_law_311 : decode cL_law 311 = .ok (.aload 10, 2) := by decide +kernel
theorem dL_law_313 : decode cL_law 313 = .ok (.invokestatic 231, 3) := by decide +kernel
theorem dL_law_316 : decode cL_law 316 = .ok (.goto 84, 3) := by decide +kernel
theorem dL_law_319 : decode cL_law 319 = .ok (.iload 26, 2) := by decide +kernel
theorem dL_law_321 : decode cL_law 321 = .ok (.bipush 16, 2) := by decide +kernel
theorem dL_law_323 : decode cL_law 323 = .ok (.if_icmp .ge 35, 3) := by decide +kernel
theorem dL_law_326 : decode cL_law 326 = .ok (.aload_n 1, 1) := by decide +kernel
theorem dL_law_327 : decode cL_law 327 = .ok (.iload 26, 2) := by decide +kernel
theorem dL_law_329 : decode cL_law 329 = .ok (.bipush 11, 2) := by decide +kernel
theorem dL_law_331 : decode cL_law 331 = .ok (.isub, 1) := by decide +kernel
theorem dL_law_332 : decode cL_law 332 = .ok (.iload 25, 2) := by decide +kernel
theorem dL_law_334 : decode cL_law 334 = .ok (.aload_n 2, 1) := by decide +kernel
theorem dL_law_335 : decode cL_law 335 = .ok (.aload_n 3, 1) := by decide +kernel
theorem dL_law_336 : decode cL_law 336 = .ok (.aload 11, 2) := by decide +kernel
theorem dL_law_338 : decode cL_law 338 = .ok (.aload 12, 2) := by decide +kernel
theorem dL_law_340 : decode cL_law 340 = .ok (.aload 13, 2) := by decide +kernel
theorem dL_law_342 : decode cL_law 342 = .ok (.aload 14, 2) := by decide +kernel
theorem dL_law_344 : decode cL_law 344 = .ok (.aload 15, 2) := by decide +kernel
theorem dL_law_346 : decode cL_law 346 = .ok (.aload 16, 2) := by decide +kernel
theorem dL_law_348 : decode cL_law 348 = .ok (.aload 17, 2) := by decide +kernel
theorem dL_law_350 : decode cL_law 350 = .ok (.aload 18, 2) := by decide +kernel
theorem dL_law_352 : decode cL_law 352 = .ok (.invokestatic 235, 3) := by decide +kernel
theorem dL_law_355 : decode cL_law 355 = .ok (.goto 45, 3) := by decide +kernel
theorem dL_law_358 : decode cL_law 358 = .ok (.aload_n 1, 1) := by decide +kernel
theorem dL_law_359 : decode cL_law 359 = .ok (.iload 26, 2) := by decide +kernel
theorem dL_law_361 : decode cL_law 361 = .ok (.bipush 19, 2) := by decide +kernel
theorem dL_law_363 : decode cL_law 363 = .ok (.if_icmp .ne 17, 3) := by decide +kernel
theorem dL_law_366 : decode cL_law 366 = .ok (.iconst 3, 1) := by decide +kernel
theorem dL_law_367 : decode cL_law 367 = .ok (.iload 25, 2) := by decide +kernel
theorem dL_law_369 : decode cL_law 369 = .ok (.bipush 7, 2) := by decide +kernel
theorem dL_law_371 : decode cL_law 371 = .ok (.ishr, 1) := by decide +kernel
theorem dL_law_372 : decode cL_law 372 = .ok (.iconst 2, 1) := by decide +kernel
theorem dL_law_373 : decode cL_law 373 = .ok (.invokestatic 136, 3) := by decide +kernel
theorem dL_law_376 : decode cL_law 376 = .ok (.iadd, 1) := by decide +kernel
theorem dL_law_377 : decode cL_law 377 = .ok (.goto 8, 3) := by decide +kernel
theorem dL_law_380 : decode cL_law 380 = .ok (.iload 26, 2) := by decide +kernel
theorem dL_law_382 : decode cL_law 382 = .ok (.bipush 16, 2) := by decide +kernel
theorem dL_law_384 : decode cL_law 384 = .ok (.isub, 1) := by decide +kernel
theorem dL_law_385 : decode cL_law 385 = .ok (.iload 25, 2) := by decide +kernel
theorem dL_law_387 : decode cL_law 387 = .ok (.aload_n 2, 1) := by decide +kernel
theorem dL_law_388 : decode cL_law 388 = .ok (.aload_n 3, 1) := by decide +kernel
theorem dL_law_389 : decode cL_law 389 = .ok (.aload 19, 2) := by decide +kernel
theorem dL_law_391 : decode cL_law 391 = .ok (.aload 20, 2) := by decide +kernel
theorem dL_law_393 : decode cL_law 393 = .ok (.aload 21, 2) := by decide +kernel
theorem dL_law_395 : decode cL_law 395 = .ok (.aload 22, 2) := by decide +kernel
theorem dL_law_397 : decode cL_law 397 = .ok (.invokestatic 238, 3) := by decide +kernel
theorem dL_law_400 : decode cL_law 400 = .ok (.istore 27, 2) := by decide +kernel
theorem dL_law_402 : decode cL_law 402 = .ok (.iload 27, 2) := by decide +kernel
theorem dL_law_404 : decode cL_law 404 = .ok (.ifCond .eq 57, 3) := by decide +kernel
theorem dL_law_407 : decode cL_law 407 = .ok (.aload_n 1, 1) := by decide +kernel
theorem dL_law_408 : decode cL_law 408 = .ok (.iload 25, 2) := by decide +kernel
theorem dL_law_410 : decode cL_law 410 = .ok (.aload_n 2, 1) := by decide +kernel
theorem dL_law_411 : decode cL_law 411 = .ok (.aload_n 3, 1) := by decide +kernel
theorem dL_law_412 : decode cL_law 412 = .ok (.aload 4, 2) := by decide +kernel
theorem dL_law_414 : decode cL_law 414 = .ok (.aload 5, 2) := by decide +kernel
theorem dL_law_416 : decode cL_law 416 = .ok (.aload 7, 2) := by decide +kernel
theorem dL_law_418 : decode cL_law 418 = .ok (.aload 8, 2) := by decide +kernel
theorem dL_law_420 : decode cL_law 420 = .ok (.aload 9, 2) := by decide +kernel
theorem dL_law_422 : decode cL_law 422 = .ok (.aload 10, 2) := by decide +kernel
theorem dL_law_424 : decode cL_law 424 = .ok (.invokestatic 242, 3) := by decide +kernel
theorem dL_law_427 : decode cL_law 427 = .ok (.ifCond .eq 34, 3) := by decide +kernel
theorem dL_law_430 : decode cL_law 430 = .ok (.aload_n 1, 1) := by decide +kernel
theorem dL_law_431 : decode cL_law 431 = .ok (.iload 25, 2) := by decide +kernel
theorem dL_law_433 : decode cL_law 433 = .ok (.aload 11, 2) := by decide +kernel
theorem dL_law_435 : decode cL_law 435 = .ok (.aload 12, 2) := by decide +kernel
theorem dL_law_437 : decode cL_law 437 = .ok (.aload 13, 2) := by decide +kernel
theorem dL_law_439 : decode cL_law 439 = .ok (.aload 14, 2) := by decide +kernel
theorem dL_law_441 : decode cL_law 441 = .ok (.aload 15, 2) := by decide +kernel
theorem dL_law_443 : decode cL_law 443 = .ok (.aload 16, 2) := by decide +kernel
theorem dL_law_445 : decode cL_law 445 = .ok (.aload 17, 2) := by decide +kernel
theorem dL_law_447 : decode cL_law 447 = .ok (.aload 18, 2) := by decide +kernel
theorem dL_law_449 : decode cL_law 449 = .ok (.aload 19, 2) := by decide +kernel
theorem dL_law_451 : decode cL_law 451 = .ok (.aload 20, 2) := by decide +kernel
theorem dL_law_453 : decode cL_law 453 = .ok (.aload 21, 2) := by decide +kernel
theorem dL_law_455 : decode cL_law 455 = .ok (.invokestatic 246, 3) := by decide +kernel
theorem dL_law_458 : decode cL_law 458 = .ok (.ifCond .ne 5, 3) := by decide +kernel
theorem dL_law_461 : decode cL_law 461 = .ok (.iconst 0, 1) := by decide +kernel
theorem dL_law_462 : decode cL_law 462 = .ok (.ireturn, 1) := by decide +kernel
theorem dL_law_463 : decode cL_law 463 = .ok (.iinc 23 1, 3) := by decide +kernel
theorem dL_law_466 : decode cL_law 466 = .ok (.goto (-285), 3) := by decide +kernel
theorem dL_law_469 : decode cL_law 469 = .ok (.iconst 1, 1) := by decide +kernel
theorem dL_law_470 : decode cL_law 470 = .ok (.ireturn, 1) := by decide +kernel
