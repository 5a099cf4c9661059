theorem dX0_init_0 : decode cX0_init 0 = .ok (.aload_n 0, 1) := by decide +kernel
theorem dX0_init_1 : decode cX0_init 1 = .ok (.invokespecial 3, 3) := by decide +kernel
theorem dX0_init_4 : decode cX0_init 4 = .ok (.aload_n 0, 1) := by decide +kernel
theorem dX0_init_5 : decode cX0_init 5 = .ok (.bipush 20, 2) := by decide +kernel
theorem dX0_init_7 : decode cX0_init 7 = .ok (.anewarray 9, 3) := by decide +kernel
theorem dX0_init_10 : decode cX0_init 10 = .ok (.putfield 11, 3) := by decide +kernel
theorem dX0_init_13 : decode cX0_init 13 = .ok (.aload_n 0, 1) := by decide +kernel
theorem dX0_init_14 : decode cX0_init 14 = .ok (.bipush 20, 2) := by decide +kernel
theorem dX0_init_16 : decode cX0_init 16 = .ok (.newarray .int, 2) := by decide +kernel
theorem dX0_init_18 : decode cX0_init 18 = .ok (.putfield 17, 3) := by decide +kernel
theorem dX0_init_21 : decode cX0_init 21 = .ok (.aload_n 0, 1) := by decide +kernel
theorem dX0_init_22 : decode cX0_init 22 = .ok (.new 21, 3) := by decide +kernel
theorem dX0_init_25 : decode cX0_init 25 = .ok (.dup, 1) := by decide +kernel
theorem dX0_init_26 : decode cX0_init 26 = .ok (.invokespecial 23, 3) := by decide +kernel
theorem dX0_init_29 : decode cX0_init 29 = .ok (.putfield 24, 3) := by decide +kernel
theorem dX0_init_32 : decode cX0_init 32 = .ok (.aload_n 0, 1) := by decide +kernel
theorem dX0_init_33 : decode cX0_init 33 = .ok (.new 28, 3) := by decide +kernel
theorem dX0_init_36 : decode cX0_init 36 = .ok (.dup, 1) := by decide +kernel
theorem dX0_init_37 : decode cX0_init 37 = .ok (.invokespecial 30, 3) := by decide +kernel
theorem dX0_init_40 : decode cX0_init 40 = .ok (.putfield 31, 3) := by decide +kernel
theorem dX0_init_43 : decode cX0_init 43 = .ok (.aload_n 0, 1) := by decide +kernel
theorem dX0_init_44 : decode cX0_init 44 = .ok (.new 28, 3) := by decide +kernel
theorem dX0_init_47 : decode cX0_init 47 = .ok (.dup, 1) := by decide +kernel
theorem dX0_init_48 : decode cX0_init 48 = .ok (.invokespecial 30, 3) := by decide +kernel
theorem dX0_init_51 : decode cX0_init 51 = .ok (.putfield 35, 3) := by decide +kernel
theorem dX0_init_54 : decode cX0_init 54 = .ok (.aload_n 0, 1) := by decide +kernel
theorem dX0_init_55 : decode cX0_init 55 = .ok (.iconst (-1), 1) := by decide +kernel
theorem dX0_init_56 : decode cX0_init 56 = .ok (.putfield 38, 3) := by decide +kernel
theorem dX0_init_59 : decode cX0_init 59 = .ok (.aload_n 0, 1) := by decide +kernel
theorem dX0_init_60 : decode cX0_init 60 = .ok (.iconst (-1), 1) := by decide +kernel
theorem dX0_init_61 : decode cX0_init 61 = .ok (.putfield 42, 3) := by decide +kernel
theorem dX0_init_64 : decode cX0_init 64 = .ok (.aload_n 0, 1) := by decide +kernel
theorem dX0_init_65 : decode cX0_init 65 = .ok (.iconst (-1), 1) := by decide +kernel
theorem dX0_init_66 : decode cX0_init 66 = .ok (.putfield 45, 3) := by decide +kernel
theorem dX0_init_69 : decode cX0_init 69 = .ok (.iconst 0, 1) := by decide +kernel
theorem dX0_init_70 : decode cX0_init 70 = .ok (.istore_n 1, 1) := by decide +kernel
theorem dX0_init_71 : decode cX0_init 71 = .ok (.iload_n 1, 1) := by decide +kernel
theorem dX0_init_72 : decode cX0_init 72 = .ok (.aload_n 0, 1) := by decide +kernel
theorem dX0_init_73 : decode cX0_init 73 = .ok (.getfield 11, 3) := by decide +kernel
theorem dX0_init_76 : decode cX0_init 76 = .ok (.arraylength, 1) := by decide +kernel
theorem dX0_init_77 : decode cX0_init 77 = .ok (.if_icmp .ge 22, 3) := by decide +kernel
theorem dX0_init_80 : decode cX0_init 80 = .ok (.aload_n 0, 1) := by decide +kernel
theorem dX0_init_81 : decode cX0_init 81 = .ok (.getfield 11, 3) := by decide +kernel
theorem dX0_init_84 : decode cX0_init 84 = .ok (.iload_n 1, 1) := by decide +kernel
theorem dX0_init_85 : decode cX0_init 85 = .ok (.new 9, 3) := by decide +kernel
theorem dX0_init_88 : decode cX0_init 88 = .ok (.dup, 1) := by decide +kernel
theorem dX0_init_89 : decode cX0_init 89 = .ok (.invokespecial 48, 3) := by decide +kernel
theorem dX0_init_92 : decode cX0_init 92 = .ok (.aastore, 1) := by decide +kernel
theorem dX0_init_93 : decode cX0_init 93 = .ok (.iinc 1 1, 3) := by decide +kernel
theorem dX0_init_96 : decode cX0_init 96 = .ok (.goto (-25), 3) := by decide +kernel
theorem dX0_init_99 : decode cX0_init 99 = .ok (.return_, 1) := by decide +kernel
theorem dX0_addWhole_0 : decode cX0_addWhole 0 = .ok (.aload_n 0, 1) := by decide +kernel
theorem dX0_addWhole_1 : decode cX0_addWhole 1 = .ok (.getfield 11, 3) := by decide +kernel
theorem dX0_addWhole_4 : decode cX0_addWhole 4 = .ok (.aload_n 0, 1) := by decide +kernel
theorem dX0_addWhole_5 : decode cX0_addWhole 5 = .ok (.getfield 49, 3) := by decide +kernel
theorem dX0_addWhole_8 : decode cX0_addWhole 8 = .ok (.aaload, 1) := by decide +kernel
theorem dX0_addWhole_9 : decode cX0_addWhole 9 = .ok (.aload_n 1, 1) := by decide +kernel
theorem dX0_addWhole_10 : decode cX0_addWhole 10 = .ok (.invokevirtual 52, 3) := by decide +kernel
theorem dX0_addWhole_13 : decode cX0_addWhole 13 = .ok (.aload_n 0, 1) := by decide +kernel
theorem dX0_addWhole_14 : decode cX0_addWhole 14 = .ok (.dup, 1) := by decide +kernel
theorem dX0_addWhole_15 : decode cX0_addWhole 15 = .ok (.getfield 49, 3) := by decide +kernel
theorem dX0_addWhole_18 : decode cX0_addWhole 18 = .ok (.iconst 1, 1) := by decide +kernel
theorem dX0_addWhole_19 : decode cX0_addWhole 19 = .ok (.iadd, 1) := by decide +kernel
theorem dX0_addWhole_20 : decode cX0_addWhole 20 = .ok (.putfield 49, 3) := by decide +kernel
theorem dX0_addWhole_23 : decode cX0_addWhole 23 = .ok (.aload_n 0, 1) := by decide +kernel
theorem dX0_addWhole_24 : decode cX0_addWhole 24 = .ok (.getfield 49, 3) := by decide +kernel
theorem dX0_addWhole_27 : decode cX0_addWhole 27 = .ok (.iconst 1, 1) := by decide +kernel
theorem dX0_addWhole_28 : decode cX0_addWhole 28 = .ok (.isub, 1) := by decide +kernel
theorem dX0_addWhole_29 : decode cX0_addWhole 29 = .ok (.ireturn, 1) := by decide +kernel
theorem dX0_addResting_0 : decode cX0_addResting 0 = .ok (.aload_n 0, 1) := by decide +kernel
theorem dX0_addResting_1 : decode cX0_addResting 1 = .ok (.getfield 24, 3) := by decide +kernel
theorem dX0_addResting_4 : decode cX0_addResting 4 = .ok (.aload_n 0, 1) := by decide +kernel
theorem dX0_addResting_5 : decode cX0_addResting 5 = .ok (.getfield 31, 3) := by decide +kernel
theorem dX0_addResting_8 : decode cX0_addResting 8 = .ok (.iload_n 3, 1) := by decide +kernel
theorem dX0_addResting_9 : decode cX0_addResting 9 = .ok (.sipush 256, 3) := by decide +kernel
theorem dX0_addResting_12 : decode cX0_addResting 12 = .ok (.invokevirtual 56, 3) := by decide +kernel
theorem dX0_addResting_15 : decode cX0_addResting 15 = .ok (.aload_n 0, 1) := by decide +kernel
theorem dX0_addResting_16 : decode cX0_addResting 16 = .ok (.getfield 11, 3) := by decide +kernel
theorem dX0_addResting_19 : decode cX0_addResting 19 = .ok (.aload_n 0, 1) := by decide +kernel
theorem dX0_addResting_20 : decode cX0_addResting 20 = .ok (.getfield 49, 3) := by decide +kernel
theorem dX0_addResting_23 : decode cX0_addResting 23 = .ok (.aaload, 1) := by decide +kernel
theorem dX0_addResting_24 : decode cX0_addResting 24 = .ok (.astore 4, 2) := by decide +kernel
theorem dX0_addResting_26 : decode cX0_addResting 26 = .ok (.aload 4, 2) := by decide +kernel
theorem dX0_addResting_28 : decode cX0_addResting 28 = .ok (.iconst 1, 1) := by decide +kernel
theorem dX0_addResting_29 : decode cX0_addResting 29 = .ok (.putfield 60, 3) := by decide +kernel
theorem dX0_addResting_32 : decode cX0_addResting 32 = .ok (.aload 4, 2) := by decide +kernel
theorem dX0_addResting_34 : decode cX0_addResting 34 = .ok (.iload_n 2, 1) := by decide +kernel
theorem dX0_addResting_35 : decode cX0_addResting 35 = .ok (.putfield 63, 3) := by decide +kernel
theorem dX0_addResting_38 : decode cX0_addResting 38 = .ok (.aload 4, 2) := by decide +kernel
theorem dX0_addResting_40 : decode cX0_addResting 40 = .ok (.getfield 66, 3) := by decide +kernel
theorem dX0_addResting_43 : decode cX0_addResting 43 = .ok (.aload_n 0, 1) := by decide +kernel
theorem dX0_addResting_44 : decode cX0_addResting 44 = .ok (.getfield 24, 3) := by decide +kernel
theorem dX0_addResting_47 : decode cX0_addResting 47 = .ok (.aload_n 1, 1) := by decide +kernel
theorem dX0_addResting_48 : decode cX0_addResting 48 = .ok (.invokevirtual 70, 3) := by decide +kernel
theorem dX0_addResting_51 : decode cX0_addResting 51 = .ok (.aload_n 0, 1) := by decide +kernel
theorem dX0_addResting_52 : decode cX0_addResting 52 = .ok (.dup, 1) := by decide +kernel
theorem dX0_addResting_53 : decode cX0_addResting 53 = .ok (.getfield 49, 3) := by decide +kernel
theorem dX0_addResting_56 : decode cX0_addResting 56 = .ok (.iconst 1, 1) := by decide +kernel
theorem dX0_addResting_57 : decode cX0_addResting 57 = .ok (.iadd, 1) := by decide +kernel
theorem dX0_addResting_58 : decode cX0_addResting 58 = .ok (.putfield 49, 3) := by decide +kernel
theorem dX0_addResting_61 : decode cX0_addResting 61 = .ok (.aload_n 0, 1) := by decide +kernel
theorem dX0_addResting_62 : decode cX0_addResting 62 = .ok (.getfield 49, 3) := by decide +kernel
theorem dX0_addResting_65 : decode cX0_addResting 65 = .ok (.iconst 1, 1) := by decide +kernel
theorem dX0_addResting_66 : decode cX0_addResting 66 = .ok (.isub, 1) := by decide +kernel
theorem dX0_addResting_67 : decode cX0_addResting 67 = .ok (.ireturn, 1) := by decide +kernel
theorem dX0_putTogether_0 : decode cX0_putTogether 0 = .ok (.aload_n 0, 1) := by decide +kernel
theorem dX0_putTogether_1 : decode cX0_putTogether 1 = .ok (.iconst (-1), 1) := by decide +kernel
theorem dX0_putTogether_2 : decode cX0_putTogether 2 = .ok (.putfield 38, 3) := by decide +kernel
theorem dX0_putTogether_5 : decode cX0_putTogether 5 = .ok (.aload_n 0, 1) := by decide +kernel
theorem dX0_putTogether_6 : decode cX0_putTogether 6 = .ok (.iconst (-1), 1) := by decide +kernel
theorem dX0_putTogether_7 : decode cX0_putTogether 7 = .ok (.putfield 42, 3) := by decide +kernel
theorem dX0_putTogether_10 : decode cX0_putTogether 10 = .ok (.aload_n 0, 1) := by decide +kernel
theorem dX0_putTogether_11 : decode cX0_putTogether 11 = .ok (.iconst (-1), 1) := by decide +kernel
theorem dX0_putTogether_12 : decode cX0_putTogether 12 = .ok (.putfield 45, 3) := by decide +kernel
theorem dX0_putTogether_15 : decode cX0_putTogether 15 = .ok (.iconst 0, 1) := by decide +kernel
theorem dX0_putTogether_16 : decode cX0_putTogether 16 = .ok (.istore_n 2, 1) := by decide +kernel
theorem dX0_putTogether_17 : decode cX0_putTogether 17 = .ok (.iload_n 1, 1) := by decide +kernel
theorem dX0_putTogether_18 : decode cX0_putTogether 18 = .ok (.istore_n 3, 1) := by decide +kernel
theorem dX0_putTogether_19 : decode cX0_putTogether 19 = .ok (.aload_n 0, 1) := by decide +kernel
theorem dX0_putTogether_20 : decode cX0_putTogether 20 = .ok (.getfield 11, 3) := by decide +kernel
theorem dX0_putTogether_23 : decode cX0_putTogether 23 = .ok (.iload_n 3, 1) := by decide +kernel
theorem dX0_putTogether_24 : decode cX0_putTogether 24 = .ok (.aaload, 1) := by decide +kernel
theorem dX0_putTogether_25 : decode cX0_putTogether 25 = .ok (.getfield 60, 3) := by decide +kernel
theorem dX0_putTogether_28 : decode cX0_putTogether 28 = .ok (.iconst 1, 1) := by decide +kernel
theorem dX0_putTogether_29 : decode cX0_putTogether 29 = .ok (.if_icmp .ne 35, 3) := by decide +kernel
theorem dX0_putTogether_32 : decode cX0_putTogether 32 = .ok (.iload_n 2, 1) := by decide +kernel
theorem dX0_putTogether_33 : decode cX0_putTogether 33 = .ok (.aload_n 0, 1) := by decide +kernel
theorem dX0_putTogether_34 : decode cX0_putTogether 34 = .ok (.getfield 17, 3) := by decide +kernel
theorem dX0_putTogether_37 : decode cX0_putTogether 37 = .ok (.arraylength, 1) := by decide +kernel
theorem dX0_putTogether_38 : decode cX0_putTogether 38 = .ok (.if_icmp .ge 26, 3) := by decide +kernel
theorem dX0_putTogether_41 : decode cX0_putTogether 41 = .ok (.aload_n 0, 1) := by decide +kernel
theorem dX0_putTogether_42 : decode cX0_putTogether 42 = .ok (.getfield 17, 3) := by decide +kernel
theorem dX0_putTogether_45 : decode cX0_putTogether 45 = .ok (.iload_n 2, 1) := by decide +kernel
theorem dX0_putTogether_46 : decode cX0_putTogether 46 = .ok (.iload_n 3, 1) := by decide +kernel
theorem dX0_putTogether_47 : decode cX0_putTogether 47 = .ok (.iastore, 1) := by decide +kernel
theorem dX0_putTogether_48 : decode cX0_putTogether 48 = .ok (.iinc 2 1, 3) := by decide +kernel
theorem dX0_putTogether_51 : decode cX0_putTogether 51 = .ok (.aload_n 0, 1) := by decide +kernel
theorem dX0_putTogether_52 : decode cX0_putTogether 52 = .ok (.getfield 11, 3) := by decide +kernel
theorem dX0_putTogether_55 : decode cX0_putTogether 55 = .ok (.iload_n 3, 1) := by decide +kernel
theorem dX0_putTogether_56 : decode cX0_putTogether 56 = .ok (.aaload, 1) := by decide +kernel
theorem dX0_putTogether_57 : decode cX0_putTogether 57 = .ok (.getfield 63, 3) := by decide +kernel
theorem dX0_putTogether_60 : decode cX0_putTogether 60 = .ok (.istore_n 3, 1) := by decide +kernel
theorem dX0_putTogether_61 : decode cX0_putTogether 61 = .ok (.goto (-42), 3) := by decide +kernel
theorem dX0_putTogether_64 : decode cX0_putTogether 64 = .ok (.aload_n 0, 1) := by decide +kernel
theorem dX0_putTogether_65 : decode cX0_putTogether 65 = .ok (.getfield 11, 3) := by decide +kernel
theorem dX0_putTogether_68 : decode cX0_putTogether 68 = .ok (.iload_n 3, 1) := by decide +kernel
theorem dX0_putTogether_69 : decode cX0_putTogether 69 = .ok (.aaload, 1) := by decide +kernel
theorem dX0_putTogether_70 : decode cX0_putTogether 70 = .ok (.getfield 60, 3) := by decide +kernel
theorem dX0_putTogether_73 : decode cX0_putTogether 73 = .ok (.iconst 2, 1) := by decide +kernel
theorem dX0_putTogether_74 : decode cX0_putTogether 74 = .ok (.if_icmp .ne 11, 3) := by decide +kernel
theorem dX0_putTogether_77 : decode cX0_putTogether 77 = .ok (.aload_n 0, 1) := by decide +kernel
theorem dX0_putTogether_78 : decode cX0_putTogether 78 = .ok (.iload_n 3, 1) := by decide +kernel
theorem dX0_putTogether_79 : decode cX0_putTogether 79 = .ok (.iload_n 2, 1) := by decide +kernel
theorem dX0_putTogether_80 : decode cX0_putTogether 80 = .ok (.iconst 1, 1) := by decide +kernel
theorem dX0_putTogether_81 : decode cX0_putTogether 81 = .ok (.invokevirtual 75, 3) := by decide +kernel
theorem dX0_putTogether_84 : decode cX0_putTogether 84 = .ok (.return_, 1) := by decide +kernel
theorem dX0_putTogether_85 : decode cX0_putTogether 85 = .ok (.aload_n 0, 1) := by decide +kernel
theorem dX0_putTogether_86 : decode cX0_putTogether 86 = .ok (.getfield 31, 3) := by decide +kernel
theorem dX0_putTogether_89 : decode cX0_putTogether 89 = .ok (.aload_n 0, 1) := by decide +kernel
theorem dX0_putTogether_90 : decode cX0_putTogether 90 = .ok (.getfield 11, 3) := by decide +kernel
theorem dX0_putTogether_93 : decode cX0_putTogether 93 = .ok (.iload_n 3, 1) := by decide +kernel
theorem dX0_putTogether_94 : decode cX0_putTogether 94 = .ok (.aaload, 1) := by decide +kernel
theorem dX0_putTogether_95 : decode cX0_putTogether 95 = .ok (.getfield 79, 3) := by decide +kernel
theorem dX0_putTogether_98 : decode cX0_putTogether 98 = .ok (.invokevirtual 82, 3) := by decide +kernel
theorem dX0_putTogether_101 : decode cX0_putTogether 101 = .ok (.aload_n 0, 1) := by decide +kernel
theorem dX0_putTogether_102 : decode cX0_putTogether 102 = .ok (.iload_n 2, 1) := by decide +kernel
theorem dX0_putTogether_103 : decode cX0_putTogether 103 = .ok (.invokevirtual 85, 3) := by decide +kernel
theorem dX0_putTogether_106 : decode cX0_putTogether 106 = .ok (.return_, 1) := by decide +kernel
theorem dX0_climb_0 : decode cX0_climb 0 = .ok (.iload_n 1, 1) := by decide +kernel
theorem dX0_climb_1 : decode cX0_climb 1 = .ok (.iconst 1, 1) := by decide +kernel
theorem dX0_climb_2 : decode cX0_climb 2 = .ok (.isub, 1) := by decide +kernel
theorem dX0_climb_3 : decode cX0_climb 3 = .ok (.istore_n 2, 1) := by decide +kernel
theorem dX0_climb_4 : decode cX0_climb 4 = .ok (.iload_n 2, 1) := by decide +kernel
theorem dX0_climb_5 : decode cX0_climb 5 = .ok (.ifCond .lt 71, 3) := by decide +kernel
theorem dX0_climb_8 : decode cX0_climb 8 = .ok (.aload_n 0, 1) := by decide +kernel
theorem dX0_climb_9 : decode cX0_climb 9 = .ok (.getfield 11, 3) := by decide +kernel
theorem dX0_climb_12 : decode cX0_climb 12 = .ok (.aload_n 0, 1) := by decide +kernel
theorem dX0_climb_13 : decode cX0_climb 13 = .ok (.getfield 17, 3) := by decide +kernel
theorem dX0_climb_16 : decode cX0_climb 16 = .ok (.iload_n 2, 1) := by decide +kernel
theorem dX0_climb_17 : decode cX0_climb 17 = .ok (.iaload, 1) := by decide +kernel
theorem dX0_climb_18 : decode cX0_climb 18 = .ok (.aaload, 1) := by decide +kernel
theorem dX0_climb_19 : decode cX0_climb 19 = .ok (.getfield 66, 3) := by decide +kernel
theorem dX0_climb_22 : decode cX0_climb 22 = .ok (.astore_n 3, 1) := by decide +kernel
theorem dX0_climb_23 : decode cX0_climb 23 = .ok (.aload_n 3, 1) := by decide +kernel
theorem dX0_climb_24 : decode cX0_climb 24 = .ok (.aload_n 0, 1) := by decide +kernel
theorem dX0_climb_25 : decode cX0_climb 25 = .ok (.getfield 31, 3) := by decide +kernel
theorem dX0_climb_28 : decode cX0_climb 28 = .ok (.invokevirtual 89, 3) := by decide +kernel
theorem dX0_climb_31 : decode cX0_climb 31 = .ok (.ifCond .ne 16, 3) := by decide +kernel
theorem dX0_climb_34 : decode cX0_climb 34 = .ok (.aload_n 0, 1) := by decide +kernel
theorem dX0_climb_35 : decode cX0_climb 35 = .ok (.aload_n 0, 1) := by decide +kernel
theorem dX0_climb_36 : decode cX0_climb 36 = .ok (.getfield 17, 3) := by decide +kernel
theorem dX0_climb_39 : decode cX0_climb 39 = .ok (.iload_n 2, 1) := by decide +kernel
theorem dX0_climb_40 : decode cX0_climb 40 = .ok (.iaload, 1) := by decide +kernel
theorem dX0_climb_41 : decode cX0_climb 41 = .ok (.iload_n 2, 1) := by decide +kernel
theorem dX0_climb_42 : decode cX0_climb 42 = .ok (.iconst 2, 1) := by decide +kernel
theorem dX0_climb_43 : decode cX0_climb 43 = .ok (.invokevirtual 75, 3) := by decide +kernel
theorem dX0_climb_46 : decode cX0_climb 46 = .ok (.return_, 1) := by decide +kernel
theorem dX0_climb_47 : decode cX0_climb 47 = .ok (.aload_n 3, 1) := by decide +kernel
theorem dX0_climb_48 : decode cX0_climb 48 = .ok (.aload_n 0, 1) := by decide +kernel
theorem dX0_climb_49 : decode cX0_climb 49 = .ok (.getfield 31, 3) := by decide +kernel
theorem dX0_climb_52 : decode cX0_climb 52 = .ok (.aload_n 0, 1) := by decide +kernel
theorem dX0_climb_53 : decode cX0_climb 53 = .ok (.getfield 35, 3) := by decide +kernel
theorem dX0_climb_56 : decode cX0_climb 56 = .ok (.invokevirtual 93, 3) := by decide +kernel
theorem dX0_climb_59 : decode cX0_climb 59 = .ok (.aload_n 0, 1) := by decide +kernel
theorem dX0_climb_60 : decode cX0_climb 60 = .ok (.getfield 31, 3) := by decide +kernel
theorem dX0_climb_63 : decode cX0_climb 63 = .ok (.aload_n 0, 1) := by decide +kernel
theorem dX0_climb_64 : decode cX0_climb 64 = .ok (.getfield 35, 3) := by decide +kernel
theorem dX0_climb_67 : decode cX0_climb 67 = .ok (.invokevirtual 82, 3) := by decide +kernel
theorem dX0_climb_70 : decode cX0_climb 70 = .ok (.iinc 2 (-1), 3) := by decide +kernel
theorem dX0_climb_73 : decode cX0_climb 73 = .ok (.goto (-69), 3) := by decide +kernel
theorem dX0_climb_76 : decode cX0_climb 76 = .ok (.return_, 1) := by decide +kernel
theorem dX0_breakAt_0 : decode cX0_breakAt 0 = .ok (.aload_n 0, 1) := by decide +kernel
theorem dX0_breakAt_1 : decode cX0_breakAt 1 = .ok (.iload_n 1, 1) := by decide +kernel
theorem dX0_breakAt_2 : decode cX0_breakAt 2 = .ok (.putfield 38, 3) := by decide +kernel
theorem dX0_breakAt_5 : decode cX0_breakAt 5 = .ok (.aload_n 0, 1) := by decide +kernel
theorem dX0_breakAt_6 : decode cX0_breakAt 6 = .ok (.iload_n 2, 1) := by decide +kernel
theorem dX0_breakAt_7 : decode cX0_breakAt 7 = .ok (.putfield 42, 3) := by decide +kernel
theorem dX0_breakAt_10 : decode cX0_breakAt 10 = .ok (.aload_n 0, 1) := by decide +kernel
theorem dX0_breakAt_11 : decode cX0_breakAt 11 = .ok (.iload_n 3, 1) := by decide +kernel
theorem dX0_breakAt_12 : decode cX0_breakAt 12 = .ok (.putfield 45, 3) := by decide +kernel
theorem dX0_breakAt_15 : decode cX0_breakAt 15 = .ok (.return_, 1) := by decide +kernel
theorem dX1_init_0 : decode cX1_init 0 = .ok (.aload_n 0, 1) := by decide +kernel
theorem dX1_init_1 : decode cX1_init 1 = .ok (.invokespecial 3, 3) := by decide +kernel
theorem dX1_init_4 : decode cX1_init 4 = .ok (.aload_n 0, 1) := by decide +kernel
theorem dX1_init_5 : decode cX1_init 5 = .ok (.bipush 40, 2) := by decide +kernel
theorem dX1_init_7 : decode cX1_init 7 = .ok (.newarray .int, 2) := by decide +kernel
theorem dX1_init_9 : decode cX1_init 9 = .ok (.putfield 9, 3) := by decide +kernel
theorem dX1_init_12 : decode cX1_init 12 = .ok (.return_, 1) := by decide +kernel
theorem dX1_fill_0 : decode cX1_fill 0 = .ok (.aload_n 0, 1) := by decide +kernel
theorem dX1_fill_1 : decode cX1_fill 1 = .ok (.iload_n 3, 1) := by decide +kernel
theorem dX1_fill_2 : decode cX1_fill 2 = .ok (.aload_n 0, 1) := by decide +kernel
theorem dX1_fill_3 : decode cX1_fill 3 = .ok (.getfield 9, 3) := by decide +kernel
theorem dX1_fill_6 : decode cX1_fill 6 = .ok (.arraylength, 1) := by decide +kernel
theorem dX1_fill_7 : decode cX1_fill 7 = .ok (.invokestatic 15, 3) := by decide +kernel
theorem dX1_fill_10 : decode cX1_fill 10 = .ok (.putfield 21, 3) := by decide +kernel
theorem dX1_fill_13 : decode cX1_fill 13 = .ok (.iconst 0, 1) := by decide +kernel
theorem dX1_fill_14 : decode cX1_fill 14 = .ok (.istore 4, 2) := by decide +kernel
theorem dX1_fill_16 : decode cX1_fill 16 = .ok (.iload 4, 2) := by decide +kernel
theorem dX1_fill_18 : decode cX1_fill 18 = .ok (.aload_n 0, 1) := by decide +kernel
theorem dX1_fill_19 : decode cX1_fill 19 = .ok (.getfield 21, 3) := by decide +kernel
theorem dX1_fill_22 : decode cX1_fill 22 = .ok (.if_icmp .ge 24, 3) := by decide +kernel
theorem dX1_fill_25 : decode cX1_fill 25 = .ok (.aload_n 0, 1) := by decide +kernel
theorem dX1_fill_26 : decode cX1_fill 26 = .ok (.getfield 9, 3) := by decide +kernel
theorem dX1_fill_29 : decode cX1_fill 29 = .ok (.iload 4, 2) := by decide +kernel
theorem dX1_fill_31 : decode cX1_fill 31 = .ok (.aload_n 1, 1) := by decide +kernel
theorem dX1_fill_32 : decode cX1_fill 32 = .ok (.iload_n 2, 1) := by decide +kernel
theorem dX1_fill_33 : decode cX1_fill 33 = .ok (.iload 4, 2) := by decide +kernel
theorem dX1_fill_35 : decode cX1_fill 35 = .ok (.iadd, 1) := by decide +kernel
theorem dX1_fill_36 : decode cX1_fill 36 = .ok (.invokevirtual 25, 3) := by decide +kernel
theorem dX1_fill_39 : decode cX1_fill 39 = .ok (.iastore, 1) := by decide +kernel
theorem dX1_fill_40 : decode cX1_fill 40 = .ok (.iinc 4 1, 3) := by decide +kernel
theorem dX1_fill_43 : decode cX1_fill 43 = .ok (.goto (-27), 3) := by decide +kernel
theorem dX1_fill_46 : decode cX1_fill 46 = .ok (.return_, 1) := by decide +kernel
theorem dX1_isIn_0 : decode cX1_isIn 0 = .ok (.aload_n 0, 1) := by decide +kernel
theorem dX1_isIn_1 : decode cX1_isIn 1 = .ok (.getfield 21, 3) := by decide +kernel
theorem dX1_isIn_4 : decode cX1_isIn 4 = .ok (.iload_n 3, 1) := by decide +kernel
theorem dX1_isIn_5 : decode cX1_isIn 5 = .ok (.if_icmp .eq 5, 3) := by decide +kernel
theorem dX1_isIn_8 : decode cX1_isIn 8 = .ok (.iconst 0, 1) := by decide +kernel
theorem dX1_isIn_9 : decode cX1_isIn 9 = .ok (.ireturn, 1) := by decide +kernel
theorem dX1_isIn_10 : decode cX1_isIn 10 = .ok (.iconst 0, 1) := by decide +kernel
theorem dX1_isIn_11 : decode cX1_isIn 11 = .ok (.istore 4, 2) := by decide +kernel
theorem dX1_isIn_13 : decode cX1_isIn 13 = .ok (.iload 4, 2) := by decide +kernel
theorem dX1_isIn_15 : decode cX1_isIn 15 = .ok (.aload_n 0, 1) := by decide +kernel
theorem dX1_isIn_16 : decode cX1_isIn 16 = .ok (.getfield 21, 3) := by decide +kernel
theorem dX1_isIn_19 : decode cX1_isIn 19 = .ok (.if_icmp .ge 29, 3) := by decide +kernel
theorem dX1_isIn_22 : decode cX1_isIn 22 = .ok (.aload_n 0, 1) := by decide +kernel
theorem dX1_isIn_23 : decode cX1_isIn 23 = .ok (.getfield 9, 3) := by decide +kernel
theorem dX1_isIn_26 : decode cX1_isIn 26 = .ok (.iload 4, 2) := by decide +kernel
theorem dX1_isIn_28 : decode cX1_isIn 28 = .ok (.iaload, 1) := by decide +kernel
theorem dX1_isIn_29 : decode cX1_isIn 29 = .ok (.aload_n 1, 1) := by decide +kernel
theorem dX1_isIn_30 : decode cX1_isIn 30 = .ok (.iload_n 2, 1) := by decide +kernel
theorem dX1_isIn_31 : decode cX1_isIn 31 = .ok (.iload 4, 2) := by decide +kernel
theorem dX1_isIn_33 : decode cX1_isIn 33 = .ok (.iadd, 1) := by decide +kernel
theorem dX1_isIn_34 : decode cX1_isIn 34 = .ok (.invokevirtual 25, 3) := by decide +kernel
theorem dX1_isIn_37 : decode cX1_isIn 37 = .ok (.if_icmp .eq 5, 3) := by decide +kernel
theorem dX1_isIn_40 : decode cX1_isIn 40 = .ok (.iconst 0, 1) := by decide +kernel
theorem dX1_isIn_41 : decode cX1_isIn 41 = .ok (.ireturn, 1) := by decide +kernel
theorem dX1_isIn_42 : decode cX1_isIn 42 = .ok (.iinc 4 1, 3) := by decide +kernel
theorem dX1_isIn_45 : decode cX1_isIn 45 = .ok (.goto (-32), 3) := by decide +kernel
theorem dX1_isIn_48 : decode cX1_isIn 48 = .ok (.iconst 1, 1) := by decide +kernel
theorem dX1_isIn_49 : decode cX1_isIn 49 = .ok (.ireturn, 1) := by decide +kernel
theorem dX2_init_0 : decode cX2_init 0 = .ok (.aload_n 0, 1) := by decide +kernel
theorem dX2_init_1 : decode cX2_init 1 = .ok (.invokespecial 3, 3) := by decide +kernel
theorem dX2_init_4 : decode cX2_init 4 = .ok (.aload_n 0, 1) := by decide +kernel
theorem dX2_init_5 : decode cX2_init 5 = .ok (.bipush 120, 2) := by decide +kernel
theorem dX2_init_7 : decode cX2_init 7 = .ok (.newarray .boolean, 2) := by decide +kernel
theorem dX2_init_9 : decode cX2_init 9 = .ok (.putfield 9, 3) := by decide +kernel
theorem dX2_init_12 : decode cX2_init 12 = .ok (.aload_n 0, 1) := by decide +kernel
theorem dX2_init_13 : decode cX2_init 13 = .ok (.bipush 120, 2) := by decide +kernel
theorem dX2_init_15 : decode cX2_init 15 = .ok (.newarray .int, 2) := by decide +kernel
theorem dX2_init_17 : decode cX2_init 17 = .ok (.putfield 15, 3) := by decide +kernel
theorem dX2_init_20 : decode cX2_init 20 = .ok (.aload_n 0, 1) := by decide +kernel
theorem dX2_init_21 : decode cX2_init 21 = .ok (.bipush 120, 2) := by decide +kernel
theorem dX2_init_23 : decode cX2_init 23 = .ok (.newarray .int, 2) := by decide +kernel
theorem dX2_init_25 : decode cX2_init 25 = .ok (.putfield 19, 3) := by decide +kernel
theorem dX2_init_28 : decode cX2_init 28 = .ok (.aload_n 0, 1) := by decide +kernel
theorem dX2_init_29 : decode cX2_init 29 = .ok (.new 22, 3) := by decide +kernel
theorem dX2_init_32 : decode cX2_init 32 = .ok (.dup, 1) := by decide +kernel
theorem dX2_init_33 : decode cX2_init 33 = .ok (.invokespecial 24, 3) := by decide +kernel
theorem dX2_init_36 : decode cX2_init 36 = .ok (.putfield 25, 3) := by decide +kernel
theorem dX2_init_39 : decode cX2_init 39 = .ok (.aload_n 0, 1) := by decide +kernel
theorem dX2_init_40 : decode cX2_init 40 = .ok (.iconst (-1), 1) := by decide +kernel
theorem dX2_init_41 : decode cX2_init 41 = .ok (.putfield 29, 3) := by decide +kernel
theorem dX2_init_44 : decode cX2_init 44 = .ok (.return_, 1) := by decide +kernel
theorem dX2_make_0 : decode cX2_make 0 = .ok (.aload_n 0, 1) := by decide +kernel
theorem dX2_make_1 : decode cX2_make 1 = .ok (.iconst 1, 1) := by decide +kernel
theorem dX2_make_2 : decode cX2_make 2 = .ok (.putfield 33, 3) := by decide +kernel
theorem dX2_make_5 : decode cX2_make 5 = .ok (.aload_n 0, 1) := by decide +kernel
theorem dX2_make_6 : decode cX2_make 6 = .ok (.iconst 0, 1) := by decide +kernel
theorem dX2_make_7 : decode cX2_make 7 = .ok (.putfield 37, 3) := by decide +kernel
theorem dX2_make_10 : decode cX2_make 10 = .ok (.aload_n 0, 1) := by decide +kernel
theorem dX2_make_11 : decode cX2_make 11 = .ok (.iconst 0, 1) := by decide +kernel
theorem dX2_make_12 : decode cX2_make 12 = .ok (.putfield 40, 3) := by decide +kernel
theorem dX2_make_15 : decode cX2_make 15 = .ok (.aload_n 0, 1) := by decide +kernel
theorem dX2_make_16 : decode cX2_make 16 = .ok (.iconst (-1), 1) := by decide +kernel
theorem dX2_make_17 : decode cX2_make 17 = .ok (.putfield 29, 3) := by decide +kernel
theorem dX2_make_20 : decode cX2_make 20 = .ok (.aload_n 0, 1) := by decide +kernel
theorem dX2_make_21 : decode cX2_make 21 = .ok (.getfield 25, 3) := by decide +kernel
theorem dX2_make_24 : decode cX2_make 24 = .ok (.aload_n 2, 1) := by decide +kernel
theorem dX2_make_25 : decode cX2_make 25 = .ok (.invokevirtual 43, 3) := by decide +kernel
theorem dX2_make_28 : decode cX2_make 28 = .ok (.iconst 0, 1) := by decide +kernel
theorem dX2_make_29 : decode cX2_make 29 = .ok (.istore_n 3, 1) := by decide +kernel
theorem dX2_make_30 : decode cX2_make 30 = .ok (.iload_n 3, 1) := by decide +kernel
theorem dX2_make_31 : decode cX2_make 31 = .ok (.aload_n 2, 1) := by decide +kernel
theorem dX2_make_32 : decode cX2_make 32 = .ok (.getfield 47, 3) := by decide +kernel
theorem dX2_make_35 : decode cX2_make 35 = .ok (.if_icmp .ge 19, 3) := by decide +kernel
theorem dX2_make_38 : decode cX2_make 38 = .ok (.iload_n 3, 1) := by decide +kernel
theorem dX2_make_39 : decode cX2_make 39 = .ok (.iconst 1, 1) := by decide +kernel
theorem dX2_make_40 : decode cX2_make 40 = .ok (.aload_n 0, 1) := by decide +kernel
theorem dX2_make_41 : decode cX2_make 41 = .ok (.aload_n 1, 1) := by decide +kernel
theorem dX2_make_42 : decode cX2_make 42 = .ok (.iload_n 3, 1) := by decide +kernel
theorem dX2_make_43 : decode cX2_make 43 = .ok (.invokevirtual 50, 3) := by decide +kernel
theorem dX2_make_46 : decode cX2_make 46 = .ok (.invokestatic 54, 3) := by decide +kernel
theorem dX2_make_49 : decode cX2_make 49 = .ok (.iadd, 1) := by decide +kernel
theorem dX2_make_50 : decode cX2_make 50 = .ok (.istore_n 3, 1) := by decide +kernel
theorem dX2_make_51 : decode cX2_make 51 = .ok (.goto (-21), 3) := by decide +kernel
theorem dX2_make_54 : decode cX2_make 54 = .ok (.return_, 1) := by decide +kernel
theorem dX2_goOn_0 : decode cX2_goOn 0 = .ok (.aload_n 1, 1) := by decide +kernel
theorem dX2_goOn_1 : decode cX2_goOn 1 = .ok (.aload_n 0, 1) := by decide +kernel
theorem dX2_goOn_2 : decode cX2_goOn 2 = .ok (.getfield 25, 3) := by decide +kernel
theorem dX2_goOn_5 : decode cX2_goOn 5 = .ok (.getfield 47, 3) := by decide +kernel
theorem dX2_goOn_8 : decode cX2_goOn 8 = .ok (.iload_n 2, 1) := by decide +kernel
theorem dX2_goOn_9 : decode cX2_goOn 9 = .ok (.isub, 1) := by decide +kernel
theorem dX2_goOn_10 : decode cX2_goOn 10 = .ok (.invokevirtual 60, 3) := by decide +kernel
theorem dX2_goOn_13 : decode cX2_goOn 13 = .ok (.istore_n 3, 1) := by decide +kernel
theorem dX2_goOn_14 : decode cX2_goOn 14 = .ok (.iload_n 3, 1) := by decide +kernel
theorem dX2_goOn_15 : decode cX2_goOn 15 = .ok (.ifCond .ne 7, 3) := by decide +kernel
theorem dX2_goOn_18 : decode cX2_goOn 18 = .ok (.iconst (-1), 1) := by decide +kernel
theorem dX2_goOn_19 : decode cX2_goOn 19 = .ok (.goto 10, 3) := by decide +kernel
theorem dX2_goOn_22 : decode cX2_goOn 22 = .ok (.aload_n 0, 1) := by decide +kernel
theorem dX2_goOn_23 : decode cX2_goOn 23 = .ok (.aload_n 1, 1) := by decide +kernel
theorem dX2_goOn_24 : decode cX2_goOn 24 = .ok (.iload_n 2, 1) := by decide +kernel
theorem dX2_goOn_25 : decode cX2_goOn 25 = .ok (.iload_n 3, 1) := by decide +kernel
theorem dX2_goOn_26 : decode cX2_goOn 26 = .ok (.invokevirtual 66, 3) := by decide +kernel
theorem dX2_goOn_29 : decode cX2_goOn 29 = .ok (.istore 4, 2) := by decide +kernel
theorem dX2_goOn_31 : decode cX2_goOn 31 = .ok (.iload 4, 2) := by decide +kernel
theorem dX2_goOn_33 : decode cX2_goOn 33 = .ok (.iconst (-1), 1) := by decide +kernel
theorem dX2_goOn_34 : decode cX2_goOn 34 = .ok (.if_icmp .ne 10, 3) := by decide +kernel
theorem dX2_goOn_37 : decode cX2_goOn 37 = .ok (.aload_n 0, 1) := by decide +kernel
theorem dX2_goOn_38 : decode cX2_goOn 38 = .ok (.iload_n 2, 1) := by decide +kernel
theorem dX2_goOn_39 : decode cX2_goOn 39 = .ok (.invokevirtual 70, 3) := by decide +kernel
theorem dX2_goOn_42 : decode cX2_goOn 42 = .ok (.iconst 1, 1) := by decide +kernel
theorem dX2_goOn_43 : decode cX2_goOn 43 = .ok (.ireturn, 1) := by decide +kernel
theorem dX2_goOn_44 : decode cX2_goOn 44 = .ok (.aload_n 0, 1) := by decide +kernel
theorem dX2_goOn_45 : decode cX2_goOn 45 = .ok (.iload 4, 2) := by decide +kernel
theorem dX2_goOn_47 : decode cX2_goOn 47 = .ok (.iload 4, 2) := by decide +kernel
theorem dX2_goOn_49 : decode cX2_goOn 49 = .ok (.aload_n 1, 1) := by decide +kernel
theorem dX2_goOn_50 : decode cX2_goOn 50 = .ok (.getfield 74, 3) := by decide +kernel
theorem dX2_goOn_53 : decode cX2_goOn 53 = .ok (.imul, 1) := by decide +kernel
theorem dX2_goOn_54 : decode cX2_goOn 54 = .ok (.iload_n 3, 1) := by decide +kernel
theorem dX2_goOn_55 : decode cX2_goOn 55 = .ok (.invokevirtual 77, 3) := by decide +kernel
theorem dX2_goOn_58 : decode cX2_goOn 58 = .ok (.iload_n 3, 1) := by decide +kernel
theorem dX2_goOn_59 : decode cX2_goOn 59 = .ok (.ireturn, 1) := by decide +kernel
theorem dX2_matchingBlock_0 : decode cX2_matchingBlock 0 = .ok (.aload_n 0, 1) := by decide +kernel
theorem dX2_matchingBlock_1 : decode cX2_matchingBlock 1 = .ok (.getfield 25, 3) := by decide +kernel
theorem dX2_matchingBlock_4 : decode cX2_matchingBlock 4 = .ok (.iload_n 2, 1) := by decide +kernel
theorem dX2_matchingBlock_5 : decode cX2_matchingBlock 5 = .ok (.iload_n 3, 1) := by decide +kernel
theorem dX2_matchingBlock_6 : decode cX2_matchingBlock 6 = .ok (.aload_n 1, 1) := by decide +kernel
theorem dX2_matchingBlock_7 : decode cX2_matchingBlock 7 = .ok (.getfield 81, 3) := by decide +kernel
theorem dX2_matchingBlock_10 : decode cX2_matchingBlock 10 = .ok (.invokevirtual 84, 3) := by decide +kernel
theorem dX2_matchingBlock_13 : decode cX2_matchingBlock 13 = .ok (.istore 4, 2) := by decide +kernel
theorem dX2_matchingBlock_15 : decode cX2_matchingBlock 15 = .ok (.aload_n 0, 1) := by decide +kernel
theorem dX2_matchingBlock_16 : decode cX2_matchingBlock 16 = .ok (.getfield 25, 3) := by decide +kernel
theorem dX2_matchingBlock_19 : decode cX2_matchingBlock 19 = .ok (.iload_n 2, 1) := by decide +kernel
theorem dX2_matchingBlock_20 : decode cX2_matchingBlock 20 = .ok (.iload_n 3, 1) := by decide +kernel
theorem dX2_matchingBlock_21 : decode cX2_matchingBlock 21 = .ok (.invokevirtual 88, 3) := by decide +kernel
theorem dX2_matchingBlock_24 : decode cX2_matchingBlock 24 = .ok (.lstore 5, 2) := by decide +kernel
theorem dX2_matchingBlock_26 : decode cX2_matchingBlock 26 = .ok (.iconst (-1), 1) := by decide +kernel
theorem dX2_matchingBlock_27 : decode cX2_matchingBlock 27 = .ok (.istore 7, 2) := by decide +kernel
theorem dX2_matchingBlock_29 : decode cX2_matchingBlock 29 = .ok (.iconst 0, 1) := by decide +kernel
theorem dX2_matchingBlock_30 : decode cX2_matchingBlock 30 = .ok (.istore 8, 2) := by decide +kernel
theorem dX2_matchingBlock_32 : decode cX2_matchingBlock 32 = .ok (.iconst 0, 1) := by decide +kernel
theorem dX2_matchingBlock_33 : decode cX2_matchingBlock 33 = .ok (.istore 9, 2) := by decide +kernel
theorem dX2_matchingBlock_35 : decode cX2_matchingBlock 35 = .ok (.iload 9, 2) := by decide +kernel
theorem dX2_matchingBlock_37 : decode cX2_matchingBlock 37 = .ok (.aload_n 1, 1) := by decide +kernel
theorem dX2_matchingBlock_38 : decode cX2_matchingBlock 38 = .ok (.getfield 92, 3) := by decide +kernel
theorem dX2_matchingBlock_41 : decode cX2_matchingBlock 41 = .ok (.if_icmp .ge 74, 3) := by decide +kernel
theorem dX2_matchingBlock_44 : decode cX2_matchingBlock 44 = .ok (.aload_n 1, 1) := by decide +kernel
theorem dX2_matchingBlock_45 : decode cX2_matchingBlock 45 = .ok (.iload 9, 2) := by decide +kernel
theorem dX2_matchingBlock_47 : decode cX2_matchingBlock 47 = .ok (.invokevirtual 93, 3) := by decide +kernel
theorem dX2_matchingBlock_50 : decode cX2_matchingBlock 50 = .ok (.iload_n 3, 1) := by decide +kernel
theorem dX2_matchingBlock_51 : decode cX2_matchingBlock 51 = .ok (.if_icmp .ne 58, 3) := by decide +kernel
theorem dX2_matchingBlock_54 : decode cX2_matchingBlock 54 = .ok (.aload_n 1, 1) := by decide +kernel
theorem dX2_matchingBlock_55 : decode cX2_matchingBlock 55 = .ok (.getfield 96, 3) := by decide +kernel
theorem dX2_matchingBlock_58 : decode cX2_matchingBlock 58 = .ok (.iload 9, 2) := by decide +kernel
theorem dX2_matchingBlock_60 : decode cX2_matchingBlock 60 = .ok (.iaload, 1) := by decide +kernel
theorem dX2_matchingBlock_61 : decode cX2_matchingBlock 61 = .ok (.iload 4, 2) := by decide +kernel
theorem dX2_matchingBlock_63 : decode cX2_matchingBlock 63 = .ok (.if_icmp .ne 46, 3) := by decide +kernel
theorem dX2_matchingBlock_66 : decode cX2_matchingBlock 66 = .ok (.iconst 1, 1) := by decide +kernel
theorem dX2_matchingBlock_67 : decode cX2_matchingBlock 67 = .ok (.istore 8, 2) := by decide +kernel
theorem dX2_matchingBlock_69 : decode cX2_matchingBlock 69 = .ok (.aload_n 1, 1) := by decide +kernel
theorem dX2_matchingBlock_70 : decode cX2_matchingBlock 70 = .ok (.getfield 99, 3) := by decide +kernel
theorem dX2_matchingBlock_73 : decode cX2_matchingBlock 73 = .ok (.iload 9, 2) := by decide +kernel
theorem dX2_matchingBlock_75 : decode cX2_matchingBlock 75 = .ok (.laload, 1) := by decide +kernel
theorem dX2_matchingBlock_76 : decode cX2_matchingBlock 76 = .ok (.lload 5, 2) := by decide +kernel
theorem dX2_matchingBlock_78 : decode cX2_matchingBlock 78 = .ok (.lcmp, 1) := by decide +kernel
theorem dX2_matchingBlock_79 : decode cX2_matchingBlock 79 = .ok (.ifCond .ne 30, 3) := by decide +kernel
theorem dX2_matchingBlock_82 : decode cX2_matchingBlock 82 = .ok (.iload 9, 2) := by decide +kernel
theorem dX2_matchingBlock_84 : decode cX2_matchingBlock 84 = .ok (.aload_n 0, 1) := by decide +kernel
theorem dX2_matchingBlock_85 : decode cX2_matchingBlock 85 = .ok (.getfield 29, 3) := by decide +kernel
theorem dX2_matchingBlock_88 : decode cX2_matchingBlock 88 = .ok (.if_icmp .ne 6, 3) := by decide +kernel
theorem dX2_matchingBlock_91 : decode cX2_matchingBlock 91 = .ok (.iload 9, 2) := by decide +kernel
theorem dX2_matchingBlock_93 : decode cX2_matchingBlock 93 = .ok (.ireturn, 1) := by decide +kernel
theorem dX2_matchingBlock_94 : decode cX2_matchingBlock 94 = .ok (.iload 7, 2) := by decide +kernel
theorem dX2_matchingBlock_96 : decode cX2_matchingBlock 96 = .ok (.iconst (-1), 1) := by decide +kernel
theorem dX2_matchingBlock_97 : decode cX2_matchingBlock 97 = .ok (.if_icmp .ne 8, 3) := by decide +kernel
theorem dX2_matchingBlock_100 : decode cX2_matchingBlock 100 = .ok (.iload 9, 2) := by decide +kernel
theorem dX2_matchingBlock_102 : decode cX2_matchingBlock 102 = .ok (.goto 5, 3) := by decide +kernel
theorem dX2_matchingBlock_105 : decode cX2_matchingBlock 105 = .ok (.iload 7, 2) := by decide +kernel
theorem dX2_matchingBlock_107 : decode cX2_matchingBlock 107 = .ok (.istore 7, 2) := by decide +kernel
theorem dX2_matchingBlock_109 : decode cX2_matchingBlock 109 = .ok (.iinc 9 1, 3) := by decide +kernel
theorem dX2_matchingBlock_112 : decode cX2_matchingBlock 112 = .ok (.goto (-77), 3) := by decide +kernel
theorem dX2_matchingBlock_115 : decode cX2_matchingBlock 115 = .ok (.iload 8, 2) := by decide +kernel
theorem dX2_matchingBlock_117 : decode cX2_matchingBlock 117 = .ok (.ifCond .eq 19, 3) := by decide +kernel
theorem dX2_matchingBlock_120 : decode cX2_matchingBlock 120 = .ok (.iload 7, 2) := by decide +kernel
theorem dX2_matchingBlock_122 : decode cX2_matchingBlock 122 = .ok (.iconst (-1), 1) := by decide +kernel
theorem dX2_matchingBlock_123 : decode cX2_matchingBlock 123 = .ok (.if_icmp .ne 13, 3) := by decide +kernel
theorem dX2_matchingBlock_126 : decode cX2_matchingBlock 126 = .ok (.aload_n 0, 1) := by decide +kernel
theorem dX2_matchingBlock_127 : decode cX2_matchingBlock 127 = .ok (.dup, 1) := by decide +kernel
theorem dX2_matchingBlock_128 : decode cX2_matchingBlock 128 = .ok (.getfield 40, 3) := by decide +kernel
theorem dX2_matchingBlock_131 : decode cX2_matchingBlock 131 = .ok (.iconst 1, 1) := by decide +kernel
theorem dX2_matchingBlock_132 : decode cX2_matchingBlock 132 = .ok (.iadd, 1) := by decide +kernel
theorem dX2_matchingBlock_133 : decode cX2_matchingBlock 133 = .ok (.putfield 40, 3) := by decide +kernel
theorem dX2_matchingBlock_136 : decode cX2_matchingBlock 136 = .ok (.iload 7, 2) := by decide +kernel
theorem dX2_matchingBlock_138 : decode cX2_matchingBlock 138 = .ok (.ireturn, 1) := by decide +kernel
theorem dX2_addCopy_0 : decode cX2_addCopy 0 = .ok (.iload_n 1, 1) := by decide +kernel
theorem dX2_addCopy_1 : decode cX2_addCopy 1 = .ok (.aload_n 0, 1) := by decide +kernel
theorem dX2_addCopy_2 : decode cX2_addCopy 2 = .ok (.getfield 29, 3) := by decide +kernel
theorem dX2_addCopy_5 : decode cX2_addCopy 5 = .ok (.if_icmp .ne 28, 3) := by decide +kernel
theorem dX2_addCopy_8 : decode cX2_addCopy 8 = .ok (.aload_n 0, 1) := by decide +kernel
theorem dX2_addCopy_9 : decode cX2_addCopy 9 = .ok (.getfield 37, 3) := by decide +kernel
theorem dX2_addCopy_12 : decode cX2_addCopy 12 = .ok (.ifCond .le 21, 3) := by decide +kernel
theorem dX2_addCopy_15 : decode cX2_addCopy 15 = .ok (.aload_n 0, 1) := by decide +kernel
theorem dX2_addCopy_16 : decode cX2_addCopy 16 = .ok (.getfield 19, 3) := by decide +kernel
theorem dX2_addCopy_19 : decode cX2_addCopy 19 = .ok (.aload_n 0, 1) := by decide +kernel
theorem dX2_addCopy_20 : decode cX2_addCopy 20 = .ok (.getfield 37, 3) := by decide +kernel
theorem dX2_addCopy_23 : decode cX2_addCopy 23 = .ok (.iconst 1, 1) := by decide +kernel
theorem dX2_addCopy_24 : decode cX2_addCopy 24 = .ok (.isub, 1) := by decide +kernel
theorem dX2_addCopy_25 : decode cX2_addCopy 25 = .ok (.dup2, 1) := by decide +kernel
theorem dX2_addCopy_26 : decode cX2_addCopy 26 = .ok (.iaload, 1) := by decide +kernel
theorem dX2_addCopy_27 : decode cX2_addCopy 27 = .ok (.iload_n 3, 1) := by decide +kernel
theorem dX2_addCopy_28 : decode cX2_addCopy 28 = .ok (.iadd, 1) := by decide +kernel
theorem dX2_addCopy_29 : decode cX2_addCopy 29 = .ok (.iastore, 1) := by decide +kernel
theorem dX2_addCopy_30 : decode cX2_addCopy 30 = .ok (.goto 10, 3) := by decide +kernel
theorem dX2_addCopy_33 : decode cX2_addCopy 33 = .ok (.aload_n 0, 1) := by decide +kernel
theorem dX2_addCopy_34 : decode cX2_addCopy 34 = .ok (.iconst 1, 1) := by decide +kernel
theorem dX2_addCopy_35 : decode cX2_addCopy 35 = .ok (.iload_n 2, 1) := by decide +kernel
theorem dX2_addCopy_36 : decode cX2_addCopy 36 = .ok (.iload_n 3, 1) := by decide +kernel
theorem dX2_addCopy_37 : decode cX2_addCopy 37 = .ok (.invokevirtual 103, 3) := by decide +kernel
theorem dX2_addCopy_40 : decode cX2_addCopy 40 = .ok (.aload_n 0, 1) := by decide +kernel
theorem dX2_addCopy_41 : decode cX2_addCopy 41 = .ok (.iload_n 1, 1) := by decide +kernel
theorem dX2_addCopy_42 : decode cX2_addCopy 42 = .ok (.iconst 1, 1) := by decide +kernel
theorem dX2_addCopy_43 : decode cX2_addCopy 43 = .ok (.iadd, 1) := by decide +kernel
theorem dX2_addCopy_44 : decode cX2_addCopy 44 = .ok (.putfield 29, 3) := by decide +kernel
theorem dX2_addCopy_47 : decode cX2_addCopy 47 = .ok (.return_, 1) := by decide +kernel
theorem dX2_addLiteral_0 : decode cX2_addLiteral 0 = .ok (.aload_n 0, 1) := by decide +kernel
theorem dX2_addLiteral_1 : decode cX2_addLiteral 1 = .ok (.getfield 37, 3) := by decide +kernel
theorem dX2_addLiteral_4 : decode cX2_addLiteral 4 = .ok (.ifCond .le 35, 3) := by decide +kernel
theorem dX2_addLiteral_7 : decode cX2_addLiteral 7 = .ok (.aload_n 0, 1) := by decide +kernel
theorem dX2_addLiteral_8 : decode cX2_addLiteral 8 = .ok (.getfield 9, 3) := by decide +kernel
theorem dX2_addLiteral_11 : decode cX2_addLiteral 11 = .ok (.aload_n 0, 1) := by decide +kernel
theorem dX2_addLiteral_12 : decode cX2_addLiteral 12 = .ok (.getfield 37, 3) := by decide +kernel
theorem dX2_addLiteral_15 : decode cX2_addLiteral 15 = .ok (.iconst 1, 1) := by decide +kernel
theorem dX2_addLiteral_16 : decode cX2_addLiteral 16 = .ok (.isub, 1) := by decide +kernel
theorem dX2_addLiteral_17 : decode cX2_addLiteral 17 = .ok (.baload, 1) := by decide +kernel
theorem dX2_addLiteral_18 : decode cX2_addLiteral 18 = .ok (.ifCond .ne 21, 3) := by decide +kernel
theorem dX2_addLiteral_21 : decode cX2_addLiteral 21 = .ok (.aload_n 0, 1) := by decide +kernel
theorem dX2_addLiteral_22 : decode cX2_addLiteral 22 = .ok (.getfield 19, 3) := by decide +kernel
theorem dX2_addLiteral_25 : decode cX2_addLiteral 25 = .ok (.aload_n 0, 1) := by decide +kernel
theorem dX2_addLiteral_26 : decode cX2_addLiteral 26 = .ok (.getfield 37, 3) := by decide +kernel
theorem dX2_addLiteral_29 : decode cX2_addLiteral 29 = .ok (.iconst 1, 1) := by decide +kernel
theorem dX2_addLiteral_30 : decode cX2_addLiteral 30 = .ok (.isub, 1) := by decide +kernel
theorem dX2_addLiteral_31 : decode cX2_addLiteral 31 = .ok (.dup2, 1) := by decide +kernel
theorem dX2_addLiteral_32 : decode cX2_addLiteral 32 = .ok (.iaload, 1) := by decide +kernel
theorem dX2_addLiteral_33 : decode cX2_addLiteral 33 = .ok (.iconst 1, 1) := by decide +kernel
theorem dX2_addLiteral_34 : decode cX2_addLiteral 34 = .ok (.iadd, 1) := by decide +kernel
theorem dX2_addLiteral_35 : decode cX2_addLiteral 35 = .ok (.iastore, 1) := by decide +kernel
theorem dX2_addLiteral_36 : decode cX2_addLiteral 36 = .ok (.goto 10, 3) := by decide +kernel
theorem dX2_addLiteral_39 : decode cX2_addLiteral 39 = .ok (.aload_n 0, 1) := by decide +kernel
theorem dX2_addLiteral_40 : decode cX2_addLiteral 40 = .ok (.iconst 0, 1) := by decide +kernel
theorem dX2_addLiteral_41 : decode cX2_addLiteral 41 = .ok (.iload_n 1, 1) := by decide +kernel
theorem dX2_addLiteral_42 : decode cX2_addLiteral 42 = .ok (.iconst 1, 1) := by decide +kernel
theorem dX2_addLiteral_43 : decode cX2_addLiteral 43 = .ok (.invokevirtual 103, 3) := by decide +kernel
theorem dX2_addLiteral_46 : decode cX2_addLiteral 46 = .ok (.aload_n 0, 1) := by decide +kernel
theorem dX2_addLiteral_47 : decode cX2_addLiteral 47 = .ok (.iconst (-1), 1) := by decide +kernel
theorem dX2_addLiteral_48 : decode cX2_addLiteral 48 = .ok (.putfield 29, 3) := by decide +kernel
theorem dX2_addLiteral_51 : decode cX2_addLiteral 51 = .ok (.return_, 1) := by decide +kernel
theorem dX2_begin_0 : decode cX2_begin 0 = .ok (.aload_n 0, 1) := by decide +kernel
theorem dX2_begin_1 : decode cX2_begin 1 = .ok (.getfield 37, 3) := by decide +kernel
theorem dX2_begin_4 : decode cX2_begin 4 = .ok (.aload_n 0, 1) := by decide +kernel
theorem dX2_begin_5 : decode cX2_begin 5 = .ok (.getfield 9, 3) := by decide +kernel
theorem dX2_begin_8 : decode cX2_begin 8 = .ok (.arraylength, 1) := by decide +kernel
theorem dX2_begin_9 : decode cX2_begin 9 = .ok (.if_icmp .ge 43, 3) := by decide +kernel
theorem dX2_begin_12 : decode cX2_begin 12 = .ok (.aload_n 0, 1) := by decide +kernel
theorem dX2_begin_13 : decode cX2_begin 13 = .ok (.getfield 9, 3) := by decide +kernel
theorem dX2_begin_16 : decode cX2_begin 16 = .ok (.aload_n 0, 1) := by decide +kernel
theorem dX2_begin_17 : decode cX2_begin 17 = .ok (.getfield 37, 3) := by decide +kernel
theorem dX2_begin_20 : decode cX2_begin 20 = .ok (.iload_n 1, 1) := by decide +kernel
theorem dX2_begin_21 : decode cX2_begin 21 = .ok (.bastore, 1) := by decide +kernel
theorem dX2_begin_22 : decode cX2_begin 22 = .ok (.aload_n 0, 1) := by decide +kernel
theorem dX2_begin_23 : decode cX2_begin 23 = .ok (.getfield 15, 3) := by decide +kernel
theorem dX2_begin_26 : decode cX2_begin 26 = .ok (.aload_n 0, 1) := by decide +kernel
theorem dX2_begin_27 : decode cX2_begin 27 = .ok (.getfield 37, 3) := by decide +kernel
theorem dX2_begin_30 : decode cX2_begin 30 = .ok (.iload_n 2, 1) := by decide +kernel
theorem dX2_begin_31 : decode cX2_begin 31 = .ok (.iastore, 1) := by decide +kernel
theorem dX2_begin_32 : decode cX2_begin 32 = .ok (.aload_n 0, 1) := by decide +kernel
theorem dX2_begin_33 : decode cX2_begin 33 = .ok (.getfield 19, 3) := by decide +kernel
theorem dX2_begin_36 : decode cX2_begin 36 = .ok (.aload_n 0, 1) := by decide +kernel
theorem dX2_begin_37 : decode cX2_begin 37 = .ok (.getfield 37, 3) := by decide +kernel
theorem dX2_begin_40 : decode cX2_begin 40 = .ok (.iload_n 3, 1) := by decide +kernel
theorem dX2_begin_41 : decode cX2_begin 41 = .ok (.iastore, 1) := by decide +kernel
theorem dX2_begin_42 : decode cX2_begin 42 = .ok (.aload_n 0, 1) := by decide +kernel
theorem dX2_begin_43 : decode cX2_begin 43 = .ok (.dup, 1) := by decide +kernel
theorem dX2_begin_44 : decode cX2_begin 44 = .ok (.getfield 37, 3) := by decide +kernel
theorem dX2_begin_47 : decode cX2_begin 47 = .ok (.iconst 1, 1) := by decide +kernel
theorem dX2_begin_48 : decode cX2_begin 48 = .ok (.iadd, 1) := by decide +kernel
theorem dX2_begin_49 : decode cX2_begin 49 = .ok (.putfield 37, 3) := by decide +kernel
theorem dX2_begin_52 : decode cX2_begin 52 = .ok (.return_, 1) := by decide +kernel
theorem dX2_price_0 : decode cX2_price 0 = .ok (.iconst 0, 1) := by decide +kernel
theorem dX2_price_1 : decode cX2_price 1 = .ok (.istore_n 1, 1) := by decide +kernel
theorem dX2_price_2 : decode cX2_price 2 = .ok (.iconst 0, 1) := by decide +kernel
theorem dX2_price_3 : decode cX2_price 3 = .ok (.istore_n 2, 1) := by decide +kernel
theorem dX2_price_4 : decode cX2_price 4 = .ok (.iload_n 2, 1) := by decide +kernel
theorem dX2_price_5 : decode cX2_price 5 = .ok (.aload_n 0, 1) := by decide +kernel
theorem dX2_price_6 : decode cX2_price 6 = .ok (.getfield 37, 3) := by decide +kernel
theorem dX2_price_9 : decode cX2_price 9 = .ok (.if_icmp .ge 33, 3) := by decide +kernel
theorem dX2_price_12 : decode cX2_price 12 = .ok (.iload_n 1, 1) := by decide +kernel
theorem dX2_price_13 : decode cX2_price 13 = .ok (.aload_n 0, 1) := by decide +kernel
theorem dX2_price_14 : decode cX2_price 14 = .ok (.getfield 9, 3) := by decide +kernel
theorem dX2_price_17 : decode cX2_price 17 = .ok (.iload_n 2, 1) := by decide +kernel
theorem dX2_price_18 : decode cX2_price 18 = .ok (.baload, 1) := by decide +kernel
theorem dX2_price_19 : decode cX2_price 19 = .ok (.ifCond .eq 7, 3) := by decide +kernel
theorem dX2_price_22 : decode cX2_price 22 = .ok (.iconst 3, 1) := by decide +kernel
theorem dX2_price_23 : decode cX2_price 23 = .ok (.goto 11, 3) := by decide +kernel
theorem dX2_price_26 : decode cX2_price 26 = .ok (.iconst 1, 1) := by decide +kernel
theorem dX2_price_27 : decode cX2_price 27 = .ok (.aload_n 0, 1) := by decide +kernel
theorem dX2_price_28 : decode cX2_price 28 = .ok (.getfield 19, 3) := by decide +kernel
theorem dX2_price_31 : decode cX2_price 31 = .ok (.iload_n 2, 1) := by decide +kernel
theorem dX2_price_32 : decode cX2_price 32 = .ok (.iaload, 1) := by decide +kernel
theorem dX2_price_33 : decode cX2_price 33 = .ok (.iadd, 1) := by decide +kernel
theorem dX2_price_34 : decode cX2_price 34 = .ok (.iadd, 1) := by decide +kernel
theorem dX2_price_35 : decode cX2_price 35 = .ok (.istore_n 1, 1) := by decide +kernel
theorem dX2_price_36 : decode cX2_price 36 = .ok (.iinc 2 1, 3) := by decide +kernel
theorem dX2_price_39 : decode cX2_price 39 = .ok (.goto (-35), 3) := by decide +kernel
theorem dX2_price_42 : decode cX2_price 42 = .ok (.iload_n 1, 1) := by decide +kernel
theorem dX2_price_43 : decode cX2_price 43 = .ok (.ireturn, 1) := by decide +kernel
theorem dX2_fits_0 : decode cX2_fits 0 = .ok (.iconst 0, 1) := by decide +kernel
theorem dX2_fits_1 : decode cX2_fits 1 = .ok (.istore_n 2, 1) := by decide +kernel
theorem dX2_fits_2 : decode cX2_fits 2 = .ok (.iload_n 2, 1) := by decide +kernel
theorem dX2_fits_3 : decode cX2_fits 3 = .ok (.aload_n 0, 1) := by decide +kernel
theorem dX2_fits_4 : decode cX2_fits 4 = .ok (.getfield 37, 3) := by decide +kernel
theorem dX2_fits_7 : decode cX2_fits 7 = .ok (.if_icmp .ge 40, 3) := by decide +kernel
theorem dX2_fits_10 : decode cX2_fits 10 = .ok (.aload_n 0, 1) := by decide +kernel
theorem dX2_fits_11 : decode cX2_fits 11 = .ok (.getfield 9, 3) := by decide +kernel
theorem dX2_fits_14 : decode cX2_fits 14 = .ok (.iload_n 2, 1) := by decide +kernel
theorem dX2_fits_15 : decode cX2_fits 15 = .ok (.baload, 1) := by decide +kernel
theorem dX2_fits_16 : decode cX2_fits 16 = .ok (.ifCond .eq 25, 3) := by decide +kernel
theorem dX2_fits_19 : decode cX2_fits 19 = .ok (.aload_n 0, 1) := by decide +kernel
theorem dX2_fits_20 : decode cX2_fits 20 = .ok (.getfield 15, 3) := by decide +kernel
theorem dX2_fits_23 : decode cX2_fits 23 = .ok (.iload_n 2, 1) := by decide +kernel
theorem dX2_fits_24 : decode cX2_fits 24 = .ok (.iaload, 1) := by decide +kernel
theorem dX2_fits_25 : decode cX2_fits 25 = .ok (.aload_n 0, 1) := by decide +kernel
theorem dX2_fits_26 : decode cX2_fits 26 = .ok (.getfield 19, 3) := by decide +kernel
theorem dX2_fits_29 : decode cX2_fits 29 = .ok (.iload_n 2, 1) := by decide +kernel
theorem dX2_fits_30 : decode cX2_fits 30 = .ok (.iaload, 1) := by decide +kernel
theorem dX2_fits_31 : decode cX2_fits 31 = .ok (.iadd, 1) := by decide +kernel
theorem dX2_fits_32 : decode cX2_fits 32 = .ok (.aload_n 1, 1) := by decide +kernel
theorem dX2_fits_33 : decode cX2_fits 33 = .ok (.getfield 47, 3) := by decide +kernel
theorem dX2_fits_36 : decode cX2_fits 36 = .ok (.if_icmp .le 5, 3) := by decide +kernel
theorem dX2_fits_39 : decode cX2_fits 39 = .ok (.iconst 0, 1) := by decide +kernel
theorem dX2_fits_40 : decode cX2_fits 40 = .ok (.ireturn, 1) := by decide +kernel
theorem dX2_fits_41 : decode cX2_fits 41 = .ok (.iinc 2 1, 3) := by decide +kernel
theorem dX2_fits_44 : decode cX2_fits 44 = .ok (.goto (-42), 3) := by decide +kernel
theorem dX2_fits_47 : decode cX2_fits 47 = .ok (.iconst 1, 1) := by decide +kernel
theorem dX2_fits_48 : decode cX2_fits 48 = .ok (.ireturn, 1) := by decide +kernel
theorem dX2_give_0 : decode cX2_give 0 = .ok (.aload_n 2, 1) := by decide +kernel
theorem dX2_give_1 : decode cX2_give 1 = .ok (.iconst 0, 1) := by decide +kernel
theorem dX2_give_2 : decode cX2_give 2 = .ok (.putfield 47, 3) := by decide +kernel
theorem dX2_give_5 : decode cX2_give 5 = .ok (.iconst 0, 1) := by decide +kernel
theorem dX2_give_6 : decode cX2_give 6 = .ok (.istore_n 3, 1) := by decide +kernel
theorem dX2_give_7 : decode cX2_give 7 = .ok (.iload_n 3, 1) := by decide +kernel
theorem dX2_give_8 : decode cX2_give 8 = .ok (.aload_n 0, 1) := by decide +kernel
theorem dX2_give_9 : decode cX2_give 9 = .ok (.getfield 37, 3) := by decide +kernel
theorem dX2_give_12 : decode cX2_give 12 = .ok (.if_icmp .ge 42, 3) := by decide +kernel
theorem dX2_give_15 : decode cX2_give 15 = .ok (.aload_n 2, 1) := by decide +kernel
theorem dX2_give_16 : decode cX2_give 16 = .ok (.aload_n 0, 1) := by decide +kernel
theorem dX2_give_17 : decode cX2_give 17 = .ok (.getfield 9, 3) := by decide +kernel
theorem dX2_give_20 : decode cX2_give 20 = .ok (.iload_n 3, 1) := by decide +kernel
theorem dX2_give_21 : decode cX2_give 21 = .ok (.baload, 1) := by decide +kernel
theorem dX2_give_22 : decode cX2_give 22 = .ok (.ifCond .eq 7, 3) := by decide +kernel
theorem dX2_give_25 : decode cX2_give 25 = .ok (.aload_n 1, 1) := by decide +kernel
theorem dX2_give_26 : decode cX2_give 26 = .ok (.goto 7, 3) := by decide +kernel
theorem dX2_give_29 : decode cX2_give 29 = .ok (.aload_n 0, 1) := by decide +kernel
theorem dX2_give_30 : decode cX2_give 30 = .ok (.getfield 25, 3) := by decide +kernel
theorem dX2_give_33 : decode cX2_give 33 = .ok (.aload_n 0, 1) := by decide +kernel
theorem dX2_give_34 : decode cX2_give 34 = .ok (.getfield 15, 3) := by decide +kernel
theorem dX2_give_37 : decode cX2_give 37 = .ok (.iload_n 3, 1) := by decide +kernel
theorem dX2_give_38 : decode cX2_give 38 = .ok (.iaload, 1) := by decide +kernel
theorem dX2_give_39 : decode cX2_give 39 = .ok (.aload_n 0, 1) := by decide +kernel
theorem dX2_give_40 : decode cX2_give 40 = .ok (.getfield 19, 3) := by decide +kernel
theorem dX2_give_43 : decode cX2_give 43 = .ok (.iload_n 3, 1) := by decide +kernel
theorem dX2_give_44 : decode cX2_give 44 = .ok (.iaload, 1) := by decide +kernel
theorem dX2_give_45 : decode cX2_give 45 = .ok (.invokevirtual 107, 3) := by decide +kernel
theorem dX2_give_48 : decode cX2_give 48 = .ok (.iinc 3 1, 3) := by decide +kernel
theorem dX2_give_51 : decode cX2_give 51 = .ok (.goto (-44), 3) := by decide +kernel
theorem dX2_give_54 : decode cX2_give 54 = .ok (.return_, 1) := by decide +kernel
theorem dX3_init_0 : decode cX3_init 0 = .ok (.aload_n 0, 1) := by decide +kernel
theorem dX3_init_1 : decode cX3_init 1 = .ok (.invokespecial 1, 3) := by decide +kernel
theorem dX3_init_4 : decode cX3_init 4 = .ok (.aload_n 0, 1) := by decide +kernel
theorem dX3_init_5 : decode cX3_init 5 = .ok (.new 7, 3) := by decide +kernel
theorem dX3_init_8 : decode cX3_init 8 = .ok (.dup, 1) := by decide +kernel
theorem dX3_init_9 : decode cX3_init 9 = .ok (.invokespecial 9, 3) := by decide +kernel
theorem dX3_init_12 : decode cX3_init 12 = .ok (.putfield 10, 3) := by decide +kernel
theorem dX3_init_15 : decode cX3_init 15 = .ok (.return_, 1) := by decide +kernel
theorem dX3_writeTo_0 : decode cX3_writeTo 0 = .ok (.aload_n 1, 1) := by decide +kernel
theorem dX3_writeTo_1 : decode cX3_writeTo 1 = .ok (.iconst 0, 1) := by decide +kernel
theorem dX3_writeTo_2 : decode cX3_writeTo 2 = .ok (.putfield 16, 3) := by decide +kernel
theorem dX3_writeTo_5 : decode cX3_writeTo 5 = .ok (.iconst 0, 1) := by decide +kernel
theorem dX3_writeTo_6 : decode cX3_writeTo 6 = .ok (.istore_n 2, 1) := by decide +kernel
theorem dX3_writeTo_7 : decode cX3_writeTo 7 = .ok (.iload_n 2, 1) := by decide +kernel
theorem dX3_writeTo_8 : decode cX3_writeTo 8 = .ok (.aload_n 0, 1) := by decide +kernel
theorem dX3_writeTo_9 : decode cX3_writeTo 9 = .ok (.getfield 10, 3) := by decide +kernel
theorem dX3_writeTo_12 : decode cX3_writeTo 12 = .ok (.invokevirtual 22, 3) := by decide +kernel
theorem dX3_writeTo_15 : decode cX3_writeTo 15 = .ok (.if_icmp .ge 50, 3) := by decide +kernel
theorem dX3_writeTo_18 : decode cX3_writeTo 18 = .ok (.aload_n 0, 1) := by decide +kernel
theorem dX3_writeTo_19 : decode cX3_writeTo 19 = .ok (.getfield 10, 3) := by decide +kernel
theorem dX3_writeTo_22 : decode cX3_writeTo 22 = .ok (.iload_n 2, 1) := by decide +kernel
theorem dX3_writeTo_23 : decode cX3_writeTo 23 = .ok (.invokevirtual 25, 3) := by decide +kernel
theorem dX3_writeTo_26 : decode cX3_writeTo 26 = .ok (.checkcast 29, 3) := by decide +kernel
theorem dX3_writeTo_29 : decode cX3_writeTo 29 = .ok (.astore_n 3, 1) := by decide +kernel
theorem dX3_writeTo_30 : decode cX3_writeTo 30 = .ok (.iconst 0, 1) := by decide +kernel
theorem dX3_writeTo_31 : decode cX3_writeTo 31 = .ok (.istore 4, 2) := by decide +kernel
theorem dX3_writeTo_33 : decode cX3_writeTo 33 = .ok (.iload 4, 2) := by decide +kernel
theorem dX3_writeTo_35 : decode cX3_writeTo 35 = .ok (.aload_n 3, 1) := by decide +kernel
theorem dX3_writeTo_36 : decode cX3_writeTo 36 = .ok (.getfield 31, 3) := by decide +kernel
theorem dX3_writeTo_39 : decode cX3_writeTo 39 = .ok (.if_icmp .ge 20, 3) := by decide +kernel
theorem dX3_writeTo_42 : decode cX3_writeTo 42 = .ok (.aload_n 1, 1) := by decide +kernel
theorem dX3_writeTo_43 : decode cX3_writeTo 43 = .ok (.aload_n 3, 1) := by decide +kernel
theorem dX3_writeTo_44 : decode cX3_writeTo 44 = .ok (.getfield 32, 3) := by decide +kernel
theorem dX3_writeTo_47 : decode cX3_writeTo 47 = .ok (.iload 4, 2) := by decide +kernel
theorem dX3_writeTo_49 : decode cX3_writeTo 49 = .ok (.iaload, 1) := by decide +kernel
theorem dX3_writeTo_50 : decode cX3_writeTo 50 = .ok (.invokevirtual 36, 3) := by decide +kernel
theorem dX3_writeTo_53 : decode cX3_writeTo 53 = .ok (.iinc 4 1, 3) := by decide +kernel
theorem dX3_writeTo_56 : decode cX3_writeTo 56 = .ok (.goto (-23), 3) := by decide +kernel
theorem dX3_writeTo_59 : decode cX3_writeTo 59 = .ok (.iinc 2 1, 3) := by decide +kernel
theorem dX3_writeTo_62 : decode cX3_writeTo 62 = .ok (.goto (-55), 3) := by decide +kernel
theorem dX3_writeTo_65 : decode cX3_writeTo 65 = .ok (.return_, 1) := by decide +kernel
theorem dX4_init_0 : decode cX4_init 0 = .ok (.aload_n 0, 1) := by decide +kernel
theorem dX4_init_1 : decode cX4_init 1 = .ok (.invokespecial 3, 3) := by decide +kernel
theorem dX4_init_4 : decode cX4_init 4 = .ok (.aload_n 0, 1) := by decide +kernel
theorem dX4_init_5 : decode cX4_init 5 = .ok (.bipush 120, 2) := by decide +kernel
theorem dX4_init_7 : decode cX4_init 7 = .ok (.newarray .int, 2) := by decide +kernel
theorem dX4_init_9 : decode cX4_init 9 = .ok (.putfield 9, 3) := by decide +kernel
theorem dX4_init_12 : decode cX4_init 12 = .ok (.return_, 1) := by decide +kernel
theorem dX4_at_0 : decode cX4_at 0 = .ok (.iload_n 1, 1) := by decide +kernel
theorem dX4_at_1 : decode cX4_at 1 = .ok (.ifCond .lt 20, 3) := by decide +kernel
theorem dX4_at_4 : decode cX4_at 4 = .ok (.iload_n 1, 1) := by decide +kernel
theorem dX4_at_5 : decode cX4_at 5 = .ok (.aload_n 0, 1) := by decide +kernel
theorem dX4_at_6 : decode cX4_at 6 = .ok (.getfield 15, 3) := by decide +kernel
theorem dX4_at_9 : decode cX4_at 9 = .ok (.if_icmp .ge 12, 3) := by decide +kernel
theorem dX4_at_12 : decode cX4_at 12 = .ok (.aload_n 0, 1) := by decide +kernel
theorem dX4_at_13 : decode cX4_at 13 = .ok (.getfield 9, 3) := by decide +kernel
theorem dX4_at_16 : decode cX4_at 16 = .ok (.iload_n 1, 1) := by decide +kernel
theorem dX4_at_17 : decode cX4_at 17 = .ok (.iaload, 1) := by decide +kernel
theorem dX4_at_18 : decode cX4_at 18 = .ok (.goto 4, 3) := by decide +kernel
theorem dX4_at_21 : decode cX4_at 21 = .ok (.iconst 0, 1) := by decide +kernel
theorem dX4_at_22 : decode cX4_at 22 = .ok (.ireturn, 1) := by decide +kernel
theorem dX4_append_0 : decode cX4_append 0 = .ok (.aload_n 0, 1) := by decide +kernel
theorem dX4_append_1 : decode cX4_append 1 = .ok (.getfield 15, 3) := by decide +kernel
theorem dX4_append_4 : decode cX4_append 4 = .ok (.aload_n 0, 1) := by decide +kernel
theorem dX4_append_5 : decode cX4_append 5 = .ok (.getfield 9, 3) := by decide +kernel
theorem dX4_append_8 : decode cX4_append 8 = .ok (.arraylength, 1) := by decide +kernel
theorem dX4_append_9 : decode cX4_append 9 = .ok (.if_icmp .ge 23, 3) := by decide +kernel
theorem dX4_append_12 : decode cX4_append 12 = .ok (.aload_n 0, 1) := by decide +kernel
theorem dX4_append_13 : decode cX4_append 13 = .ok (.getfield 9, 3) := by decide +kernel
theorem dX4_append_16 : decode cX4_append 16 = .ok (.aload_n 0, 1) := by decide +kernel
theorem dX4_append_17 : decode cX4_append 17 = .ok (.getfield 15, 3) := by decide +kernel
theorem dX4_append_20 : decode cX4_append 20 = .ok (.iload_n 1, 1) := by decide +kernel
theorem dX4_append_21 : decode cX4_append 21 = .ok (.iastore, 1) := by decide +kernel
theorem dX4_append_22 : decode cX4_append 22 = .ok (.aload_n 0, 1) := by decide +kernel
theorem dX4_append_23 : decode cX4_append 23 = .ok (.dup, 1) := by decide +kernel
theorem dX4_append_24 : decode cX4_append 24 = .ok (.getfield 15, 3) := by decide +kernel
theorem dX4_append_27 : decode cX4_append 27 = .ok (.iconst 1, 1) := by decide +kernel
theorem dX4_append_28 : decode cX4_append 28 = .ok (.iadd, 1) := by decide +kernel
theorem dX4_append_29 : decode cX4_append 29 = .ok (.putfield 15, 3) := by decide +kernel
theorem dX4_append_32 : decode cX4_append 32 = .ok (.return_, 1) := by decide +kernel
theorem dX4_appendFrom_0 : decode cX4_appendFrom 0 = .ok (.iconst 0, 1) := by decide +kernel
theorem dX4_appendFrom_1 : decode cX4_appendFrom 1 = .ok (.istore 4, 2) := by decide +kernel
theorem dX4_appendFrom_3 : decode cX4_appendFrom 3 = .ok (.iload 4, 2) := by decide +kernel
theorem dX4_appendFrom_5 : decode cX4_appendFrom 5 = .ok (.iload_n 3, 1) := by decide +kernel
theorem dX4_appendFrom_6 : decode cX4_appendFrom 6 = .ok (.if_icmp .ge 21, 3) := by decide +kernel
theorem dX4_appendFrom_9 : decode cX4_appendFrom 9 = .ok (.aload_n 0, 1) := by decide +kernel
theorem dX4_appendFrom_10 : decode cX4_appendFrom 10 = .ok (.aload_n 1, 1) := by decide +kernel
theorem dX4_appendFrom_11 : decode cX4_appendFrom 11 = .ok (.iload_n 2, 1) := by decide +kernel
theorem dX4_appendFrom_12 : decode cX4_appendFrom 12 = .ok (.iload 4, 2) := by decide +kernel
theorem dX4_appendFrom_14 : decode cX4_appendFrom 14 = .ok (.iadd, 1) := by decide +kernel
theorem dX4_appendFrom_15 : decode cX4_appendFrom 15 = .ok (.invokevirtual 19, 3) := by decide +kernel
theorem dX4_appendFrom_18 : decode cX4_appendFrom 18 = .ok (.invokevirtual 23, 3) := by decide +kernel
theorem dX4_appendFrom_21 : decode cX4_appendFrom 21 = .ok (.iinc 4 1, 3) := by decide +kernel
theorem dX4_appendFrom_24 : decode cX4_appendFrom 24 = .ok (.goto (-21), 3) := by decide +kernel
theorem dX4_appendFrom_27 : decode cX4_appendFrom 27 = .ok (.return_, 1) := by decide +kernel
theorem dX4_become_0 : decode cX4_become 0 = .ok (.iconst 0, 1) := by decide +kernel
theorem dX4_become_1 : decode cX4_become 1 = .ok (.istore_n 2, 1) := by decide +kernel
theorem dX4_become_2 : decode cX4_become 2 = .ok (.iload_n 2, 1) := by decide +kernel
theorem dX4_become_3 : decode cX4_become 3 = .ok (.aload_n 1, 1) := by decide +kernel
theorem dX4_become_4 : decode cX4_become 4 = .ok (.getfield 15, 3) := by decide +kernel
theorem dX4_become_7 : decode cX4_become 7 = .ok (.if_icmp .ge 21, 3) := by decide +kernel
theorem dX4_become_10 : decode cX4_become 10 = .ok (.aload_n 0, 1) := by decide +kernel
theorem dX4_become_11 : decode cX4_become 11 = .ok (.getfield 9, 3) := by decide +kernel
theorem dX4_become_14 : decode cX4_become 14 = .ok (.iload_n 2, 1) := by decide +kernel
theorem dX4_become_15 : decode cX4_become 15 = .ok (.aload_n 1, 1) := by decide +kernel
theorem dX4_become_16 : decode cX4_become 16 = .ok (.getfield 9, 3) := by decide +kernel
theorem dX4_become_19 : decode cX4_become 19 = .ok (.iload_n 2, 1) := by decide +kernel
theorem dX4_become_20 : decode cX4_become 20 = .ok (.iaload, 1) := by decide +kernel
theorem dX4_become_21 : decode cX4_become 21 = .ok (.iastore, 1) := by decide +kernel
theorem dX4_become_22 : decode cX4_become 22 = .ok (.iinc 2 1, 3) := by decide +kernel
theorem dX4_become_25 : decode cX4_become 25 = .ok (.goto (-23), 3) := by decide +kernel
theorem dX4_become_28 : decode cX4_become 28 = .ok (.aload_n 0, 1) := by decide +kernel
theorem dX4_become_29 : decode cX4_become 29 = .ok (.aload_n 1, 1) := by decide +kernel
theorem dX4_become_30 : decode cX4_become 30 = .ok (.getfield 15, 3) := by decide +kernel
theorem dX4_become_33 : decode cX4_become 33 = .ok (.putfield 15, 3) := by decide +kernel
theorem dX4_become_36 : decode cX4_become 36 = .ok (.return_, 1) := by decide +kernel
theorem dX4_putIn_0 : decode cX4_putIn 0 = .ok (.aload_n 0, 1) := by decide +kernel
theorem dX4_putIn_1 : decode cX4_putIn 1 = .ok (.iload_n 2, 1) := by decide +kernel
theorem dX4_putIn_2 : decode cX4_putIn 2 = .ok (.invokevirtual 23, 3) := by decide +kernel
theorem dX4_putIn_5 : decode cX4_putIn 5 = .ok (.aload_n 0, 1) := by decide +kernel
theorem dX4_putIn_6 : decode cX4_putIn 6 = .ok (.getfield 15, 3) := by decide +kernel
theorem dX4_putIn_9 : decode cX4_putIn 9 = .ok (.iconst 1, 1) := by decide +kernel
theorem dX4_putIn_10 : decode cX4_putIn 10 = .ok (.isub, 1) := by decide +kernel
theorem dX4_putIn_11 : decode cX4_putIn 11 = .ok (.istore_n 3, 1) := by decide +kernel
theorem dX4_putIn_12 : decode cX4_putIn 12 = .ok (.iload_n 3, 1) := by decide +kernel
theorem dX4_putIn_13 : decode cX4_putIn 13 = .ok (.iload_n 1, 1) := by decide +kernel
theorem dX4_putIn_14 : decode cX4_putIn 14 = .ok (.if_icmp .le 23, 3) := by decide +kernel
theorem dX4_putIn_17 : decode cX4_putIn 17 = .ok (.aload_n 0, 1) := by decide +kernel
theorem dX4_putIn_18 : decode cX4_putIn 18 = .ok (.getfield 9, 3) := by decide +kernel
theorem dX4_putIn_21 : decode cX4_putIn 21 = .ok (.iload_n 3, 1) := by decide +kernel
theorem dX4_putIn_22 : decode cX4_putIn 22 = .ok (.aload_n 0, 1) := by decide +kernel
theorem dX4_putIn_23 : decode cX4_putIn 23 = .ok (.getfield 9, 3) := by decide +kernel
theorem dX4_putIn_26 : decode cX4_putIn 26 = .ok (.iload_n 3, 1) := by decide +kernel
theorem dX4_putIn_27 : decode cX4_putIn 27 = .ok (.iconst 1, 1) := by decide +kernel
theorem dX4_putIn_28 : decode cX4_putIn 28 = .ok (.isub, 1) := by decide +kernel
theorem dX4_putIn_29 : decode cX4_putIn 29 = .ok (.iaload, 1) := by decide +kernel
theorem dX4_putIn_30 : decode cX4_putIn 30 = .ok (.iastore, 1) := by decide +kernel
theorem dX4_putIn_31 : decode cX4_putIn 31 = .ok (.iinc 3 (-1), 3) := by decide +kernel
theorem dX4_putIn_34 : decode cX4_putIn 34 = .ok (.goto (-22), 3) := by decide +kernel
theorem dX4_putIn_37 : decode cX4_putIn 37 = .ok (.aload_n 0, 1) := by decide +kernel
theorem dX4_putIn_38 : decode cX4_putIn 38 = .ok (.getfield 9, 3) := by decide +kernel
theorem dX4_putIn_41 : decode cX4_putIn 41 = .ok (.iload_n 1, 1) := by decide +kernel
theorem dX4_putIn_42 : decode cX4_putIn 42 = .ok (.iload_n 2, 1) := by decide +kernel
theorem dX4_putIn_43 : decode cX4_putIn 43 = .ok (.iastore, 1) := by decide +kernel
theorem dX4_putIn_44 : decode cX4_putIn 44 = .ok (.return_, 1) := by decide +kernel
theorem dX4_takeOut_0 : decode cX4_takeOut 0 = .ok (.iload_n 1, 1) := by decide +kernel
theorem dX4_takeOut_1 : decode cX4_takeOut 1 = .ok (.istore_n 3, 1) := by decide +kernel
theorem dX4_takeOut_2 : decode cX4_takeOut 2 = .ok (.iload_n 3, 1) := by decide +kernel
theorem dX4_takeOut_3 : decode cX4_takeOut 3 = .ok (.iload_n 2, 1) := by decide +kernel
theorem dX4_takeOut_4 : decode cX4_takeOut 4 = .ok (.iadd, 1) := by decide +kernel
theorem dX4_takeOut_5 : decode cX4_takeOut 5 = .ok (.aload_n 0, 1) := by decide +kernel
theorem dX4_takeOut_6 : decode cX4_takeOut 6 = .ok (.getfield 15, 3) := by decide +kernel
theorem dX4_takeOut_9 : decode cX4_takeOut 9 = .ok (.if_icmp .ge 23, 3) := by decide +kernel
theorem dX4_takeOut_12 : decode cX4_takeOut 12 = .ok (.aload_n 0, 1) := by decide +kernel
theorem dX4_takeOut_13 : decode cX4_takeOut 13 = .ok (.getfield 9, 3) := by decide +kernel
theorem dX4_takeOut_16 : decode cX4_takeOut 16 = .ok (.iload_n 3, 1) := by decide +kernel
theorem dX4_takeOut_17 : decode cX4_takeOut 17 = .ok (.aload_n 0, 1) := by decide +kernel
theorem dX4_takeOut_18 : decode cX4_takeOut 18 = .ok (.getfield 9, 3) := by decide +kernel
theorem dX4_takeOut_21 : decode cX4_takeOut 21 = .ok (.iload_n 3, 1) := by decide +kernel
theorem dX4_takeOut_22 : decode cX4_takeOut 22 = .ok (.iload_n 2, 1) := by decide +kernel
theorem dX4_takeOut_23 : decode cX4_takeOut 23 = .ok (.iadd, 1) := by decide +kernel
theorem dX4_takeOut_24 : decode cX4_takeOut 24 = .ok (.iaload, 1) := by decide +kernel
theorem dX4_takeOut_25 : decode cX4_takeOut 25 = .ok (.iastore, 1) := by decide +kernel
theorem dX4_takeOut_26 : decode cX4_takeOut 26 = .ok (.iinc 3 1, 3) := by decide +kernel
theorem dX4_takeOut_29 : decode cX4_takeOut 29 = .ok (.goto (-27), 3) := by decide +kernel
theorem dX4_takeOut_32 : decode cX4_takeOut 32 = .ok (.aload_n 0, 1) := by decide +kernel
theorem dX4_takeOut_33 : decode cX4_takeOut 33 = .ok (.dup, 1) := by decide +kernel
theorem dX4_takeOut_34 : decode cX4_takeOut 34 = .ok (.getfield 15, 3) := by decide +kernel
theorem dX4_takeOut_37 : decode cX4_takeOut 37 = .ok (.iload_n 2, 1) := by decide +kernel
theorem dX4_takeOut_38 : decode cX4_takeOut 38 = .ok (.isub, 1) := by decide +kernel
theorem dX4_takeOut_39 : decode cX4_takeOut 39 = .ok (.putfield 15, 3) := by decide +kernel
theorem dX4_takeOut_42 : decode cX4_takeOut 42 = .ok (.return_, 1) := by decide +kernel
theorem dX4_hasBytesOf_0 : decode cX4_hasBytesOf 0 = .ok (.aload_n 0, 1) := by decide +kernel
theorem dX4_hasBytesOf_1 : decode cX4_hasBytesOf 1 = .ok (.getfield 15, 3) := by decide +kernel
theorem dX4_hasBytesOf_4 : decode cX4_hasBytesOf 4 = .ok (.aload_n 1, 1) := by decide +kernel
theorem dX4_hasBytesOf_5 : decode cX4_hasBytesOf 5 = .ok (.getfield 15, 3) := by decide +kernel
theorem dX4_hasBytesOf_8 : decode cX4_hasBytesOf 8 = .ok (.if_icmp .eq 5, 3) := by decide +kernel
theorem dX4_hasBytesOf_11 : decode cX4_hasBytesOf 11 = .ok (.iconst 0, 1) := by decide +kernel
theorem dX4_hasBytesOf_12 : decode cX4_hasBytesOf 12 = .ok (.ireturn, 1) := by decide +kernel
theorem dX4_hasBytesOf_13 : decode cX4_hasBytesOf 13 = .ok (.iconst 0, 1) := by decide +kernel
theorem dX4_hasBytesOf_14 : decode cX4_hasBytesOf 14 = .ok (.istore_n 2, 1) := by decide +kernel
theorem dX4_hasBytesOf_15 : decode cX4_hasBytesOf 15 = .ok (.iload_n 2, 1) := by decide +kernel
theorem dX4_hasBytesOf_16 : decode cX4_hasBytesOf 16 = .ok (.aload_n 0, 1) := by decide +kernel
theorem dX4_hasBytesOf_17 : decode cX4_hasBytesOf 17 = .ok (.getfield 15, 3) := by decide +kernel
theorem dX4_hasBytesOf_20 : decode cX4_hasBytesOf 20 = .ok (.if_icmp .ge 26, 3) := by decide +kernel
theorem dX4_hasBytesOf_23 : decode cX4_hasBytesOf 23 = .ok (.aload_n 0, 1) := by decide +kernel
theorem dX4_hasBytesOf_24 : decode cX4_hasBytesOf 24 = .ok (.getfield 9, 3) := by decide +kernel
theorem dX4_hasBytesOf_27 : decode cX4_hasBytesOf 27 = .ok (.iload_n 2, 1) := by decide +kernel
theorem dX4_hasBytesOf_28 : decode cX4_hasBytesOf 28 = .ok (.iaload, 1) := by decide +kernel
theorem dX4_hasBytesOf_29 : decode cX4_hasBytesOf 29 = .ok (.aload_n 1, 1) := by decide +kernel
theorem dX4_hasBytesOf_30 : decode cX4_hasBytesOf 30 = .ok (.getfield 9, 3) := by decide +kernel
theorem dX4_hasBytesOf_33 : decode cX4_hasBytesOf 33 = .ok (.iload_n 2, 1) := by decide +kernel
theorem dX4_hasBytesOf_34 : decode cX4_hasBytesOf 34 = .ok (.iaload, 1) := by decide +kernel
theorem dX4_hasBytesOf_35 : decode cX4_hasBytesOf 35 = .ok (.if_icmp .eq 5, 3) := by decide +kernel
theorem dX4_hasBytesOf_38 : decode cX4_hasBytesOf 38 = .ok (.iconst 0, 1) := by decide +kernel
theorem dX4_hasBytesOf_39 : decode cX4_hasBytesOf 39 = .ok (.ireturn, 1) := by decide +kernel
theorem dX4_hasBytesOf_40 : decode cX4_hasBytesOf 40 = .ok (.iinc 2 1, 3) := by decide +kernel
theorem dX4_hasBytesOf_43 : decode cX4_hasBytesOf 43 = .ok (.goto (-28), 3) := by decide +kernel
theorem dX4_hasBytesOf_46 : decode cX4_hasBytesOf 46 = .ok (.iconst 1, 1) := by decide +kernel
theorem dX4_hasBytesOf_47 : decode cX4_hasBytesOf 47 = .ok (.ireturn, 1) := by decide +kernel
theorem dX4_weakSum_0 : decode cX4_weakSum 0 = .ok (.iconst 0, 1) := by decide +kernel
theorem dX4_weakSum_1 : decode cX4_weakSum 1 = .ok (.istore 4, 2) := by decide +kernel
theorem dX4_weakSum_3 : decode cX4_weakSum 3 = .ok (.iconst 0, 1) := by decide +kernel
theorem dX4_weakSum_4 : decode cX4_weakSum 4 = .ok (.istore 5, 2) := by decide +kernel
theorem dX4_weakSum_6 : decode cX4_weakSum 6 = .ok (.iconst 0, 1) := by decide +kernel
theorem dX4_weakSum_7 : decode cX4_weakSum 7 = .ok (.istore 6, 2) := by decide +kernel
theorem dX4_weakSum_9 : decode cX4_weakSum 9 = .ok (.iload 6, 2) := by decide +kernel
theorem dX4_weakSum_11 : decode cX4_weakSum 11 = .ok (.iload_n 2, 1) := by decide +kernel
theorem dX4_weakSum_12 : decode cX4_weakSum 12 = .ok (.if_icmp .ge 40, 3) := by decide +kernel
theorem dX4_weakSum_15 : decode cX4_weakSum 15 = .ok (.iload 4, 2) := by decide +kernel
theorem dX4_weakSum_17 : decode cX4_weakSum 17 = .ok (.aload_n 0, 1) := by decide +kernel
theorem dX4_weakSum_18 : decode cX4_weakSum 18 = .ok (.iload_n 1, 1) := by decide +kernel
theorem dX4_weakSum_19 : decode cX4_weakSum 19 = .ok (.iload 6, 2) := by decide +kernel
theorem dX4_weakSum_21 : decode cX4_weakSum 21 = .ok (.iadd, 1) := by decide +kernel
theorem dX4_weakSum_22 : decode cX4_weakSum 22 = .ok (.invokevirtual 19, 3) := by decide +kernel
theorem dX4_weakSum_25 : decode cX4_weakSum 25 = .ok (.iadd, 1) := by decide +kernel
theorem dX4_weakSum_26 : decode cX4_weakSum 26 = .ok (.istore 4, 2) := by decide +kernel
theorem dX4_weakSum_28 : decode cX4_weakSum 28 = .ok (.iload 5, 2) := by decide +kernel
theorem dX4_weakSum_30 : decode cX4_weakSum 30 = .ok (.iload_n 2, 1) := by decide +kernel
theorem dX4_weakSum_31 : decode cX4_weakSum 31 = .ok (.iload 6, 2) := by decide +kernel
theorem dX4_weakSum_33 : decode cX4_weakSum 33 = .ok (.isub, 1) := by decide +kernel
theorem dX4_weakSum_34 : decode cX4_weakSum 34 = .ok (.aload_n 0, 1) := by decide +kernel
theorem dX4_weakSum_35 : decode cX4_weakSum 35 = .ok (.iload_n 1, 1) := by decide +kernel
theorem dX4_weakSum_36 : decode cX4_weakSum 36 = .ok (.iload 6, 2) := by decide +kernel
theorem dX4_weakSum_38 : decode cX4_weakSum 38 = .ok (.iadd, 1) := by decide +kernel
theorem dX4_weakSum_39 : decode cX4_weakSum 39 = .ok (.invokevirtual 19, 3) := by decide +kernel
theorem dX4_weakSum_42 : decode cX4_weakSum 42 = .ok (.imul, 1) := by decide +kernel
theorem dX4_weakSum_43 : decode cX4_weakSum 43 = .ok (.iadd, 1) := by decide +kernel
theorem dX4_weakSum_44 : decode cX4_weakSum 44 = .ok (.istore 5, 2) := by decide +kernel
theorem dX4_weakSum_46 : decode cX4_weakSum 46 = .ok (.iinc 6 1, 3) := by decide +kernel
theorem dX4_weakSum_49 : decode cX4_weakSum 49 = .ok (.goto (-40), 3) := by decide +kernel
theorem dX4_weakSum_52 : decode cX4_weakSum 52 = .ok (.iload 5, 2) := by decide +kernel
theorem dX4_weakSum_54 : decode cX4_weakSum 54 = .ok (.iload_n 3, 1) := by decide +kernel
theorem dX4_weakSum_55 : decode cX4_weakSum 55 = .ok (.irem, 1) := by decide +kernel
theorem dX4_weakSum_56 : decode cX4_weakSum 56 = .ok (.iload_n 3, 1) := by decide +kernel
theorem dX4_weakSum_57 : decode cX4_weakSum 57 = .ok (.imul, 1) := by decide +kernel
theorem dX4_weakSum_58 : decode cX4_weakSum 58 = .ok (.iload 4, 2) := by decide +kernel
theorem dX4_weakSum_60 : decode cX4_weakSum 60 = .ok (.iload_n 3, 1) := by decide +kernel
theorem dX4_weakSum_61 : decode cX4_weakSum 61 = .ok (.irem, 1) := by decide +kernel
theorem dX4_weakSum_62 : decode cX4_weakSum 62 = .ok (.iadd, 1) := by decide +kernel
theorem dX4_weakSum_63 : decode cX4_weakSum 63 = .ok (.ireturn, 1) := by decide +kernel
theorem dX4_strongSum_0 : decode cX4_strongSum 0 = .ok (.lconst 0, 1) := by decide +kernel
theorem dX4_strongSum_1 : decode cX4_strongSum 1 = .ok (.lstore_n 3, 1) := by decide +kernel
theorem dX4_strongSum_2 : decode cX4_strongSum 2 = .ok (.iload_n 2, 1) := by decide +kernel
theorem dX4_strongSum_3 : decode cX4_strongSum 3 = .ok (.iconst 1, 1) := by decide +kernel
theorem dX4_strongSum_4 : decode cX4_strongSum 4 = .ok (.isub, 1) := by decide +kernel
theorem dX4_strongSum_5 : decode cX4_strongSum 5 = .ok (.istore 5, 2) := by decide +kernel
theorem dX4_strongSum_7 : decode cX4_strongSum 7 = .ok (.iload 5, 2) := by decide +kernel
theorem dX4_strongSum_9 : decode cX4_strongSum 9 = .ok (.ifCond .lt 27, 3) := by decide +kernel
theorem dX4_strongSum_12 : decode cX4_strongSum 12 = .ok (.lload_n 3, 1) := by decide +kernel
theorem dX4_strongSum_13 : decode cX4_strongSum 13 = .ok (.ldc2_w 27, 3) := by decide +kernel
theorem dX4_strongSum_16 : decode cX4_strongSum 16 = .ok (.lmul, 1) := by decide +kernel
theorem dX4_strongSum_17 : decode cX4_strongSum 17 = .ok (.aload_n 0, 1) := by decide +kernel
theorem dX4_strongSum_18 : decode cX4_strongSum 18 = .ok (.iload_n 1, 1) := by decide +kernel
theorem dX4_strongSum_19 : decode cX4_strongSum 19 = .ok (.iload 5, 2) := by decide +kernel
theorem dX4_strongSum_21 : decode cX4_strongSum 21 = .ok (.iadd, 1) := by decide +kernel
theorem dX4_strongSum_22 : decode cX4_strongSum 22 = .ok (.invokevirtual 19, 3) := by decide +kernel
theorem dX4_strongSum_25 : decode cX4_strongSum 25 = .ok (.i2l, 1) := by decide +kernel
theorem dX4_strongSum_26 : decode cX4_strongSum 26 = .ok (.ladd, 1) := by decide +kernel
theorem dX4_strongSum_27 : decode cX4_strongSum 27 = .ok (.lconst 1, 1) := by decide +kernel
theorem dX4_strongSum_28 : decode cX4_strongSum 28 = .ok (.ladd, 1) := by decide +kernel
theorem dX4_strongSum_29 : decode cX4_strongSum 29 = .ok (.lstore_n 3, 1) := by decide +kernel
theorem dX4_strongSum_30 : decode cX4_strongSum 30 = .ok (.iinc 5 (-1), 3) := by decide +kernel
theorem dX4_strongSum_33 : decode cX4_strongSum 33 = .ok (.goto (-26), 3) := by decide +kernel
theorem dX4_strongSum_36 : decode cX4_strongSum 36 = .ok (.lload_n 3, 1) := by decide +kernel
theorem dX4_strongSum_37 : decode cX4_strongSum 37 = .ok (.lreturn, 1) := by decide +kernel
theorem dX5_init_0 : decode cX5_init 0 = .ok (.aload_n 0, 1) := by decide +kernel
theorem dX5_init_1 : decode cX5_init 1 = .ok (.invokespecial 3, 3) := by decide +kernel
theorem dX5_init_4 : decode cX5_init 4 = .ok (.aload_n 0, 1) := by decide +kernel
theorem dX5_init_5 : decode cX5_init 5 = .ok (.bipush 12, 2) := by decide +kernel
theorem dX5_init_7 : decode cX5_init 7 = .ok (.anewarray 9, 3) := by decide +kernel
theorem dX5_init_10 : decode cX5_init 10 = .ok (.putfield 11, 3) := by decide +kernel
theorem dX5_init_13 : decode cX5_init 13 = .ok (.aload_n 0, 1) := by decide +kernel
theorem dX5_init_14 : decode cX5_init 14 = .ok (.new 17, 3) := by decide +kernel
theorem dX5_init_17 : decode cX5_init 17 = .ok (.dup, 1) := by decide +kernel
theorem dX5_init_18 : decode cX5_init 18 = .ok (.invokespecial 19, 3) := by decide +kernel
theorem dX5_init_21 : decode cX5_init 21 = .ok (.putfield 20, 3) := by decide +kernel
theorem dX5_init_24 : decode cX5_init 24 = .ok (.aload_n 0, 1) := by decide +kernel
theorem dX5_init_25 : decode cX5_init 25 = .ok (.iconst 4, 1) := by decide +kernel
theorem dX5_init_26 : decode cX5_init 26 = .ok (.putfield 24, 3) := by decide +kernel
theorem dX5_init_29 : decode cX5_init 29 = .ok (.aload_n 0, 1) := by decide +kernel
theorem dX5_init_30 : decode cX5_init 30 = .ok (.bipush 16, 2) := by decide +kernel
theorem dX5_init_32 : decode cX5_init 32 = .ok (.putfield 28, 3) := by decide +kernel
theorem dX5_init_35 : decode cX5_init 35 = .ok (.aload_n 0, 1) := by decide +kernel
theorem dX5_init_36 : decode cX5_init 36 = .ok (.bipush 8, 2) := by decide +kernel
theorem dX5_init_38 : decode cX5_init 38 = .ok (.putfield 31, 3) := by decide +kernel
theorem dX5_init_41 : decode cX5_init 41 = .ok (.iconst 0, 1) := by decide +kernel
theorem dX5_init_42 : decode cX5_init 42 = .ok (.istore_n 1, 1) := by decide +kernel
theorem dX5_init_43 : decode cX5_init 43 = .ok (.iload_n 1, 1) := by decide +kernel
theorem dX5_init_44 : decode cX5_init 44 = .ok (.aload_n 0, 1) := by decide +kernel
theorem dX5_init_45 : decode cX5_init 45 = .ok (.getfield 11, 3) := by decide +kernel
theorem dX5_init_48 : decode cX5_init 48 = .ok (.arraylength, 1) := by decide +kernel
theorem dX5_init_49 : decode cX5_init 49 = .ok (.if_icmp .ge 22, 3) := by decide +kernel
theorem dX5_init_52 : decode cX5_init 52 = .ok (.aload_n 0, 1) := by decide +kernel
theorem dX5_init_53 : decode cX5_init 53 = .ok (.getfield 11, 3) := by decide +kernel
theorem dX5_init_56 : decode cX5_init 56 = .ok (.iload_n 1, 1) := by decide +kernel
theorem dX5_init_57 : decode cX5_init 57 = .ok (.new 9, 3) := by decide +kernel
theorem dX5_init_60 : decode cX5_init 60 = .ok (.dup, 1) := by decide +kernel
theorem dX5_init_61 : decode cX5_init 61 = .ok (.invokespecial 34, 3) := by decide +kernel
theorem dX5_init_64 : decode cX5_init 64 = .ok (.aastore, 1) := by decide +kernel
theorem dX5_init_65 : decode cX5_init 65 = .ok (.iinc 1 1, 3) := by decide +kernel
theorem dX5_init_68 : decode cX5_init 68 = .ok (.goto (-25), 3) := by decide +kernel
theorem dX5_init_71 : decode cX5_init 71 = .ok (.return_, 1) := by decide +kernel
theorem dX5_lowestFree_0 : decode cX5_lowestFree 0 = .ok (.iconst 0, 1) := by decide +kernel
theorem dX5_lowestFree_1 : decode cX5_lowestFree 1 = .ok (.istore_n 1, 1) := by decide +kernel
theorem dX5_lowestFree_2 : decode cX5_lowestFree 2 = .ok (.iload_n 1, 1) := by decide +kernel
theorem dX5_lowestFree_3 : decode cX5_lowestFree 3 = .ok (.aload_n 0, 1) := by decide +kernel
theorem dX5_lowestFree_4 : decode cX5_lowestFree 4 = .ok (.getfield 11, 3) := by decide +kernel
theorem dX5_lowestFree_7 : decode cX5_lowestFree 7 = .ok (.arraylength, 1) := by decide +kernel
theorem dX5_lowestFree_8 : decode cX5_lowestFree 8 = .ok (.if_icmp .ge 23, 3) := by decide +kernel
theorem dX5_lowestFree_11 : decode cX5_lowestFree 11 = .ok (.aload_n 0, 1) := by decide +kernel
theorem dX5_lowestFree_12 : decode cX5_lowestFree 12 = .ok (.getfield 11, 3) := by decide +kernel
theorem dX5_lowestFree_15 : decode cX5_lowestFree 15 = .ok (.iload_n 1, 1) := by decide +kernel
theorem dX5_lowestFree_16 : decode cX5_lowestFree 16 = .ok (.aaload, 1) := by decide +kernel
theorem dX5_lowestFree_17 : decode cX5_lowestFree 17 = .ok (.getfield 35, 3) := by decide +kernel
theorem dX5_lowestFree_20 : decode cX5_lowestFree 20 = .ok (.ifCond .ne 5, 3) := by decide +kernel
theorem dX5_lowestFree_23 : decode cX5_lowestFree 23 = .ok (.iload_n 1, 1) := by decide +kernel
theorem dX5_lowestFree_24 : decode cX5_lowestFree 24 = .ok (.ireturn, 1) := by decide +kernel
theorem dX5_lowestFree_25 : decode cX5_lowestFree 25 = .ok (.iinc 1 1, 3) := by decide +kernel
theorem dX5_lowestFree_28 : decode cX5_lowestFree 28 = .ok (.goto (-26), 3) := by decide +kernel
theorem dX5_lowestFree_31 : decode cX5_lowestFree 31 = .ok (.iconst (-1), 1) := by decide +kernel
theorem dX5_lowestFree_32 : decode cX5_lowestFree 32 = .ok (.ireturn, 1) := by decide +kernel
theorem dX5_putPaper_0 : decode cX5_putPaper 0 = .ok (.aload_n 0, 1) := by decide +kernel
theorem dX5_putPaper_1 : decode cX5_putPaper 1 = .ok (.getfield 11, 3) := by decide +kernel
theorem dX5_putPaper_4 : decode cX5_putPaper 4 = .ok (.iload_n 1, 1) := by decide +kernel
theorem dX5_putPaper_5 : decode cX5_putPaper 5 = .ok (.aaload, 1) := by decide +kernel
theorem dX5_putPaper_6 : decode cX5_putPaper 6 = .ok (.astore_n 3, 1) := by decide +kernel
theorem dX5_putPaper_7 : decode cX5_putPaper 7 = .ok (.aload_n 3, 1) := by decide +kernel
theorem dX5_putPaper_8 : decode cX5_putPaper 8 = .ok (.iconst 1, 1) := by decide +kernel
theorem dX5_putPaper_9 : decode cX5_putPaper 9 = .ok (.putfield 35, 3) := by decide +kernel
theorem dX5_putPaper_12 : decode cX5_putPaper 12 = .ok (.iconst 0, 1) := by decide +kernel
theorem dX5_putPaper_13 : decode cX5_putPaper 13 = .ok (.istore 4, 2) := by decide +kernel
theorem dX5_putPaper_15 : decode cX5_putPaper 15 = .ok (.iconst 0, 1) := by decide +kernel
theorem dX5_putPaper_16 : decode cX5_putPaper 16 = .ok (.istore 5, 2) := by decide +kernel
theorem dX5_putPaper_18 : decode cX5_putPaper 18 = .ok (.iload 5, 2) := by decide +kernel
theorem dX5_putPaper_20 : decode cX5_putPaper 20 = .ok (.aload_n 2, 1) := by decide +kernel
theorem dX5_putPaper_21 : decode cX5_putPaper 21 = .ok (.getfield 39, 3) := by decide +kernel
theorem dX5_putPaper_24 : decode cX5_putPaper 24 = .ok (.if_icmp .ge 69, 3) := by decide +kernel
theorem dX5_putPaper_27 : decode cX5_putPaper 27 = .ok (.aload_n 0, 1) := by decide +kernel
theorem dX5_putPaper_28 : decode cX5_putPaper 28 = .ok (.aload_n 2, 1) := by decide +kernel
theorem dX5_putPaper_29 : decode cX5_putPaper 29 = .ok (.iload 5, 2) := by decide +kernel
theorem dX5_putPaper_31 : decode cX5_putPaper 31 = .ok (.iload 5, 2) := by decide +kernel
theorem dX5_putPaper_33 : decode cX5_putPaper 33 = .ok (.iconst 1, 1) := by decide +kernel
theorem dX5_putPaper_34 : decode cX5_putPaper 34 = .ok (.iadd, 1) := by decide +kernel
theorem dX5_putPaper_35 : decode cX5_putPaper 35 = .ok (.iload 4, 2) := by decide +kernel
theorem dX5_putPaper_37 : decode cX5_putPaper 37 = .ok (.isub, 1) := by decide +kernel
theorem dX5_putPaper_38 : decode cX5_putPaper 38 = .ok (.invokevirtual 44, 3) := by decide +kernel
theorem dX5_putPaper_41 : decode cX5_putPaper 41 = .ok (.ifCond .eq 46, 3) := by decide +kernel
theorem dX5_putPaper_44 : decode cX5_putPaper 44 = .ok (.aload_n 0, 1) := by decide +kernel
theorem dX5_putPaper_45 : decode cX5_putPaper 45 = .ok (.aload_n 2, 1) := by decide +kernel
theorem dX5_putPaper_46 : decode cX5_putPaper 46 = .ok (.iload 4, 2) := by decide +kernel
theorem dX5_putPaper_48 : decode cX5_putPaper 48 = .ok (.iload 5, 2) := by decide +kernel
theorem dX5_putPaper_50 : decode cX5_putPaper 50 = .ok (.iconst 1, 1) := by decide +kernel
theorem dX5_putPaper_51 : decode cX5_putPaper 51 = .ok (.iadd, 1) := by decide +kernel
theorem dX5_putPaper_52 : decode cX5_putPaper 52 = .ok (.iload 4, 2) := by decide +kernel
theorem dX5_putPaper_54 : decode cX5_putPaper 54 = .ok (.isub, 1) := by decide +kernel
theorem dX5_putPaper_55 : decode cX5_putPaper 55 = .ok (.invokevirtual 48, 3) := by decide +kernel
theorem dX5_putPaper_58 : decode cX5_putPaper 58 = .ok (.astore 6, 2) := by decide +kernel
theorem dX5_putPaper_60 : decode cX5_putPaper 60 = .ok (.aload 6, 2) := by decide +kernel
theorem dX5_putPaper_62 : decode cX5_putPaper 62 = .ok (.dup, 1) := by decide +kernel
theorem dX5_putPaper_63 : decode cX5_putPaper 63 = .ok (.getfield 52, 3) := by decide +kernel
theorem dX5_putPaper_66 : decode cX5_putPaper 66 = .ok (.iconst 1, 1) := by decide +kernel
theorem dX5_putPaper_67 : decode cX5_putPaper 67 = .ok (.iadd, 1) := by decide +kernel
theorem dX5_putPaper_68 : decode cX5_putPaper 68 = .ok (.putfield 52, 3) := by decide +kernel
theorem dX5_putPaper_71 : decode cX5_putPaper 71 = .ok (.aload_n 3, 1) := by decide +kernel
theorem dX5_putPaper_72 : decode cX5_putPaper 72 = .ok (.getfield 57, 3) := by decide +kernel
theorem dX5_putPaper_75 : decode cX5_putPaper 75 = .ok (.aload 6, 2) := by decide +kernel
theorem dX5_putPaper_77 : decode cX5_putPaper 77 = .ok (.invokevirtual 60, 3) := by decide +kernel
theorem dX5_putPaper_80 : decode cX5_putPaper 80 = .ok (.pop, 1) := by decide +kernel
theorem dX5_putPaper_81 : decode cX5_putPaper 81 = .ok (.iload 5, 2) := by decide +kernel
theorem dX5_putPaper_83 : decode cX5_putPaper 83 = .ok (.iconst 1, 1) := by decide +kernel
theorem dX5_putPaper_84 : decode cX5_putPaper 84 = .ok (.iadd, 1) := by decide +kernel
theorem dX5_putPaper_85 : decode cX5_putPaper 85 = .ok (.istore 4, 2) := by decide +kernel
theorem dX5_putPaper_87 : decode cX5_putPaper 87 = .ok (.iinc 5 1, 3) := by decide +kernel
theorem dX5_putPaper_90 : decode cX5_putPaper 90 = .ok (.goto (-72), 3) := by decide +kernel
theorem dX5_putPaper_93 : decode cX5_putPaper 93 = .ok (.return_, 1) := by decide +kernel
theorem dX5_endsBehind_0 : decode cX5_endsBehind 0 = .ok (.iload_n 3, 1) := by decide +kernel
theorem dX5_endsBehind_1 : decode cX5_endsBehind 1 = .ok (.aload_n 0, 1) := by decide +kernel
theorem dX5_endsBehind_2 : decode cX5_endsBehind 2 = .ok (.getfield 28, 3) := by decide +kernel
theorem dX5_endsBehind_5 : decode cX5_endsBehind 5 = .ok (.if_icmp .ge 13, 3) := by decide +kernel
theorem dX5_endsBehind_8 : decode cX5_endsBehind 8 = .ok (.iload_n 2, 1) := by decide +kernel
theorem dX5_endsBehind_9 : decode cX5_endsBehind 9 = .ok (.aload_n 1, 1) := by decide +kernel
theorem dX5_endsBehind_10 : decode cX5_endsBehind 10 = .ok (.getfield 39, 3) := by decide +kernel
theorem dX5_endsBehind_13 : decode cX5_endsBehind 13 = .ok (.iconst 1, 1) := by decide +kernel
theorem dX5_endsBehind_14 : decode cX5_endsBehind 14 = .ok (.isub, 1) := by decide +kernel
theorem dX5_endsBehind_15 : decode cX5_endsBehind 15 = .ok (.if_icmp .ne 5, 3) := by decide +kernel
theorem dX5_endsBehind_18 : decode cX5_endsBehind 18 = .ok (.iconst 1, 1) := by decide +kernel
theorem dX5_endsBehind_19 : decode cX5_endsBehind 19 = .ok (.ireturn, 1) := by decide +kernel
theorem dX5_endsBehind_20 : decode cX5_endsBehind 20 = .ok (.aload_n 1, 1) := by decide +kernel
theorem dX5_endsBehind_21 : decode cX5_endsBehind 21 = .ok (.iload_n 2, 1) := by decide +kernel
theorem dX5_endsBehind_22 : decode cX5_endsBehind 22 = .ok (.invokevirtual 64, 3) := by decide +kernel
theorem dX5_endsBehind_25 : decode cX5_endsBehind 25 = .ok (.iconst 2, 1) := by decide +kernel
theorem dX5_endsBehind_26 : decode cX5_endsBehind 26 = .ok (.aload_n 1, 1) := by decide +kernel
theorem dX5_endsBehind_27 : decode cX5_endsBehind 27 = .ok (.iload_n 2, 1) := by decide +kernel
theorem dX5_endsBehind_28 : decode cX5_endsBehind 28 = .ok (.iconst 1, 1) := by decide +kernel
theorem dX5_endsBehind_29 : decode cX5_endsBehind 29 = .ok (.isub, 1) := by decide +kernel
theorem dX5_endsBehind_30 : decode cX5_endsBehind 30 = .ok (.invokevirtual 64, 3) := by decide +kernel
theorem dX5_endsBehind_33 : decode cX5_endsBehind 33 = .ok (.imul, 1) := by decide +kernel
theorem dX5_endsBehind_34 : decode cX5_endsBehind 34 = .ok (.iadd, 1) := by decide +kernel
theorem dX5_endsBehind_35 : decode cX5_endsBehind 35 = .ok (.iconst 3, 1) := by decide +kernel
theorem dX5_endsBehind_36 : decode cX5_endsBehind 36 = .ok (.aload_n 1, 1) := by decide +kernel
theorem dX5_endsBehind_37 : decode cX5_endsBehind 37 = .ok (.iload_n 2, 1) := by decide +kernel
theorem dX5_endsBehind_38 : decode cX5_endsBehind 38 = .ok (.iconst 2, 1) := by decide +kernel
theorem dX5_endsBehind_39 : decode cX5_endsBehind 39 = .ok (.isub, 1) := by decide +kernel
theorem dX5_endsBehind_40 : decode cX5_endsBehind 40 = .ok (.invokevirtual 64, 3) := by decide +kernel
theorem dX5_endsBehind_43 : decode cX5_endsBehind 43 = .ok (.imul, 1) := by decide +kernel
theorem dX5_endsBehind_44 : decode cX5_endsBehind 44 = .ok (.iadd, 1) := by decide +kernel
theorem dX5_endsBehind_45 : decode cX5_endsBehind 45 = .ok (.iconst 4, 1) := by decide +kernel
theorem dX5_endsBehind_46 : decode cX5_endsBehind 46 = .ok (.aload_n 1, 1) := by decide +kernel
theorem dX5_endsBehind_47 : decode cX5_endsBehind 47 = .ok (.iload_n 2, 1) := by decide +kernel
theorem dX5_endsBehind_48 : decode cX5_endsBehind 48 = .ok (.iconst 3, 1) := by decide +kernel
theorem dX5_endsBehind_49 : decode cX5_endsBehind 49 = .ok (.isub, 1) := by decide +kernel
theorem dX5_endsBehind_50 : decode cX5_endsBehind 50 = .ok (.invokevirtual 64, 3) := by decide +kernel
theorem dX5_endsBehind_53 : decode cX5_endsBehind 53 = .ok (.imul, 1) := by decide +kernel
theorem dX5_endsBehind_54 : decode cX5_endsBehind 54 = .ok (.iadd, 1) := by decide +kernel
theorem dX5_endsBehind_55 : decode cX5_endsBehind 55 = .ok (.istore 4, 2) := by decide +kernel
theorem dX5_endsBehind_57 : decode cX5_endsBehind 57 = .ok (.iload_n 3, 1) := by decide +kernel
theorem dX5_endsBehind_58 : decode cX5_endsBehind 58 = .ok (.aload_n 0, 1) := by decide +kernel
theorem dX5_endsBehind_59 : decode cX5_endsBehind 59 = .ok (.getfield 24, 3) := by decide +kernel
theorem dX5_endsBehind_62 : decode cX5_endsBehind 62 = .ok (.if_icmp .lt 23, 3) := by decide +kernel
theorem dX5_endsBehind_65 : decode cX5_endsBehind 65 = .ok (.iload 4, 2) := by decide +kernel
theorem dX5_endsBehind_67 : decode cX5_endsBehind 67 = .ok (.aload_n 0, 1) := by decide +kernel
theorem dX5_endsBehind_68 : decode cX5_endsBehind 68 = .ok (.getfield 31, 3) := by decide +kernel
theorem dX5_endsBehind_71 : decode cX5_endsBehind 71 = .ok (.irem, 1) := by decide +kernel
theorem dX5_endsBehind_72 : decode cX5_endsBehind 72 = .ok (.aload_n 0, 1) := by decide +kernel
theorem dX5_endsBehind_73 : decode cX5_endsBehind 73 = .ok (.getfield 31, 3) := by decide +kernel
theorem dX5_endsBehind_76 : decode cX5_endsBehind 76 = .ok (.iconst 1, 1) := by decide +kernel
theorem dX5_endsBehind_77 : decode cX5_endsBehind 77 = .ok (.isub, 1) := by decide +kernel
theorem dX5_endsBehind_78 : decode cX5_endsBehind 78 = .ok (.if_icmp .ne 7, 3) := by decide +kernel
theorem dX5_endsBehind_81 : decode cX5_endsBehind 81 = .ok (.iconst 1, 1) := by decide +kernel
theorem dX5_endsBehind_82 : decode cX5_endsBehind 82 = .ok (.goto 4, 3) := by decide +kernel
theorem dX5_endsBehind_85 : decode cX5_endsBehind 85 = .ok (.iconst 0, 1) := by decide +kernel
theorem dX5_endsBehind_86 : decode cX5_endsBehind 86 = .ok (.ireturn, 1) := by decide +kernel
theorem dX5_chunkOf_0 : decode cX5_chunkOf 0 = .ok (.aconst_null, 1) := by decide +kernel
theorem dX5_chunkOf_1 : decode cX5_chunkOf 1 = .ok (.astore 4, 2) := by decide +kernel
theorem dX5_chunkOf_3 : decode cX5_chunkOf 3 = .ok (.iconst 0, 1) := by decide +kernel
theorem dX5_chunkOf_4 : decode cX5_chunkOf 4 = .ok (.istore 5, 2) := by decide +kernel
theorem dX5_chunkOf_6 : decode cX5_chunkOf 6 = .ok (.iload 5, 2) := by decide +kernel
theorem dX5_chunkOf_8 : decode cX5_chunkOf 8 = .ok (.aload_n 0, 1) := by decide +kernel
theorem dX5_chunkOf_9 : decode cX5_chunkOf 9 = .ok (.getfield 20, 3) := by decide +kernel
theorem dX5_chunkOf_12 : decode cX5_chunkOf 12 = .ok (.invokevirtual 68, 3) := by decide +kernel
theorem dX5_chunkOf_15 : decode cX5_chunkOf 15 = .ok (.if_icmp .ge 52, 3) := by decide +kernel
theorem dX5_chunkOf_18 : decode cX5_chunkOf 18 = .ok (.aload_n 0, 1) := by decide +kernel
theorem dX5_chunkOf_19 : decode cX5_chunkOf 19 = .ok (.getfield 20, 3) := by decide +kernel
theorem dX5_chunkOf_22 : decode cX5_chunkOf 22 = .ok (.iload 5, 2) := by decide +kernel
theorem dX5_chunkOf_24 : decode cX5_chunkOf 24 = .ok (.invokevirtual 71, 3) := by decide +kernel
theorem dX5_chunkOf_27 : decode cX5_chunkOf 27 = .ok (.checkcast 53, 3) := by decide +kernel
theorem dX5_chunkOf_30 : decode cX5_chunkOf 30 = .ok (.astore 6, 2) := by decide +kernel
theorem dX5_chunkOf_32 : decode cX5_chunkOf 32 = .ok (.aload 6, 2) := by decide +kernel
theorem dX5_chunkOf_34 : decode cX5_chunkOf 34 = .ok (.getfield 52, 3) := by decide +kernel
theorem dX5_chunkOf_37 : decode cX5_chunkOf 37 = .ok (.ifCond .ne 10, 3) := by decide +kernel
theorem dX5_chunkOf_40 : decode cX5_chunkOf 40 = .ok (.aload 6, 2) := by decide +kernel
theorem dX5_chunkOf_42 : decode cX5_chunkOf 42 = .ok (.astore 4, 2) := by decide +kernel
theorem dX5_chunkOf_44 : decode cX5_chunkOf 44 = .ok (.goto 17, 3) := by decide +kernel
theorem dX5_chunkOf_47 : decode cX5_chunkOf 47 = .ok (.aload 6, 2) := by decide +kernel
theorem dX5_chunkOf_49 : decode cX5_chunkOf 49 = .ok (.aload_n 1, 1) := by decide +kernel
theorem dX5_chunkOf_50 : decode cX5_chunkOf 50 = .ok (.iload_n 2, 1) := by decide +kernel
theorem dX5_chunkOf_51 : decode cX5_chunkOf 51 = .ok (.iload_n 3, 1) := by decide +kernel
theorem dX5_chunkOf_52 : decode cX5_chunkOf 52 = .ok (.invokevirtual 75, 3) := by decide +kernel
theorem dX5_chunkOf_55 : decode cX5_chunkOf 55 = .ok (.ifCond .eq 6, 3) := by decide +kernel
theorem dX5_chunkOf_58 : decode cX5_chunkOf 58 = .ok (.aload 6, 2) := by decide +kernel
theorem dX5_chunkOf_60 : decode cX5_chunkOf 60 = .ok (.areturn, 1) := by decide +kernel
theorem dX5_chunkOf_61 : decode cX5_chunkOf 61 = .ok (.iinc 5 1, 3) := by decide +kernel
theorem dX5_chunkOf_64 : decode cX5_chunkOf 64 = .ok (.goto (-58), 3) := by decide +kernel
theorem dX5_chunkOf_67 : decode cX5_chunkOf 67 = .ok (.aload 4, 2) := by decide +kernel
theorem dX5_chunkOf_69 : decode cX5_chunkOf 69 = .ok (.ifnonnull 22, 3) := by decide +kernel
theorem dX5_chunkOf_72 : decode cX5_chunkOf 72 = .ok (.new 53, 3) := by decide +kernel
theorem dX5_chunkOf_75 : decode cX5_chunkOf 75 = .ok (.dup, 1) := by decide +kernel
theorem dX5_chunkOf_76 : decode cX5_chunkOf 76 = .ok (.invokespecial 78, 3) := by decide +kernel
theorem dX5_chunkOf_79 : decode cX5_chunkOf 79 = .ok (.astore 4, 2) := by decide +kernel
theorem dX5_chunkOf_81 : decode cX5_chunkOf 81 = .ok (.aload_n 0, 1) := by decide +kernel
theorem dX5_chunkOf_82 : decode cX5_chunkOf 82 = .ok (.getfield 20, 3) := by decide +kernel
theorem dX5_chunkOf_85 : decode cX5_chunkOf 85 = .ok (.aload 4, 2) := by decide +kernel
theorem dX5_chunkOf_87 : decode cX5_chunkOf 87 = .ok (.invokevirtual 60, 3) := by decide +kernel
theorem dX5_chunkOf_90 : decode cX5_chunkOf 90 = .ok (.pop, 1) := by decide +kernel
theorem dX5_chunkOf_91 : decode cX5_chunkOf 91 = .ok (.aload 4, 2) := by decide +kernel
theorem dX5_chunkOf_93 : decode cX5_chunkOf 93 = .ok (.aload_n 1, 1) := by decide +kernel
theorem dX5_chunkOf_94 : decode cX5_chunkOf 94 = .ok (.iload_n 2, 1) := by decide +kernel
theorem dX5_chunkOf_95 : decode cX5_chunkOf 95 = .ok (.iload_n 3, 1) := by decide +kernel
theorem dX5_chunkOf_96 : decode cX5_chunkOf 96 = .ok (.invokevirtual 79, 3) := by decide +kernel
theorem dX5_chunkOf_99 : decode cX5_chunkOf 99 = .ok (.aload 4, 2) := by decide +kernel
theorem dX5_chunkOf_101 : decode cX5_chunkOf 101 = .ok (.areturn, 1) := by decide +kernel
theorem dX5_dropPaper_0 : decode cX5_dropPaper 0 = .ok (.aload_n 0, 1) := by decide +kernel
theorem dX5_dropPaper_1 : decode cX5_dropPaper 1 = .ok (.getfield 11, 3) := by decide +kernel
theorem dX5_dropPaper_4 : decode cX5_dropPaper 4 = .ok (.iload_n 1, 1) := by decide +kernel
theorem dX5_dropPaper_5 : decode cX5_dropPaper 5 = .ok (.aaload, 1) := by decide +kernel
theorem dX5_dropPaper_6 : decode cX5_dropPaper 6 = .ok (.astore_n 2, 1) := by decide +kernel
theorem dX5_dropPaper_7 : decode cX5_dropPaper 7 = .ok (.iconst 0, 1) := by decide +kernel
theorem dX5_dropPaper_8 : decode cX5_dropPaper 8 = .ok (.istore_n 3, 1) := by decide +kernel
theorem dX5_dropPaper_9 : decode cX5_dropPaper 9 = .ok (.iconst 0, 1) := by decide +kernel
theorem dX5_dropPaper_10 : decode cX5_dropPaper 10 = .ok (.istore 4, 2) := by decide +kernel
theorem dX5_dropPaper_12 : decode cX5_dropPaper 12 = .ok (.iload 4, 2) := by decide +kernel
theorem dX5_dropPaper_14 : decode cX5_dropPaper 14 = .ok (.aload_n 2, 1) := by decide +kernel
theorem dX5_dropPaper_15 : decode cX5_dropPaper 15 = .ok (.getfield 57, 3) := by decide +kernel
theorem dX5_dropPaper_18 : decode cX5_dropPaper 18 = .ok (.invokevirtual 68, 3) := by decide +kernel
theorem dX5_dropPaper_21 : decode cX5_dropPaper 21 = .ok (.if_icmp .ge 45, 3) := by decide +kernel
theorem dX5_dropPaper_24 : decode cX5_dropPaper 24 = .ok (.aload_n 2, 1) := by decide +kernel
theorem dX5_dropPaper_25 : decode cX5_dropPaper 25 = .ok (.getfield 57, 3) := by decide +kernel
theorem dX5_dropPaper_28 : decode cX5_dropPaper 28 = .ok (.iload 4, 2) := by decide +kernel
theorem dX5_dropPaper_30 : decode cX5_dropPaper 30 = .ok (.invokevirtual 71, 3) := by decide +kernel
theorem dX5_dropPaper_33 : decode cX5_dropPaper 33 = .ok (.checkcast 53, 3) := by decide +kernel
theorem dX5_dropPaper_36 : decode cX5_dropPaper 36 = .ok (.astore 5, 2) := by decide +kernel
theorem dX5_dropPaper_38 : decode cX5_dropPaper 38 = .ok (.aload 5, 2) := by decide +kernel
theorem dX5_dropPaper_40 : decode cX5_dropPaper 40 = .ok (.dup, 1) := by decide +kernel
theorem dX5_dropPaper_41 : decode cX5_dropPaper 41 = .ok (.getfield 52, 3) := by decide +kernel
theorem dX5_dropPaper_44 : decode cX5_dropPaper 44 = .ok (.iconst 1, 1) := by decide +kernel
theorem dX5_dropPaper_45 : decode cX5_dropPaper 45 = .ok (.isub, 1) := by decide +kernel
theorem dX5_dropPaper_46 : decode cX5_dropPaper 46 = .ok (.putfield 52, 3) := by decide +kernel
theorem dX5_dropPaper_49 : decode cX5_dropPaper 49 = .ok (.aload 5, 2) := by decide +kernel
theorem dX5_dropPaper_51 : decode cX5_dropPaper 51 = .ok (.getfield 52, 3) := by decide +kernel
theorem dX5_dropPaper_54 : decode cX5_dropPaper 54 = .ok (.ifCond .ne 6, 3) := by decide +kernel
theorem dX5_dropPaper_57 : decode cX5_dropPaper 57 = .ok (.iinc 3 1, 3) := by decide +kernel
theorem dX5_dropPaper_60 : decode cX5_dropPaper 60 = .ok (.iinc 4 1, 3) := by decide +kernel
theorem dX5_dropPaper_63 : decode cX5_dropPaper 63 = .ok (.goto (-51), 3) := by decide +kernel
theorem dX5_dropPaper_66 : decode cX5_dropPaper 66 = .ok (.aload_n 2, 1) := by decide +kernel
theorem dX5_dropPaper_67 : decode cX5_dropPaper 67 = .ok (.getfield 57, 3) := by decide +kernel
theorem dX5_dropPaper_70 : decode cX5_dropPaper 70 = .ok (.invokevirtual 83, 3) := by decide +kernel
theorem dX5_dropPaper_73 : decode cX5_dropPaper 73 = .ok (.aload_n 2, 1) := by decide +kernel
theorem dX5_dropPaper_74 : decode cX5_dropPaper 74 = .ok (.iconst 0, 1) := by decide +kernel
theorem dX5_dropPaper_75 : decode cX5_dropPaper 75 = .ok (.putfield 35, 3) := by decide +kernel
theorem dX5_dropPaper_78 : decode cX5_dropPaper 78 = .ok (.iload_n 3, 1) := by decide +kernel
theorem dX5_dropPaper_79 : decode cX5_dropPaper 79 = .ok (.ireturn, 1) := by decide +kernel
theorem dX5_countPapers_0 : decode cX5_countPapers 0 = .ok (.iconst 0, 1) := by decide +kernel
theorem dX5_countPapers_1 : decode cX5_countPapers 1 = .ok (.istore_n 1, 1) := by decide +kernel
theorem dX5_countPapers_2 : decode cX5_countPapers 2 = .ok (.iconst 0, 1) := by decide +kernel
theorem dX5_countPapers_3 : decode cX5_countPapers 3 = .ok (.istore_n 2, 1) := by decide +kernel
theorem dX5_countPapers_4 : decode cX5_countPapers 4 = .ok (.iload_n 2, 1) := by decide +kernel
theorem dX5_countPapers_5 : decode cX5_countPapers 5 = .ok (.aload_n 0, 1) := by decide +kernel
theorem dX5_countPapers_6 : decode cX5_countPapers 6 = .ok (.getfield 11, 3) := by decide +kernel
theorem dX5_countPapers_9 : decode cX5_countPapers 9 = .ok (.arraylength, 1) := by decide +kernel
theorem dX5_countPapers_10 : decode cX5_countPapers 10 = .ok (.if_icmp .ge 29, 3) := by decide +kernel
theorem dX5_countPapers_13 : decode cX5_countPapers 13 = .ok (.iload_n 1, 1) := by decide +kernel
theorem dX5_countPapers_14 : decode cX5_countPapers 14 = .ok (.aload_n 0, 1) := by decide +kernel
theorem dX5_countPapers_15 : decode cX5_countPapers 15 = .ok (.getfield 11, 3) := by decide +kernel
theorem dX5_countPapers_18 : decode cX5_countPapers 18 = .ok (.iload_n 2, 1) := by decide +kernel
theorem dX5_countPapers_19 : decode cX5_countPapers 19 = .ok (.aaload, 1) := by decide +kernel
theorem dX5_countPapers_20 : decode cX5_countPapers 20 = .ok (.getfield 35, 3) := by decide +kernel
theorem dX5_countPapers_23 : decode cX5_countPapers 23 = .ok (.ifCond .eq 7, 3) := by decide +kernel
theorem dX5_countPapers_26 : decode cX5_countPapers 26 = .ok (.iconst 1, 1) := by decide +kernel
theorem dX5_countPapers_27 : decode cX5_countPapers 27 = .ok (.goto 4, 3) := by decide +kernel
theorem dX5_countPapers_30 : decode cX5_countPapers 30 = .ok (.iconst 0, 1) := by decide +kernel
theorem dX5_countPapers_31 : decode cX5_countPapers 31 = .ok (.iadd, 1) := by decide +kernel
theorem dX5_countPapers_32 : decode cX5_countPapers 32 = .ok (.istore_n 1, 1) := by decide +kernel
theorem dX5_countPapers_33 : decode cX5_countPapers 33 = .ok (.iinc 2 1, 3) := by decide +kernel
theorem dX5_countPapers_36 : decode cX5_countPapers 36 = .ok (.goto (-32), 3) := by decide +kernel
theorem dX5_countPapers_39 : decode cX5_countPapers 39 = .ok (.iload_n 1, 1) := by decide +kernel
theorem dX5_countPapers_40 : decode cX5_countPapers 40 = .ok (.ireturn, 1) := by decide +kernel
theorem dX5_countChunks_0 : decode cX5_countChunks 0 = .ok (.iconst 0, 1) := by decide +kernel
theorem dX5_countChunks_1 : decode cX5_countChunks 1 = .ok (.istore_n 1, 1) := by decide +kernel
theorem dX5_countChunks_2 : decode cX5_countChunks 2 = .ok (.iconst 0, 1) := by decide +kernel
theorem dX5_countChunks_3 : decode cX5_countChunks 3 = .ok (.istore_n 2, 1) := by decide +kernel
theorem dX5_countChunks_4 : decode cX5_countChunks 4 = .ok (.iload_n 2, 1) := by decide +kernel
theorem dX5_countChunks_5 : decode cX5_countChunks 5 = .ok (.aload_n 0, 1) := by decide +kernel
theorem dX5_countChunks_6 : decode cX5_countChunks 6 = .ok (.getfield 20, 3) := by decide +kernel
theorem dX5_countChunks_9 : decode cX5_countChunks 9 = .ok (.invokevirtual 68, 3) := by decide +kernel
theorem dX5_countChunks_12 : decode cX5_countChunks 12 = .ok (.if_icmp .ge 34, 3) := by decide +kernel
theorem dX5_countChunks_15 : decode cX5_countChunks 15 = .ok (.iload_n 1, 1) := by decide +kernel
theorem dX5_countChunks_16 : decode cX5_countChunks 16 = .ok (.aload_n 0, 1) := by decide +kernel
theorem dX5_countChunks_17 : decode cX5_countChunks 17 = .ok (.getfield 20, 3) := by decide +kernel
theorem dX5_countChunks_20 : decode cX5_countChunks 20 = .ok (.iload_n 2, 1) := by decide +kernel
theorem dX5_countChunks_21 : decode cX5_countChunks 21 = .ok (.invokevirtual 71, 3) := by decide +kernel
theorem dX5_countChunks_24 : decode cX5_countChunks 24 = .ok (.checkcast 53, 3) := by decide +kernel
theorem dX5_countChunks_27 : decode cX5_countChunks 27 = .ok (.getfield 52, 3) := by decide +kernel
theorem dX5_countChunks_30 : decode cX5_countChunks 30 = .ok (.ifCond .le 7, 3) := by decide +kernel
theorem dX5_countChunks_33 : decode cX5_countChunks 33 = .ok (.iconst 1, 1) := by decide +kernel
theorem dX5_countChunks_34 : decode cX5_countChunks 34 = .ok (.goto 4, 3) := by decide +kernel
theorem dX5_countChunks_37 : decode cX5_countChunks 37 = .ok (.iconst 0, 1) := by decide +kernel
theorem dX5_countChunks_38 : decode cX5_countChunks 38 = .ok (.iadd, 1) := by decide +kernel
theorem dX5_countChunks_39 : decode cX5_countChunks 39 = .ok (.istore_n 1, 1) := by decide +kernel
theorem dX5_countChunks_40 : decode cX5_countChunks 40 = .ok (.iinc 2 1, 3) := by decide +kernel
theorem dX5_countChunks_43 : decode cX5_countChunks 43 = .ok (.goto (-39), 3) := by decide +kernel
theorem dX5_countChunks_46 : decode cX5_countChunks 46 = .ok (.iload_n 1, 1) := by decide +kernel
theorem dX5_countChunks_47 : decode cX5_countChunks 47 = .ok (.ireturn, 1) := by decide +kernel
theorem dX5_countBytes_0 : decode cX5_countBytes 0 = .ok (.iconst 0, 1) := by decide +kernel
theorem dX5_countBytes_1 : decode cX5_countBytes 1 = .ok (.istore_n 1, 1) := by decide +kernel
theorem dX5_countBytes_2 : decode cX5_countBytes 2 = .ok (.iconst 0, 1) := by decide +kernel
theorem dX5_countBytes_3 : decode cX5_countBytes 3 = .ok (.istore_n 2, 1) := by decide +kernel
theorem dX5_countBytes_4 : decode cX5_countBytes 4 = .ok (.iload_n 2, 1) := by decide +kernel
theorem dX5_countBytes_5 : decode cX5_countBytes 5 = .ok (.aload_n 0, 1) := by decide +kernel
theorem dX5_countBytes_6 : decode cX5_countBytes 6 = .ok (.getfield 20, 3) := by decide +kernel
theorem dX5_countBytes_9 : decode cX5_countBytes 9 = .ok (.invokevirtual 68, 3) := by decide +kernel
theorem dX5_countBytes_12 : decode cX5_countBytes 12 = .ok (.if_icmp .ge 47, 3) := by decide +kernel
theorem dX5_countBytes_15 : decode cX5_countBytes 15 = .ok (.iload_n 1, 1) := by decide +kernel
theorem dX5_countBytes_16 : decode cX5_countBytes 16 = .ok (.aload_n 0, 1) := by decide +kernel
theorem dX5_countBytes_17 : decode cX5_countBytes 17 = .ok (.getfield 20, 3) := by decide +kernel
theorem dX5_countBytes_20 : decode cX5_countBytes 20 = .ok (.iload_n 2, 1) := by decide +kernel
theorem dX5_countBytes_21 : decode cX5_countBytes 21 = .ok (.invokevirtual 71, 3) := by decide +kernel
theorem dX5_countBytes_24 : decode cX5_countBytes 24 = .ok (.checkcast 53, 3) := by decide +kernel
theorem dX5_countBytes_27 : decode cX5_countBytes 27 = .ok (.getfield 52, 3) := by decide +kernel
theorem dX5_countBytes_30 : decode cX5_countBytes 30 = .ok (.ifCond .le 20, 3) := by decide +kernel
theorem dX5_countBytes_33 : decode cX5_countBytes 33 = .ok (.aload_n 0, 1) := by decide +kernel
theorem dX5_countBytes_34 : decode cX5_countBytes 34 = .ok (.getfield 20, 3) := by decide +kernel
theorem dX5_countBytes_37 : decode cX5_countBytes 37 = .ok (.iload_n 2, 1) := by decide +kernel
theorem dX5_countBytes_38 : decode cX5_countBytes 38 = .ok (.invokevirtual 71, 3) := by decide +kernel
theorem dX5_countBytes_41 : decode cX5_countBytes 41 = .ok (.checkcast 53, 3) := by decide +kernel
theorem dX5_countBytes_44 : decode cX5_countBytes 44 = .ok (.getfield 86, 3) := by decide +kernel
theorem dX5_countBytes_47 : decode cX5_countBytes 47 = .ok (.goto 4, 3) := by decide +kernel
theorem dX5_countBytes_50 : decode cX5_countBytes 50 = .ok (.iconst 0, 1) := by decide +kernel
theorem dX5_countBytes_51 : decode cX5_countBytes 51 = .ok (.iadd, 1) := by decide +kernel
theorem dX5_countBytes_52 : decode cX5_countBytes 52 = .ok (.istore_n 1, 1) := by decide +kernel
theorem dX5_countBytes_53 : decode cX5_countBytes 53 = .ok (.iinc 2 1, 3) := by decide +kernel
theorem dX5_countBytes_56 : decode cX5_countBytes 56 = .ok (.goto (-52), 3) := by decide +kernel
theorem dX5_countBytes_59 : decode cX5_countBytes 59 = .ok (.iload_n 1, 1) := by decide +kernel
theorem dX5_countBytes_60 : decode cX5_countBytes 60 = .ok (.ireturn, 1) := by decide +kernel
theorem dX6_init_0 : decode cX6_init 0 = .ok (.aload_n 0, 1) := by decide +kernel
theorem dX6_init_1 : decode cX6_init 1 = .ok (.invokespecial 3, 3) := by decide +kernel
theorem dX6_init_4 : decode cX6_init 4 = .ok (.aload_n 0, 1) := by decide +kernel
theorem dX6_init_5 : decode cX6_init 5 = .ok (.bipush 120, 2) := by decide +kernel
theorem dX6_init_7 : decode cX6_init 7 = .ok (.newarray .int, 2) := by decide +kernel
theorem dX6_init_9 : decode cX6_init 9 = .ok (.putfield 9, 3) := by decide +kernel
theorem dX6_init_12 : decode cX6_init 12 = .ok (.aload_n 0, 1) := by decide +kernel
theorem dX6_init_13 : decode cX6_init 13 = .ok (.bipush 120, 2) := by decide +kernel
theorem dX6_init_15 : decode cX6_init 15 = .ok (.newarray .long, 2) := by decide +kernel
theorem dX6_init_17 : decode cX6_init 17 = .ok (.putfield 15, 3) := by decide +kernel
theorem dX6_init_20 : decode cX6_init 20 = .ok (.aload_n 0, 1) := by decide +kernel
theorem dX6_init_21 : decode cX6_init 21 = .ok (.iconst 1, 1) := by decide +kernel
theorem dX6_init_22 : decode cX6_init 22 = .ok (.putfield 19, 3) := by decide +kernel
theorem dX6_init_25 : decode cX6_init 25 = .ok (.aload_n 0, 1) := by decide +kernel
theorem dX6_init_26 : decode cX6_init 26 = .ok (.iconst 1, 1) := by decide +kernel
theorem dX6_init_27 : decode cX6_init 27 = .ok (.putfield 23, 3) := by decide +kernel
theorem dX6_init_30 : decode cX6_init 30 = .ok (.return_, 1) := by decide +kernel
theorem dX6_make_0 : decode cX6_make 0 = .ok (.aload_n 0, 1) := by decide +kernel
theorem dX6_make_1 : decode cX6_make 1 = .ok (.iconst 1, 1) := by decide +kernel
theorem dX6_make_2 : decode cX6_make 2 = .ok (.putfield 26, 3) := by decide +kernel
theorem dX6_make_5 : decode cX6_make 5 = .ok (.aload_n 0, 1) := by decide +kernel
theorem dX6_make_6 : decode cX6_make 6 = .ok (.iload_n 2, 1) := by decide +kernel
theorem dX6_make_7 : decode cX6_make 7 = .ok (.putfield 19, 3) := by decide +kernel
theorem dX6_make_10 : decode cX6_make 10 = .ok (.aload_n 0, 1) := by decide +kernel
theorem dX6_make_11 : decode cX6_make 11 = .ok (.iload_n 3, 1) := by decide +kernel
theorem dX6_make_12 : decode cX6_make 12 = .ok (.putfield 23, 3) := by decide +kernel
theorem dX6_make_15 : decode cX6_make 15 = .ok (.aload_n 0, 1) := by decide +kernel
theorem dX6_make_16 : decode cX6_make 16 = .ok (.aload_n 1, 1) := by decide +kernel
theorem dX6_make_17 : decode cX6_make 17 = .ok (.getfield 30, 3) := by decide +kernel
theorem dX6_make_20 : decode cX6_make 20 = .ok (.putfield 35, 3) := by decide +kernel
theorem dX6_make_23 : decode cX6_make 23 = .ok (.aload_n 0, 1) := by decide +kernel
theorem dX6_make_24 : decode cX6_make 24 = .ok (.iconst 0, 1) := by decide +kernel
theorem dX6_make_25 : decode cX6_make 25 = .ok (.putfield 38, 3) := by decide +kernel
theorem dX6_make_28 : decode cX6_make 28 = .ok (.iconst 0, 1) := by decide +kernel
theorem dX6_make_29 : decode cX6_make 29 = .ok (.istore 4, 2) := by decide +kernel
theorem dX6_make_31 : decode cX6_make 31 = .ok (.iload 4, 2) := by decide +kernel
theorem dX6_make_33 : decode cX6_make 33 = .ok (.aload_n 1, 1) := by decide +kernel
theorem dX6_make_34 : decode cX6_make 34 = .ok (.getfield 30, 3) := by decide +kernel
theorem dX6_make_37 : decode cX6_make 37 = .ok (.if_icmp .ge 91, 3) := by decide +kernel
theorem dX6_make_40 : decode cX6_make 40 = .ok (.aload_n 0, 1) := by decide +kernel
theorem dX6_make_41 : decode cX6_make 41 = .ok (.getfield 38, 3) := by decide +kernel
theorem dX6_make_44 : decode cX6_make 44 = .ok (.aload_n 0, 1) := by decide +kernel
theorem dX6_make_45 : decode cX6_make 45 = .ok (.getfield 9, 3) := by decide +kernel
theorem dX6_make_48 : decode cX6_make 48 = .ok (.arraylength, 1) := by decide +kernel
theorem dX6_make_49 : decode cX6_make 49 = .ok (.if_icmp .ge 79, 3) := by decide +kernel
theorem dX6_make_52 : decode cX6_make 52 = .ok (.aload_n 0, 1) := by decide +kernel
theorem dX6_make_53 : decode cX6_make 53 = .ok (.getfield 19, 3) := by decide +kernel
theorem dX6_make_56 : decode cX6_make 56 = .ok (.aload_n 1, 1) := by decide +kernel
theorem dX6_make_57 : decode cX6_make 57 = .ok (.getfield 30, 3) := by decide +kernel
theorem dX6_make_60 : decode cX6_make 60 = .ok (.iload 4, 2) := by decide +kernel
theorem dX6_make_62 : decode cX6_make 62 = .ok (.isub, 1) := by decide +kernel
theorem dX6_make_63 : decode cX6_make 63 = .ok (.invokestatic 41, 3) := by decide +kernel
theorem dX6_make_66 : decode cX6_make 66 = .ok (.istore 5, 2) := by decide +kernel
theorem dX6_make_68 : decode cX6_make 68 = .ok (.aload_n 0, 1) := by decide +kernel
theorem dX6_make_69 : decode cX6_make 69 = .ok (.getfield 9, 3) := by decide +kernel
theorem dX6_make_72 : decode cX6_make 72 = .ok (.aload_n 0, 1) := by decide +kernel
theorem dX6_make_73 : decode cX6_make 73 = .ok (.getfield 38, 3) := by decide +kernel
theorem dX6_make_76 : decode cX6_make 76 = .ok (.aload_n 1, 1) := by decide +kernel
theorem dX6_make_77 : decode cX6_make 77 = .ok (.iload 4, 2) := by decide +kernel
theorem dX6_make_79 : decode cX6_make 79 = .ok (.iload 5, 2) := by decide +kernel
theorem dX6_make_81 : decode cX6_make 81 = .ok (.aload_n 0, 1) := by decide +kernel
theorem dX6_make_82 : decode cX6_make 82 = .ok (.getfield 23, 3) := by decide +kernel
theorem dX6_make_85 : decode cX6_make 85 = .ok (.invokevirtual 47, 3) := by decide +kernel
theorem dX6_make_88 : decode cX6_make 88 = .ok (.iastore, 1) := by decide +kernel
theorem dX6_make_89 : decode cX6_make 89 = .ok (.aload_n 0, 1) := by decide +kernel
theorem dX6_make_90 : decode cX6_make 90 = .ok (.getfield 15, 3) := by decide +kernel
theorem dX6_make_93 : decode cX6_make 93 = .ok (.aload_n 0, 1) := by decide +kernel
theorem dX6_make_94 : decode cX6_make 94 = .ok (.getfield 38, 3) := by decide +kernel
theorem dX6_make_97 : decode cX6_make 97 = .ok (.aload_n 1, 1) := by decide +kernel
theorem dX6_make_98 : decode cX6_make 98 = .ok (.iload 4, 2) := by decide +kernel
theorem dX6_make_100 : decode cX6_make 100 = .ok (.iload 5, 2) := by decide +kernel
theorem dX6_make_102 : decode cX6_make 102 = .ok (.invokevirtual 51, 3) := by decide +kernel
theorem dX6_make_105 : decode cX6_make 105 = .ok (.lastore, 1) := by decide +kernel
theorem dX6_make_106 : decode cX6_make 106 = .ok (.aload_n 0, 1) := by decide +kernel
theorem dX6_make_107 : decode cX6_make 107 = .ok (.dup, 1) := by decide +kernel
theorem dX6_make_108 : decode cX6_make 108 = .ok (.getfield 38, 3) := by decide +kernel
theorem dX6_make_111 : decode cX6_make 111 = .ok (.iconst 1, 1) := by decide +kernel
theorem dX6_make_112 : decode cX6_make 112 = .ok (.iadd, 1) := by decide +kernel
theorem dX6_make_113 : decode cX6_make 113 = .ok (.putfield 38, 3) := by decide +kernel
theorem dX6_make_116 : decode cX6_make 116 = .ok (.iload 4, 2) := by decide +kernel
theorem dX6_make_118 : decode cX6_make 118 = .ok (.aload_n 0, 1) := by decide +kernel
theorem dX6_make_119 : decode cX6_make 119 = .ok (.getfield 19, 3) := by decide +kernel
theorem dX6_make_122 : decode cX6_make 122 = .ok (.iadd, 1) := by decide +kernel
theorem dX6_make_123 : decode cX6_make 123 = .ok (.istore 4, 2) := by decide +kernel
theorem dX6_make_125 : decode cX6_make 125 = .ok (.goto (-94), 3) := by decide +kernel
theorem dX6_make_128 : decode cX6_make 128 = .ok (.return_, 1) := by decide +kernel
theorem dX6_sizeOfBlock_0 : decode cX6_sizeOfBlock 0 = .ok (.aload_n 0, 1) := by decide +kernel
theorem dX6_sizeOfBlock_1 : decode cX6_sizeOfBlock 1 = .ok (.getfield 19, 3) := by decide +kernel
theorem dX6_sizeOfBlock_4 : decode cX6_sizeOfBlock 4 = .ok (.aload_n 0, 1) := by decide +kernel
theorem dX6_sizeOfBlock_5 : decode cX6_sizeOfBlock 5 = .ok (.getfield 35, 3) := by decide +kernel
theorem dX6_sizeOfBlock_8 : decode cX6_sizeOfBlock 8 = .ok (.iload_n 1, 1) := by decide +kernel
theorem dX6_sizeOfBlock_9 : decode cX6_sizeOfBlock 9 = .ok (.aload_n 0, 1) := by decide +kernel
theorem dX6_sizeOfBlock_10 : decode cX6_sizeOfBlock 10 = .ok (.getfield 19, 3) := by decide +kernel
theorem dX6_sizeOfBlock_13 : decode cX6_sizeOfBlock 13 = .ok (.imul, 1) := by decide +kernel
theorem dX6_sizeOfBlock_14 : decode cX6_sizeOfBlock 14 = .ok (.isub, 1) := by decide +kernel
theorem dX6_sizeOfBlock_15 : decode cX6_sizeOfBlock 15 = .ok (.invokestatic 41, 3) := by decide +kernel
theorem dX6_sizeOfBlock_18 : decode cX6_sizeOfBlock 18 = .ok (.ireturn, 1) := by decide +kernel
theorem dX6_windowFor_0 : decode cX6_windowFor 0 = .ok (.iload_n 1, 1) := by decide +kernel
theorem dX6_windowFor_1 : decode cX6_windowFor 1 = .ok (.aload_n 0, 1) := by decide +kernel
theorem dX6_windowFor_2 : decode cX6_windowFor 2 = .ok (.getfield 19, 3) := by decide +kernel
theorem dX6_windowFor_5 : decode cX6_windowFor 5 = .ok (.if_icmp .lt 8, 3) := by decide +kernel
theorem dX6_windowFor_8 : decode cX6_windowFor 8 = .ok (.aload_n 0, 1) := by decide +kernel
theorem dX6_windowFor_9 : decode cX6_windowFor 9 = .ok (.getfield 19, 3) := by decide +kernel
theorem dX6_windowFor_12 : decode cX6_windowFor 12 = .ok (.ireturn, 1) := by decide +kernel
theorem dX6_windowFor_13 : decode cX6_windowFor 13 = .ok (.aload_n 0, 1) := by decide +kernel
theorem dX6_windowFor_14 : decode cX6_windowFor 14 = .ok (.getfield 38, 3) := by decide +kernel
theorem dX6_windowFor_17 : decode cX6_windowFor 17 = .ok (.ifCond .le 21, 3) := by decide +kernel
theorem dX6_windowFor_20 : decode cX6_windowFor 20 = .ok (.aload_n 0, 1) := by decide +kernel
theorem dX6_windowFor_21 : decode cX6_windowFor 21 = .ok (.aload_n 0, 1) := by decide +kernel
theorem dX6_windowFor_22 : decode cX6_windowFor 22 = .ok (.getfield 38, 3) := by decide +kernel
theorem dX6_windowFor_25 : decode cX6_windowFor 25 = .ok (.iconst 1, 1) := by decide +kernel
theorem dX6_windowFor_26 : decode cX6_windowFor 26 = .ok (.isub, 1) := by decide +kernel
theorem dX6_windowFor_27 : decode cX6_windowFor 27 = .ok (.invokevirtual 55, 3) := by decide +kernel
theorem dX6_windowFor_30 : decode cX6_windowFor 30 = .ok (.iload_n 1, 1) := by decide +kernel
theorem dX6_windowFor_31 : decode cX6_windowFor 31 = .ok (.if_icmp .ne 7, 3) := by decide +kernel
theorem dX6_windowFor_34 : decode cX6_windowFor 34 = .ok (.iload_n 1, 1) := by decide +kernel
theorem dX6_windowFor_35 : decode cX6_windowFor 35 = .ok (.goto 4, 3) := by decide +kernel
theorem dX6_windowFor_38 : decode cX6_windowFor 38 = .ok (.iconst 0, 1) := by decide +kernel
theorem dX6_windowFor_39 : decode cX6_windowFor 39 = .ok (.ireturn, 1) := by decide +kernel
theorem dX7_init_0 : decode cX7_init 0 = .ok (.aload_n 0, 1) := by decide +kernel
theorem dX7_init_1 : decode cX7_init 1 = .ok (.invokespecial 3, 3) := by decide +kernel
theorem dX7_init_4 : decode cX7_init 4 = .ok (.aload_n 0, 1) := by decide +kernel
theorem dX7_init_5 : decode cX7_init 5 = .ok (.new 9, 3) := by decide +kernel
theorem dX7_init_8 : decode cX7_init 8 = .ok (.dup, 1) := by decide +kernel
theorem dX7_init_9 : decode cX7_init 9 = .ok (.invokespecial 11, 3) := by decide +kernel
theorem dX7_init_12 : decode cX7_init 12 = .ok (.putfield 12, 3) := by decide +kernel
theorem dX7_init_15 : decode cX7_init 15 = .ok (.aload_n 0, 1) := by decide +kernel
theorem dX7_init_16 : decode cX7_init 16 = .ok (.new 18, 3) := by decide +kernel
theorem dX7_init_19 : decode cX7_init 19 = .ok (.dup, 1) := by decide +kernel
theorem dX7_init_20 : decode cX7_init 20 = .ok (.invokespecial 20, 3) := by decide +kernel
theorem dX7_init_23 : decode cX7_init 23 = .ok (.putfield 21, 3) := by decide +kernel
theorem dX7_init_26 : decode cX7_init 26 = .ok (.aload_n 0, 1) := by decide +kernel
theorem dX7_init_27 : decode cX7_init 27 = .ok (.iconst 2, 1) := by decide +kernel
theorem dX7_init_28 : decode cX7_init 28 = .ok (.putfield 25, 3) := by decide +kernel
theorem dX7_init_31 : decode cX7_init 31 = .ok (.aload_n 0, 1) := by decide +kernel
theorem dX7_init_32 : decode cX7_init 32 = .ok (.iconst (-1), 1) := by decide +kernel
theorem dX7_init_33 : decode cX7_init 33 = .ok (.putfield 29, 3) := by decide +kernel
theorem dX7_init_36 : decode cX7_init 36 = .ok (.return_, 1) := by decide +kernel
theorem dX7_becomeWhole_0 : decode cX7_becomeWhole 0 = .ok (.aload_n 0, 1) := by decide +kernel
theorem dX7_becomeWhole_1 : decode cX7_becomeWhole 1 = .ok (.iconst 0, 1) := by decide +kernel
theorem dX7_becomeWhole_2 : decode cX7_becomeWhole 2 = .ok (.putfield 25, 3) := by decide +kernel
theorem dX7_becomeWhole_5 : decode cX7_becomeWhole 5 = .ok (.aload_n 0, 1) := by decide +kernel
theorem dX7_becomeWhole_6 : decode cX7_becomeWhole 6 = .ok (.getfield 12, 3) := by decide +kernel
theorem dX7_becomeWhole_9 : decode cX7_becomeWhole 9 = .ok (.aload_n 1, 1) := by decide +kernel
theorem dX7_becomeWhole_10 : decode cX7_becomeWhole 10 = .ok (.invokevirtual 32, 3) := by decide +kernel
theorem dX7_becomeWhole_13 : decode cX7_becomeWhole 13 = .ok (.return_, 1) := by decide +kernel
theorem dX7_holds_0 : decode cX7_holds 0 = .ok (.aload_n 0, 1) := by decide +kernel
theorem dX7_holds_1 : decode cX7_holds 1 = .ok (.getfield 25, 3) := by decide +kernel
theorem dX7_holds_4 : decode cX7_holds 4 = .ok (.iconst 2, 1) := by decide +kernel
theorem dX7_holds_5 : decode cX7_holds 5 = .ok (.if_icmp .ne 5, 3) := by decide +kernel
theorem dX7_holds_8 : decode cX7_holds 8 = .ok (.iconst 0, 1) := by decide +kernel
theorem dX7_holds_9 : decode cX7_holds 9 = .ok (.ireturn, 1) := by decide +kernel
theorem dX7_holds_10 : decode cX7_holds 10 = .ok (.aload_n 0, 1) := by decide +kernel
theorem dX7_holds_11 : decode cX7_holds 11 = .ok (.getfield 25, 3) := by decide +kernel
theorem dX7_holds_14 : decode cX7_holds 14 = .ok (.ifCond .ne 13, 3) := by decide +kernel
theorem dX7_holds_17 : decode cX7_holds 17 = .ok (.aload_n 0, 1) := by decide +kernel
theorem dX7_holds_18 : decode cX7_holds 18 = .ok (.getfield 12, 3) := by decide +kernel
theorem dX7_holds_21 : decode cX7_holds 21 = .ok (.getfield 36, 3) := by decide +kernel
theorem dX7_holds_24 : decode cX7_holds 24 = .ok (.goto 10, 3) := by decide +kernel
theorem dX7_holds_27 : decode cX7_holds 27 = .ok (.aload_n 0, 1) := by decide +kernel
theorem dX7_holds_28 : decode cX7_holds 28 = .ok (.getfield 21, 3) := by decide +kernel
theorem dX7_holds_31 : decode cX7_holds 31 = .ok (.invokevirtual 39, 3) := by decide +kernel
theorem dX7_holds_34 : decode cX7_holds 34 = .ok (.ireturn, 1) := by decide +kernel
theorem dX8_init_0 : decode cX8_init 0 = .ok (.aload_n 0, 1) := by decide +kernel
theorem dX8_init_1 : decode cX8_init 1 = .ok (.invokespecial 1, 3) := by decide +kernel
theorem dX8_init_4 : decode cX8_init 4 = .ok (.aload_n 0, 1) := by decide +kernel
theorem dX8_init_5 : decode cX8_init 5 = .ok (.bipush 6, 2) := by decide +kernel
theorem dX8_init_7 : decode cX8_init 7 = .ok (.anewarray 9, 3) := by decide +kernel
theorem dX8_init_10 : decode cX8_init 10 = .ok (.putfield 11, 3) := by decide +kernel
theorem dX8_init_13 : decode cX8_init 13 = .ok (.aload_n 0, 1) := by decide +kernel
theorem dX8_init_14 : decode cX8_init 14 = .ok (.iconst 4, 1) := by decide +kernel
theorem dX8_init_15 : decode cX8_init 15 = .ok (.anewarray 15, 3) := by decide +kernel
theorem dX8_init_18 : decode cX8_init 18 = .ok (.putfield 17, 3) := by decide +kernel
theorem dX8_init_21 : decode cX8_init 21 = .ok (.aload_n 0, 1) := by decide +kernel
theorem dX8_init_22 : decode cX8_init 22 = .ok (.iconst 4, 1) := by decide +kernel
theorem dX8_init_23 : decode cX8_init 23 = .ok (.anewarray 21, 3) := by decide +kernel
theorem dX8_init_26 : decode cX8_init 26 = .ok (.putfield 23, 3) := by decide +kernel
theorem dX8_init_29 : decode cX8_init 29 = .ok (.aload_n 0, 1) := by decide +kernel
theorem dX8_init_30 : decode cX8_init 30 = .ok (.new 9, 3) := by decide +kernel
theorem dX8_init_33 : decode cX8_init 33 = .ok (.dup, 1) := by decide +kernel
theorem dX8_init_34 : decode cX8_init 34 = .ok (.invokespecial 27, 3) := by decide +kernel
theorem dX8_init_37 : decode cX8_init 37 = .ok (.putfield 28, 3) := by decide +kernel
theorem dX8_init_40 : decode cX8_init 40 = .ok (.aload_n 0, 1) := by decide +kernel
theorem dX8_init_41 : decode cX8_init 41 = .ok (.new 32, 3) := by decide +kernel
theorem dX8_init_44 : decode cX8_init 44 = .ok (.dup, 1) := by decide +kernel
theorem dX8_init_45 : decode cX8_init 45 = .ok (.invokespecial 34, 3) := by decide +kernel
theorem dX8_init_48 : decode cX8_init 48 = .ok (.putfield 35, 3) := by decide +kernel
theorem dX8_init_51 : decode cX8_init 51 = .ok (.aload_n 0, 1) := by decide +kernel
theorem dX8_init_52 : decode cX8_init 52 = .ok (.new 39, 3) := by decide +kernel
theorem dX8_init_55 : decode cX8_init 55 = .ok (.dup, 1) := by decide +kernel
theorem dX8_init_56 : decode cX8_init 56 = .ok (.invokespecial 41, 3) := by decide +kernel
theorem dX8_init_59 : decode cX8_init 59 = .ok (.putfield 42, 3) := by decide +kernel
theorem dX8_init_62 : decode cX8_init 62 = .ok (.iconst 0, 1) := by decide +kernel
theorem dX8_init_63 : decode cX8_init 63 = .ok (.istore_n 1, 1) := by decide +kernel
theorem dX8_init_64 : decode cX8_init 64 = .ok (.iload_n 1, 1) := by decide +kernel
theorem dX8_init_65 : decode cX8_init 65 = .ok (.aload_n 0, 1) := by decide +kernel
theorem dX8_init_66 : decode cX8_init 66 = .ok (.getfield 11, 3) := by decide +kernel
theorem dX8_init_69 : decode cX8_init 69 = .ok (.arraylength, 1) := by decide +kernel
theorem dX8_init_70 : decode cX8_init 70 = .ok (.if_icmp .ge 22, 3) := by decide +kernel
theorem dX8_init_73 : decode cX8_init 73 = .ok (.aload_n 0, 1) := by decide +kernel
theorem dX8_init_74 : decode cX8_init 74 = .ok (.getfield 11, 3) := by decide +kernel
theorem dX8_init_77 : decode cX8_init 77 = .ok (.iload_n 1, 1) := by decide +kernel
theorem dX8_init_78 : decode cX8_init 78 = .ok (.new 9, 3) := by decide +kernel
theorem dX8_init_81 : decode cX8_init 81 = .ok (.dup, 1) := by decide +kernel
theorem dX8_init_82 : decode cX8_init 82 = .ok (.invokespecial 27, 3) := by decide +kernel
theorem dX8_init_85 : decode cX8_init 85 = .ok (.aastore, 1) := by decide +kernel
theorem dX8_init_86 : decode cX8_init 86 = .ok (.iinc 1 1, 3) := by decide +kernel
theorem dX8_init_89 : decode cX8_init 89 = .ok (.goto (-25), 3) := by decide +kernel
theorem dX8_init_92 : decode cX8_init 92 = .ok (.iconst 0, 1) := by decide +kernel
theorem dX8_init_93 : decode cX8_init 93 = .ok (.istore_n 1, 1) := by decide +kernel
theorem dX8_init_94 : decode cX8_init 94 = .ok (.iload_n 1, 1) := by decide +kernel
theorem dX8_init_95 : decode cX8_init 95 = .ok (.aload_n 0, 1) := by decide +kernel
theorem dX8_init_96 : decode cX8_init 96 = .ok (.getfield 17, 3) := by decide +kernel
theorem dX8_init_99 : decode cX8_init 99 = .ok (.arraylength, 1) := by decide +kernel
theorem dX8_init_100 : decode cX8_init 100 = .ok (.if_icmp .ge 22, 3) := by decide +kernel
theorem dX8_init_103 : decode cX8_init 103 = .ok (.aload_n 0, 1) := by decide +kernel
theorem dX8_init_104 : decode cX8_init 104 = .ok (.getfield 17, 3) := by decide +kernel
theorem dX8_init_107 : decode cX8_init 107 = .ok (.iload_n 1, 1) := by decide +kernel
theorem dX8_init_108 : decode cX8_init 108 = .ok (.new 15, 3) := by decide +kernel
theorem dX8_init_111 : decode cX8_init 111 = .ok (.dup, 1) := by decide +kernel
theorem dX8_init_112 : decode cX8_init 112 = .ok (.invokespecial 46, 3) := by decide +kernel
theorem dX8_init_115 : decode cX8_init 115 = .ok (.aastore, 1) := by decide +kernel
theorem dX8_init_116 : decode cX8_init 116 = .ok (.iinc 1 1, 3) := by decide +kernel
theorem dX8_init_119 : decode cX8_init 119 = .ok (.goto (-25), 3) := by decide +kernel
theorem dX8_init_122 : decode cX8_init 122 = .ok (.iconst 0, 1) := by decide +kernel
theorem dX8_init_123 : decode cX8_init 123 = .ok (.istore_n 1, 1) := by decide +kernel
theorem dX8_init_124 : decode cX8_init 124 = .ok (.iload_n 1, 1) := by decide +kernel
theorem dX8_init_125 : decode cX8_init 125 = .ok (.aload_n 0, 1) := by decide +kernel
theorem dX8_init_126 : decode cX8_init 126 = .ok (.getfield 23, 3) := by decide +kernel
theorem dX8_init_129 : decode cX8_init 129 = .ok (.arraylength, 1) := by decide +kernel
theorem dX8_init_130 : decode cX8_init 130 = .ok (.if_icmp .ge 22, 3) := by decide +kernel
theorem dX8_init_133 : decode cX8_init 133 = .ok (.aload_n 0, 1) := by decide +kernel
theorem dX8_init_134 : decode cX8_init 134 = .ok (.getfield 23, 3) := by decide +kernel
theorem dX8_init_137 : decode cX8_init 137 = .ok (.iload_n 1, 1) := by decide +kernel
theorem dX8_init_138 : decode cX8_init 138 = .ok (.new 21, 3) := by decide +kernel
theorem dX8_init_141 : decode cX8_init 141 = .ok (.dup, 1) := by decide +kernel
theorem dX8_init_142 : decode cX8_init 142 = .ok (.invokespecial 47, 3) := by decide +kernel
theorem dX8_init_145 : decode cX8_init 145 = .ok (.aastore, 1) := by decide +kernel
theorem dX8_init_146 : decode cX8_init 146 = .ok (.iinc 1 1, 3) := by decide +kernel
theorem dX8_init_149 : decode cX8_init 149 = .ok (.goto (-25), 3) := by decide +kernel
theorem dX8_init_152 : decode cX8_init 152 = .ok (.return_, 1) := by decide +kernel
theorem dX8_file_0 : decode cX8_file 0 = .ok (.aload_n 0, 1) := by decide +kernel
theorem dX8_file_1 : decode cX8_file 1 = .ok (.getfield 48, 3) := by decide +kernel
theorem dX8_file_4 : decode cX8_file 4 = .ok (.bipush 6, 2) := by decide +kernel
theorem dX8_file_6 : decode cX8_file 6 = .ok (.if_icmp .lt 13, 3) := by decide +kernel
theorem dX8_file_9 : decode cX8_file 9 = .ok (.new 52, 3) := by decide +kernel
theorem dX8_file_12 : decode cX8_file 12 = .ok (.dup, 1) := by decide +kernel
theorem dX8_file_13 : decode cX8_file 13 = .ok (.ldc 54, 2) := by decide +kernel
theorem dX8_file_15 : decode cX8_file 15 = .ok (.invokespecial 56, 3) := by decide +kernel
theorem dX8_file_18 : decode cX8_file 18 = .ok (.athrow, 1) := by decide +kernel
theorem dX8_file_19 : decode cX8_file 19 = .ok (.aload_n 0, 1) := by decide +kernel
theorem dX8_file_20 : decode cX8_file 20 = .ok (.dup, 1) := by decide +kernel
theorem dX8_file_21 : decode cX8_file 21 = .ok (.getfield 48, 3) := by decide +kernel
theorem dX8_file_24 : decode cX8_file 24 = .ok (.iconst 1, 1) := by decide +kernel
theorem dX8_file_25 : decode cX8_file 25 = .ok (.iadd, 1) := by decide +kernel
theorem dX8_file_26 : decode cX8_file 26 = .ok (.putfield 48, 3) := by decide +kernel
theorem dX8_file_29 : decode cX8_file 29 = .ok (.aload_n 0, 1) := by decide +kernel
theorem dX8_file_30 : decode cX8_file 30 = .ok (.getfield 48, 3) := by decide +kernel
theorem dX8_file_33 : decode cX8_file 33 = .ok (.iconst 1, 1) := by decide +kernel
theorem dX8_file_34 : decode cX8_file 34 = .ok (.isub, 1) := by decide +kernel
theorem dX8_file_35 : decode cX8_file 35 = .ok (.ireturn, 1) := by decide +kernel
theorem dX8_add_0 : decode cX8_add 0 = .ok (.aload_n 0, 1) := by decide +kernel
theorem dX8_add_1 : decode cX8_add 1 = .ok (.iload_n 1, 1) := by decide +kernel
theorem dX8_add_2 : decode cX8_add 2 = .ok (.invokevirtual 59, 3) := by decide +kernel
theorem dX8_add_5 : decode cX8_add 5 = .ok (.iload_n 2, 1) := by decide +kernel
theorem dX8_add_6 : decode cX8_add 6 = .ok (.iconst 0, 1) := by decide +kernel
theorem dX8_add_7 : decode cX8_add 7 = .ok (.sipush 255, 3) := by decide +kernel
theorem dX8_add_10 : decode cX8_add 10 = .ok (.invokestatic 63, 3) := by decide +kernel
theorem dX8_add_13 : decode cX8_add 13 = .ok (.iload_n 3, 1) := by decide +kernel
theorem dX8_add_14 : decode cX8_add 14 = .ok (.iconst 0, 1) := by decide +kernel
theorem dX8_add_15 : decode cX8_add 15 = .ok (.sipush 255, 3) := by decide +kernel
theorem dX8_add_18 : decode cX8_add 18 = .ok (.invokestatic 63, 3) := by decide +kernel
theorem dX8_add_21 : decode cX8_add 21 = .ok (.iload 4, 2) := by decide +kernel
theorem dX8_add_23 : decode cX8_add 23 = .ok (.iconst 1, 1) := by decide +kernel
theorem dX8_add_24 : decode cX8_add 24 = .ok (.bipush 120, 2) := by decide +kernel
theorem dX8_add_26 : decode cX8_add 26 = .ok (.invokestatic 63, 3) := by decide +kernel
theorem dX8_add_29 : decode cX8_add 29 = .ok (.aload_n 0, 1) := by decide +kernel
theorem dX8_add_30 : decode cX8_add 30 = .ok (.getfield 11, 3) := by decide +kernel
theorem dX8_add_33 : decode cX8_add 33 = .ok (.iload_n 1, 1) := by decide +kernel
theorem dX8_add_34 : decode cX8_add 34 = .ok (.aaload, 1) := by decide +kernel
theorem dX8_add_35 : decode cX8_add 35 = .ok (.astore 5, 2) := by decide +kernel
theorem dX8_add_37 : decode cX8_add 37 = .ok (.aload 5, 2) := by decide +kernel
theorem dX8_add_39 : decode cX8_add 39 = .ok (.getfield 67, 3) := by decide +kernel
theorem dX8_add_42 : decode cX8_add 42 = .ok (.iload 4, 2) := by decide +kernel
theorem dX8_add_44 : decode cX8_add 44 = .ok (.iadd, 1) := by decide +kernel
theorem dX8_add_45 : decode cX8_add 45 = .ok (.bipush 120, 2) := by decide +kernel
theorem dX8_add_47 : decode cX8_add 47 = .ok (.if_icmp .le 13, 3) := by decide +kernel
theorem dX8_add_50 : decode cX8_add 50 = .ok (.new 52, 3) := by decide +kernel
theorem dX8_add_53 : decode cX8_add 53 = .ok (.dup, 1) := by decide +kernel
theorem dX8_add_54 : decode cX8_add 54 = .ok (.ldc 70, 2) := by decide +kernel
theorem dX8_add_56 : decode cX8_add 56 = .ok (.invokespecial 56, 3) := by decide +kernel
theorem dX8_add_59 : decode cX8_add 59 = .ok (.athrow, 1) := by decide +kernel
theorem dX8_add_60 : decode cX8_add 60 = .ok (.iconst 0, 1) := by decide +kernel
theorem dX8_add_61 : decode cX8_add 61 = .ok (.istore 6, 2) := by decide +kernel
theorem dX8_add_63 : decode cX8_add 63 = .ok (.iload 6, 2) := by decide +kernel
theorem dX8_add_65 : decode cX8_add 65 = .ok (.iload 4, 2) := by decide +kernel
theorem dX8_add_67 : decode cX8_add 67 = .ok (.if_icmp .ge 24, 3) := by decide +kernel
theorem dX8_add_70 : decode cX8_add 70 = .ok (.aload 5, 2) := by decide +kernel
theorem dX8_add_72 : decode cX8_add 72 = .ok (.iload_n 2, 1) := by decide +kernel
theorem dX8_add_73 : decode cX8_add 73 = .ok (.iload 6, 2) := by decide +kernel
theorem dX8_add_75 : decode cX8_add 75 = .ok (.iload_n 3, 1) := by decide +kernel
theorem dX8_add_76 : decode cX8_add 76 = .ok (.imul, 1) := by decide +kernel
theorem dX8_add_77 : decode cX8_add 77 = .ok (.iadd, 1) := by decide +kernel
theorem dX8_add_78 : decode cX8_add 78 = .ok (.sipush 256, 3) := by decide +kernel
theorem dX8_add_81 : decode cX8_add 81 = .ok (.irem, 1) := by decide +kernel
theorem dX8_add_82 : decode cX8_add 82 = .ok (.invokevirtual 72, 3) := by decide +kernel
theorem dX8_add_85 : decode cX8_add 85 = .ok (.iinc 6 1, 3) := by decide +kernel
theorem dX8_add_88 : decode cX8_add 88 = .ok (.goto (-25), 3) := by decide +kernel
theorem dX8_add_91 : decode cX8_add 91 = .ok (.aload 5, 2) := by decide +kernel
theorem dX8_add_93 : decode cX8_add 93 = .ok (.getfield 67, 3) := by decide +kernel
theorem dX8_add_96 : decode cX8_add 96 = .ok (.ireturn, 1) := by decide +kernel
theorem dX8_insert_0 : decode cX8_insert 0 = .ok (.aload_n 0, 1) := by decide +kernel
theorem dX8_insert_1 : decode cX8_insert 1 = .ok (.iload_n 1, 1) := by decide +kernel
theorem dX8_insert_2 : decode cX8_insert 2 = .ok (.invokevirtual 59, 3) := by decide +kernel
theorem dX8_insert_5 : decode cX8_insert 5 = .ok (.aload_n 0, 1) := by decide +kernel
theorem dX8_insert_6 : decode cX8_insert 6 = .ok (.getfield 11, 3) := by decide +kernel
theorem dX8_insert_9 : decode cX8_insert 9 = .ok (.iload_n 1, 1) := by decide +kernel
theorem dX8_insert_10 : decode cX8_insert 10 = .ok (.aaload, 1) := by decide +kernel
theorem dX8_insert_11 : decode cX8_insert 11 = .ok (.astore 4, 2) := by decide +kernel
theorem dX8_insert_13 : decode cX8_insert 13 = .ok (.iload_n 2, 1) := by decide +kernel
theorem dX8_insert_14 : decode cX8_insert 14 = .ok (.aload 4, 2) := by decide +kernel
theorem dX8_insert_16 : decode cX8_insert 16 = .ok (.getfield 67, 3) := by decide +kernel
theorem dX8_insert_19 : decode cX8_insert 19 = .ok (.iconst 1, 1) := by decide +kernel
theorem dX8_insert_20 : decode cX8_insert 20 = .ok (.iadd, 1) := by decide +kernel
theorem dX8_insert_21 : decode cX8_insert 21 = .ok (.invokestatic 75, 3) := by decide +kernel
theorem dX8_insert_24 : decode cX8_insert 24 = .ok (.iload_n 3, 1) := by decide +kernel
theorem dX8_insert_25 : decode cX8_insert 25 = .ok (.iconst 0, 1) := by decide +kernel
theorem dX8_insert_26 : decode cX8_insert 26 = .ok (.sipush 255, 3) := by decide +kernel
theorem dX8_insert_29 : decode cX8_insert 29 = .ok (.invokestatic 63, 3) := by decide +kernel
theorem dX8_insert_32 : decode cX8_insert 32 = .ok (.aload 4, 2) := by decide +kernel
theorem dX8_insert_34 : decode cX8_insert 34 = .ok (.getfield 67, 3) := by decide +kernel
theorem dX8_insert_37 : decode cX8_insert 37 = .ok (.bipush 120, 2) := by decide +kernel
theorem dX8_insert_39 : decode cX8_insert 39 = .ok (.if_icmp .lt 13, 3) := by decide +kernel
theorem dX8_insert_42 : decode cX8_insert 42 = .ok (.new 52, 3) := by decide +kernel
theorem dX8_insert_45 : decode cX8_insert 45 = .ok (.dup, 1) := by decide +kernel
theorem dX8_insert_46 : decode cX8_insert 46 = .ok (.ldc 79, 2) := by decide +kernel
theorem dX8_insert_48 : decode cX8_insert 48 = .ok (.invokespecial 56, 3) := by decide +kernel
theorem dX8_insert_51 : decode cX8_insert 51 = .ok (.athrow, 1) := by decide +kernel
theorem dX8_insert_52 : decode cX8_insert 52 = .ok (.aload 4, 2) := by decide +kernel
theorem dX8_insert_54 : decode cX8_insert 54 = .ok (.iload_n 2, 1) := by decide +kernel
theorem dX8_insert_55 : decode cX8_insert 55 = .ok (.iload_n 3, 1) := by decide +kernel
theorem dX8_insert_56 : decode cX8_insert 56 = .ok (.invokevirtual 81, 3) := by decide +kernel
theorem dX8_insert_59 : decode cX8_insert 59 = .ok (.aload 4, 2) := by decide +kernel
theorem dX8_insert_61 : decode cX8_insert 61 = .ok (.getfield 67, 3) := by decide +kernel
theorem dX8_insert_64 : decode cX8_insert 64 = .ok (.ireturn, 1) := by decide +kernel
theorem dX8_remove_0 : decode cX8_remove 0 = .ok (.aload_n 0, 1) := by decide +kernel
theorem dX8_remove_1 : decode cX8_remove 1 = .ok (.iload_n 1, 1) := by decide +kernel
theorem dX8_remove_2 : decode cX8_remove 2 = .ok (.invokevirtual 59, 3) := by decide +kernel
theorem dX8_remove_5 : decode cX8_remove 5 = .ok (.aload_n 0, 1) := by decide +kernel
theorem dX8_remove_6 : decode cX8_remove 6 = .ok (.getfield 11, 3) := by decide +kernel
theorem dX8_remove_9 : decode cX8_remove 9 = .ok (.iload_n 1, 1) := by decide +kernel
theorem dX8_remove_10 : decode cX8_remove 10 = .ok (.aaload, 1) := by decide +kernel
theorem dX8_remove_11 : decode cX8_remove 11 = .ok (.astore 4, 2) := by decide +kernel
theorem dX8_remove_13 : decode cX8_remove 13 = .ok (.iload_n 2, 1) := by decide +kernel
theorem dX8_remove_14 : decode cX8_remove 14 = .ok (.aload 4, 2) := by decide +kernel
theorem dX8_remove_16 : decode cX8_remove 16 = .ok (.getfield 67, 3) := by decide +kernel
theorem dX8_remove_19 : decode cX8_remove 19 = .ok (.iconst 1, 1) := by decide +kernel
theorem dX8_remove_20 : decode cX8_remove 20 = .ok (.iadd, 1) := by decide +kernel
theorem dX8_remove_21 : decode cX8_remove 21 = .ok (.invokestatic 75, 3) := by decide +kernel
theorem dX8_remove_24 : decode cX8_remove 24 = .ok (.iload_n 3, 1) := by decide +kernel
theorem dX8_remove_25 : decode cX8_remove 25 = .ok (.iconst 0, 1) := by decide +kernel
theorem dX8_remove_26 : decode cX8_remove 26 = .ok (.aload 4, 2) := by decide +kernel
theorem dX8_remove_28 : decode cX8_remove 28 = .ok (.getfield 67, 3) := by decide +kernel
theorem dX8_remove_31 : decode cX8_remove 31 = .ok (.iload_n 2, 1) := by decide +kernel
theorem dX8_remove_32 : decode cX8_remove 32 = .ok (.isub, 1) := by decide +kernel
theorem dX8_remove_33 : decode cX8_remove 33 = .ok (.invokestatic 63, 3) := by decide +kernel
theorem dX8_remove_36 : decode cX8_remove 36 = .ok (.aload 4, 2) := by decide +kernel
theorem dX8_remove_38 : decode cX8_remove 38 = .ok (.iload_n 2, 1) := by decide +kernel
theorem dX8_remove_39 : decode cX8_remove 39 = .ok (.iload_n 3, 1) := by decide +kernel
theorem dX8_remove_40 : decode cX8_remove 40 = .ok (.invokevirtual 84, 3) := by decide +kernel
theorem dX8_remove_43 : decode cX8_remove 43 = .ok (.aload 4, 2) := by decide +kernel
theorem dX8_remove_45 : decode cX8_remove 45 = .ok (.getfield 67, 3) := by decide +kernel
theorem dX8_remove_48 : decode cX8_remove 48 = .ok (.ireturn, 1) := by decide +kernel
theorem dX8_copy_0 : decode cX8_copy 0 = .ok (.aload_n 0, 1) := by decide +kernel
theorem dX8_copy_1 : decode cX8_copy 1 = .ok (.iload_n 1, 1) := by decide +kernel
theorem dX8_copy_2 : decode cX8_copy 2 = .ok (.invokevirtual 59, 3) := by decide +kernel
theorem dX8_copy_5 : decode cX8_copy 5 = .ok (.aload_n 0, 1) := by decide +kernel
theorem dX8_copy_6 : decode cX8_copy 6 = .ok (.iload_n 2, 1) := by decide +kernel
theorem dX8_copy_7 : decode cX8_copy 7 = .ok (.invokevirtual 59, 3) := by decide +kernel
theorem dX8_copy_10 : decode cX8_copy 10 = .ok (.aload_n 0, 1) := by decide +kernel
theorem dX8_copy_11 : decode cX8_copy 11 = .ok (.getfield 11, 3) := by decide +kernel
theorem dX8_copy_14 : decode cX8_copy 14 = .ok (.iload_n 2, 1) := by decide +kernel
theorem dX8_copy_15 : decode cX8_copy 15 = .ok (.aaload, 1) := by decide +kernel
theorem dX8_copy_16 : decode cX8_copy 16 = .ok (.aload_n 0, 1) := by decide +kernel
theorem dX8_copy_17 : decode cX8_copy 17 = .ok (.getfield 11, 3) := by decide +kernel
theorem dX8_copy_20 : decode cX8_copy 20 = .ok (.iload_n 1, 1) := by decide +kernel
theorem dX8_copy_21 : decode cX8_copy 21 = .ok (.aaload, 1) := by decide +kernel
theorem dX8_copy_22 : decode cX8_copy 22 = .ok (.invokevirtual 87, 3) := by decide +kernel
theorem dX8_copy_25 : decode cX8_copy 25 = .ok (.return_, 1) := by decide +kernel
theorem dX8_length_0 : decode cX8_length 0 = .ok (.aload_n 0, 1) := by decide +kernel
theorem dX8_length_1 : decode cX8_length 1 = .ok (.iload_n 1, 1) := by decide +kernel
theorem dX8_length_2 : decode cX8_length 2 = .ok (.invokevirtual 59, 3) := by decide +kernel
theorem dX8_length_5 : decode cX8_length 5 = .ok (.aload_n 0, 1) := by decide +kernel
theorem dX8_length_6 : decode cX8_length 6 = .ok (.getfield 11, 3) := by decide +kernel
theorem dX8_length_9 : decode cX8_length 9 = .ok (.iload_n 1, 1) := by decide +kernel
theorem dX8_length_10 : decode cX8_length 10 = .ok (.aaload, 1) := by decide +kernel
theorem dX8_length_11 : decode cX8_length 11 = .ok (.getfield 67, 3) := by decide +kernel
theorem dX8_length_14 : decode cX8_length 14 = .ok (.ireturn, 1) := by decide +kernel
theorem dX8_byteAt_0 : decode cX8_byteAt 0 = .ok (.aload_n 0, 1) := by decide +kernel
theorem dX8_byteAt_1 : decode cX8_byteAt 1 = .ok (.iload_n 1, 1) := by decide +kernel
theorem dX8_byteAt_2 : decode cX8_byteAt 2 = .ok (.invokevirtual 59, 3) := by decide +kernel
theorem dX8_byteAt_5 : decode cX8_byteAt 5 = .ok (.iload_n 2, 1) := by decide +kernel
theorem dX8_byteAt_6 : decode cX8_byteAt 6 = .ok (.aload_n 0, 1) := by decide +kernel
theorem dX8_byteAt_7 : decode cX8_byteAt 7 = .ok (.getfield 11, 3) := by decide +kernel
theorem dX8_byteAt_10 : decode cX8_byteAt 10 = .ok (.iload_n 1, 1) := by decide +kernel
theorem dX8_byteAt_11 : decode cX8_byteAt 11 = .ok (.aaload, 1) := by decide +kernel
theorem dX8_byteAt_12 : decode cX8_byteAt 12 = .ok (.getfield 67, 3) := by decide +kernel
theorem dX8_byteAt_15 : decode cX8_byteAt 15 = .ok (.invokestatic 75, 3) := by decide +kernel
theorem dX8_byteAt_18 : decode cX8_byteAt 18 = .ok (.aload_n 0, 1) := by decide +kernel
theorem dX8_byteAt_19 : decode cX8_byteAt 19 = .ok (.getfield 11, 3) := by decide +kernel
theorem dX8_byteAt_22 : decode cX8_byteAt 22 = .ok (.iload_n 1, 1) := by decide +kernel
theorem dX8_byteAt_23 : decode cX8_byteAt 23 = .ok (.aaload, 1) := by decide +kernel
theorem dX8_byteAt_24 : decode cX8_byteAt 24 = .ok (.iload_n 2, 1) := by decide +kernel
theorem dX8_byteAt_25 : decode cX8_byteAt 25 = .ok (.invokevirtual 91, 3) := by decide +kernel
theorem dX8_byteAt_28 : decode cX8_byteAt 28 = .ok (.ireturn, 1) := by decide +kernel
theorem dX8_same_0 : decode cX8_same 0 = .ok (.aload_n 0, 1) := by decide +kernel
theorem dX8_same_1 : decode cX8_same 1 = .ok (.iload_n 1, 1) := by decide +kernel
theorem dX8_same_2 : decode cX8_same 2 = .ok (.invokevirtual 59, 3) := by decide +kernel
theorem dX8_same_5 : decode cX8_same 5 = .ok (.aload_n 0, 1) := by decide +kernel
theorem dX8_same_6 : decode cX8_same 6 = .ok (.iload_n 2, 1) := by decide +kernel
theorem dX8_same_7 : decode cX8_same 7 = .ok (.invokevirtual 59, 3) := by decide +kernel
theorem dX8_same_10 : decode cX8_same 10 = .ok (.aload_n 0, 1) := by decide +kernel
theorem dX8_same_11 : decode cX8_same 11 = .ok (.getfield 11, 3) := by decide +kernel
theorem dX8_same_14 : decode cX8_same 14 = .ok (.iload_n 1, 1) := by decide +kernel
theorem dX8_same_15 : decode cX8_same 15 = .ok (.aaload, 1) := by decide +kernel
theorem dX8_same_16 : decode cX8_same 16 = .ok (.aload_n 0, 1) := by decide +kernel
theorem dX8_same_17 : decode cX8_same 17 = .ok (.getfield 11, 3) := by decide +kernel
theorem dX8_same_20 : decode cX8_same 20 = .ok (.iload_n 2, 1) := by decide +kernel
theorem dX8_same_21 : decode cX8_same 21 = .ok (.aaload, 1) := by decide +kernel
theorem dX8_same_22 : decode cX8_same 22 = .ok (.invokevirtual 95, 3) := by decide +kernel
theorem dX8_same_25 : decode cX8_same 25 = .ok (.ireturn, 1) := by decide +kernel
theorem dX8_sign_0 : decode cX8_sign 0 = .ok (.iload_n 1, 1) := by decide +kernel
theorem dX8_sign_1 : decode cX8_sign 1 = .ok (.iconst 4, 1) := by decide +kernel
theorem dX8_sign_2 : decode cX8_sign 2 = .ok (.invokestatic 75, 3) := by decide +kernel
theorem dX8_sign_5 : decode cX8_sign 5 = .ok (.aload_n 0, 1) := by decide +kernel
theorem dX8_sign_6 : decode cX8_sign 6 = .ok (.iload_n 2, 1) := by decide +kernel
theorem dX8_sign_7 : decode cX8_sign 7 = .ok (.invokevirtual 59, 3) := by decide +kernel
theorem dX8_sign_10 : decode cX8_sign 10 = .ok (.iload_n 3, 1) := by decide +kernel
theorem dX8_sign_11 : decode cX8_sign 11 = .ok (.iconst 1, 1) := by decide +kernel
theorem dX8_sign_12 : decode cX8_sign 12 = .ok (.bipush 7, 2) := by decide +kernel
theorem dX8_sign_14 : decode cX8_sign 14 = .ok (.invokestatic 63, 3) := by decide +kernel
theorem dX8_sign_17 : decode cX8_sign 17 = .ok (.iload 4, 2) := by decide +kernel
theorem dX8_sign_19 : decode cX8_sign 19 = .ok (.iconst 1, 1) := by decide +kernel
theorem dX8_sign_20 : decode cX8_sign 20 = .ok (.sipush 4096, 3) := by decide +kernel
theorem dX8_sign_23 : decode cX8_sign 23 = .ok (.invokestatic 63, 3) := by decide +kernel
theorem dX8_sign_26 : decode cX8_sign 26 = .ok (.aload_n 0, 1) := by decide +kernel
theorem dX8_sign_27 : decode cX8_sign 27 = .ok (.getfield 17, 3) := by decide +kernel
theorem dX8_sign_30 : decode cX8_sign 30 = .ok (.iload_n 1, 1) := by decide +kernel
theorem dX8_sign_31 : decode cX8_sign 31 = .ok (.aaload, 1) := by decide +kernel
theorem dX8_sign_32 : decode cX8_sign 32 = .ok (.aload_n 0, 1) := by decide +kernel
theorem dX8_sign_33 : decode cX8_sign 33 = .ok (.getfield 11, 3) := by decide +kernel
theorem dX8_sign_36 : decode cX8_sign 36 = .ok (.iload_n 2, 1) := by decide +kernel
theorem dX8_sign_37 : decode cX8_sign 37 = .ok (.aaload, 1) := by decide +kernel
theorem dX8_sign_38 : decode cX8_sign 38 = .ok (.iload_n 3, 1) := by decide +kernel
theorem dX8_sign_39 : decode cX8_sign 39 = .ok (.iload 4, 2) := by decide +kernel
theorem dX8_sign_41 : decode cX8_sign 41 = .ok (.invokevirtual 99, 3) := by decide +kernel
theorem dX8_sign_44 : decode cX8_sign 44 = .ok (.aload_n 0, 1) := by decide +kernel
theorem dX8_sign_45 : decode cX8_sign 45 = .ok (.getfield 17, 3) := by decide +kernel
theorem dX8_sign_48 : decode cX8_sign 48 = .ok (.iload_n 1, 1) := by decide +kernel
theorem dX8_sign_49 : decode cX8_sign 49 = .ok (.aaload, 1) := by decide +kernel
theorem dX8_sign_50 : decode cX8_sign 50 = .ok (.getfield 103, 3) := by decide +kernel
theorem dX8_sign_53 : decode cX8_sign 53 = .ok (.ireturn, 1) := by decide +kernel
theorem dX8_blocks_0 : decode cX8_blocks 0 = .ok (.iload_n 1, 1) := by decide +kernel
theorem dX8_blocks_1 : decode cX8_blocks 1 = .ok (.iconst 4, 1) := by decide +kernel
theorem dX8_blocks_2 : decode cX8_blocks 2 = .ok (.invokestatic 75, 3) := by decide +kernel
theorem dX8_blocks_5 : decode cX8_blocks 5 = .ok (.aload_n 0, 1) := by decide +kernel
theorem dX8_blocks_6 : decode cX8_blocks 6 = .ok (.getfield 17, 3) := by decide +kernel
theorem dX8_blocks_9 : decode cX8_blocks 9 = .ok (.iload_n 1, 1) := by decide +kernel
theorem dX8_blocks_10 : decode cX8_blocks 10 = .ok (.aaload, 1) := by decide +kernel
theorem dX8_blocks_11 : decode cX8_blocks 11 = .ok (.getfield 103, 3) := by decide +kernel
theorem dX8_blocks_14 : decode cX8_blocks 14 = .ok (.ireturn, 1) := by decide +kernel
theorem dX8_weak_0 : decode cX8_weak 0 = .ok (.aload_n 0, 1) := by decide +kernel
theorem dX8_weak_1 : decode cX8_weak 1 = .ok (.iload_n 1, 1) := by decide +kernel
theorem dX8_weak_2 : decode cX8_weak 2 = .ok (.iload_n 2, 1) := by decide +kernel
theorem dX8_weak_3 : decode cX8_weak 3 = .ok (.invokevirtual 106, 3) := by decide +kernel
theorem dX8_weak_6 : decode cX8_weak 6 = .ok (.aload_n 0, 1) := by decide +kernel
theorem dX8_weak_7 : decode cX8_weak 7 = .ok (.getfield 17, 3) := by decide +kernel
theorem dX8_weak_10 : decode cX8_weak 10 = .ok (.iload_n 1, 1) := by decide +kernel
theorem dX8_weak_11 : decode cX8_weak 11 = .ok (.aaload, 1) := by decide +kernel
theorem dX8_weak_12 : decode cX8_weak 12 = .ok (.getfield 109, 3) := by decide +kernel
theorem dX8_weak_15 : decode cX8_weak 15 = .ok (.iload_n 2, 1) := by decide +kernel
theorem dX8_weak_16 : decode cX8_weak 16 = .ok (.iaload, 1) := by decide +kernel
theorem dX8_weak_17 : decode cX8_weak 17 = .ok (.ireturn, 1) := by decide +kernel
theorem dX8_strong_0 : decode cX8_strong 0 = .ok (.aload_n 0, 1) := by decide +kernel
theorem dX8_strong_1 : decode cX8_strong 1 = .ok (.iload_n 1, 1) := by decide +kernel
theorem dX8_strong_2 : decode cX8_strong 2 = .ok (.iload_n 2, 1) := by decide +kernel
theorem dX8_strong_3 : decode cX8_strong 3 = .ok (.invokevirtual 106, 3) := by decide +kernel
theorem dX8_strong_6 : decode cX8_strong 6 = .ok (.aload_n 0, 1) := by decide +kernel
theorem dX8_strong_7 : decode cX8_strong 7 = .ok (.getfield 17, 3) := by decide +kernel
theorem dX8_strong_10 : decode cX8_strong 10 = .ok (.iload_n 1, 1) := by decide +kernel
theorem dX8_strong_11 : decode cX8_strong 11 = .ok (.aaload, 1) := by decide +kernel
theorem dX8_strong_12 : decode cX8_strong 12 = .ok (.getfield 113, 3) := by decide +kernel
theorem dX8_strong_15 : decode cX8_strong 15 = .ok (.iload_n 2, 1) := by decide +kernel
theorem dX8_strong_16 : decode cX8_strong 16 = .ok (.laload, 1) := by decide +kernel
theorem dX8_strong_17 : decode cX8_strong 17 = .ok (.lreturn, 1) := by decide +kernel
theorem dX8_compare_0 : decode cX8_compare 0 = .ok (.iload_n 1, 1) := by decide +kernel
theorem dX8_compare_1 : decode cX8_compare 1 = .ok (.iconst 4, 1) := by decide +kernel
theorem dX8_compare_2 : decode cX8_compare 2 = .ok (.invokestatic 75, 3) := by decide +kernel
theorem dX8_compare_5 : decode cX8_compare 5 = .ok (.iload_n 2, 1) := by decide +kernel
theorem dX8_compare_6 : decode cX8_compare 6 = .ok (.iconst 4, 1) := by decide +kernel
theorem dX8_compare_7 : decode cX8_compare 7 = .ok (.invokestatic 75, 3) := by decide +kernel
theorem dX8_compare_10 : decode cX8_compare 10 = .ok (.aload_n 0, 1) := by decide +kernel
theorem dX8_compare_11 : decode cX8_compare 11 = .ok (.iload_n 3, 1) := by decide +kernel
theorem dX8_compare_12 : decode cX8_compare 12 = .ok (.invokevirtual 59, 3) := by decide +kernel
theorem dX8_compare_15 : decode cX8_compare 15 = .ok (.aload_n 0, 1) := by decide +kernel
theorem dX8_compare_16 : decode cX8_compare 16 = .ok (.getfield 17, 3) := by decide +kernel
theorem dX8_compare_19 : decode cX8_compare 19 = .ok (.iload_n 2, 1) := by decide +kernel
theorem dX8_compare_20 : decode cX8_compare 20 = .ok (.aaload, 1) := by decide +kernel
theorem dX8_compare_21 : decode cX8_compare 21 = .ok (.getfield 117, 3) := by decide +kernel
theorem dX8_compare_24 : decode cX8_compare 24 = .ok (.ifCond .ne 13, 3) := by decide +kernel
theorem dX8_compare_27 : decode cX8_compare 27 = .ok (.new 52, 3) := by decide +kernel
theorem dX8_compare_30 : decode cX8_compare 30 = .ok (.dup, 1) := by decide +kernel
theorem dX8_compare_31 : decode cX8_compare 31 = .ok (.ldc 121, 2) := by decide +kernel
theorem dX8_compare_33 : decode cX8_compare 33 = .ok (.invokespecial 56, 3) := by decide +kernel
theorem dX8_compare_36 : decode cX8_compare 36 = .ok (.athrow, 1) := by decide +kernel
theorem dX8_compare_37 : decode cX8_compare 37 = .ok (.aload_n 0, 1) := by decide +kernel
theorem dX8_compare_38 : decode cX8_compare 38 = .ok (.getfield 23, 3) := by decide +kernel
theorem dX8_compare_41 : decode cX8_compare 41 = .ok (.iload_n 1, 1) := by decide +kernel
theorem dX8_compare_42 : decode cX8_compare 42 = .ok (.aaload, 1) := by decide +kernel
theorem dX8_compare_43 : decode cX8_compare 43 = .ok (.aload_n 0, 1) := by decide +kernel
theorem dX8_compare_44 : decode cX8_compare 44 = .ok (.getfield 17, 3) := by decide +kernel
theorem dX8_compare_47 : decode cX8_compare 47 = .ok (.iload_n 2, 1) := by decide +kernel
theorem dX8_compare_48 : decode cX8_compare 48 = .ok (.aaload, 1) := by decide +kernel
theorem dX8_compare_49 : decode cX8_compare 49 = .ok (.aload_n 0, 1) := by decide +kernel
theorem dX8_compare_50 : decode cX8_compare 50 = .ok (.getfield 11, 3) := by decide +kernel
theorem dX8_compare_53 : decode cX8_compare 53 = .ok (.iload_n 3, 1) := by decide +kernel
theorem dX8_compare_54 : decode cX8_compare 54 = .ok (.aaload, 1) := by decide +kernel
theorem dX8_compare_55 : decode cX8_compare 55 = .ok (.invokevirtual 123, 3) := by decide +kernel
theorem dX8_compare_58 : decode cX8_compare 58 = .ok (.aload_n 0, 1) := by decide +kernel
theorem dX8_compare_59 : decode cX8_compare 59 = .ok (.getfield 23, 3) := by decide +kernel
theorem dX8_compare_62 : decode cX8_compare 62 = .ok (.iload_n 1, 1) := by decide +kernel
theorem dX8_compare_63 : decode cX8_compare 63 = .ok (.aaload, 1) := by decide +kernel
theorem dX8_compare_64 : decode cX8_compare 64 = .ok (.getfield 126, 3) := by decide +kernel
theorem dX8_compare_67 : decode cX8_compare 67 = .ok (.ireturn, 1) := by decide +kernel
theorem dX8_instructions_0 : decode cX8_instructions 0 = .ok (.iload_n 1, 1) := by decide +kernel
theorem dX8_instructions_1 : decode cX8_instructions 1 = .ok (.iconst 4, 1) := by decide +kernel
theorem dX8_instructions_2 : decode cX8_instructions 2 = .ok (.invokestatic 75, 3) := by decide +kernel
theorem dX8_instructions_5 : decode cX8_instructions 5 = .ok (.aload_n 0, 1) := by decide +kernel
theorem dX8_instructions_6 : decode cX8_instructions 6 = .ok (.getfield 23, 3) := by decide +kernel
theorem dX8_instructions_9 : decode cX8_instructions 9 = .ok (.iload_n 1, 1) := by decide +kernel
theorem dX8_instructions_10 : decode cX8_instructions 10 = .ok (.aaload, 1) := by decide +kernel
theorem dX8_instructions_11 : decode cX8_instructions 11 = .ok (.getfield 126, 3) := by decide +kernel
theorem dX8_instructions_14 : decode cX8_instructions 14 = .ok (.ireturn, 1) := by decide +kernel
theorem dX8_isCopy_0 : decode cX8_isCopy 0 = .ok (.aload_n 0, 1) := by decide +kernel
theorem dX8_isCopy_1 : decode cX8_isCopy 1 = .ok (.iload_n 1, 1) := by decide +kernel
theorem dX8_isCopy_2 : decode cX8_isCopy 2 = .ok (.iload_n 2, 1) := by decide +kernel
theorem dX8_isCopy_3 : decode cX8_isCopy 3 = .ok (.invokevirtual 127, 3) := by decide +kernel
theorem dX8_isCopy_6 : decode cX8_isCopy 6 = .ok (.aload_n 0, 1) := by decide +kernel
theorem dX8_isCopy_7 : decode cX8_isCopy 7 = .ok (.getfield 23, 3) := by decide +kernel
theorem dX8_isCopy_10 : decode cX8_isCopy 10 = .ok (.iload_n 1, 1) := by decide +kernel
theorem dX8_isCopy_11 : decode cX8_isCopy 11 = .ok (.aaload, 1) := by decide +kernel
theorem dX8_isCopy_12 : decode cX8_isCopy 12 = .ok (.getfield 130, 3) := by decide +kernel
theorem dX8_isCopy_15 : decode cX8_isCopy 15 = .ok (.iload_n 2, 1) := by decide +kernel
theorem dX8_isCopy_16 : decode cX8_isCopy 16 = .ok (.baload, 1) := by decide +kernel
theorem dX8_isCopy_17 : decode cX8_isCopy 17 = .ok (.ireturn, 1) := by decide +kernel
theorem dX8_startOf_0 : decode cX8_startOf 0 = .ok (.aload_n 0, 1) := by decide +kernel
theorem dX8_startOf_1 : decode cX8_startOf 1 = .ok (.iload_n 1, 1) := by decide +kernel
theorem dX8_startOf_2 : decode cX8_startOf 2 = .ok (.iload_n 2, 1) := by decide +kernel
theorem dX8_startOf_3 : decode cX8_startOf 3 = .ok (.invokevirtual 127, 3) := by decide +kernel
theorem dX8_startOf_6 : decode cX8_startOf 6 = .ok (.aload_n 0, 1) := by decide +kernel
theorem dX8_startOf_7 : decode cX8_startOf 7 = .ok (.getfield 23, 3) := by decide +kernel
theorem dX8_startOf_10 : decode cX8_startOf 10 = .ok (.iload_n 1, 1) := by decide +kernel
theorem dX8_startOf_11 : decode cX8_startOf 11 = .ok (.aaload, 1) := by decide +kernel
theorem dX8_startOf_12 : decode cX8_startOf 12 = .ok (.getfield 134, 3) := by decide +kernel
theorem dX8_startOf_15 : decode cX8_startOf 15 = .ok (.iload_n 2, 1) := by decide +kernel
theorem dX8_startOf_16 : decode cX8_startOf 16 = .ok (.iaload, 1) := by decide +kernel
theorem dX8_startOf_17 : decode cX8_startOf 17 = .ok (.ireturn, 1) := by decide +kernel
theorem dX8_bytesOf_0 : decode cX8_bytesOf 0 = .ok (.aload_n 0, 1) := by decide +kernel
theorem dX8_bytesOf_1 : decode cX8_bytesOf 1 = .ok (.iload_n 1, 1) := by decide +kernel
theorem dX8_bytesOf_2 : decode cX8_bytesOf 2 = .ok (.iload_n 2, 1) := by decide +kernel
theorem dX8_bytesOf_3 : decode cX8_bytesOf 3 = .ok (.invokevirtual 127, 3) := by decide +kernel
theorem dX8_bytesOf_6 : decode cX8_bytesOf 6 = .ok (.aload_n 0, 1) := by decide +kernel
theorem dX8_bytesOf_7 : decode cX8_bytesOf 7 = .ok (.getfield 23, 3) := by decide +kernel
theorem dX8_bytesOf_10 : decode cX8_bytesOf 10 = .ok (.iload_n 1, 1) := by decide +kernel
theorem dX8_bytesOf_11 : decode cX8_bytesOf 11 = .ok (.aaload, 1) := by decide +kernel
theorem dX8_bytesOf_12 : decode cX8_bytesOf 12 = .ok (.getfield 137, 3) := by decide +kernel
theorem dX8_bytesOf_15 : decode cX8_bytesOf 15 = .ok (.iload_n 2, 1) := by decide +kernel
theorem dX8_bytesOf_16 : decode cX8_bytesOf 16 = .ok (.iaload, 1) := by decide +kernel
theorem dX8_bytesOf_17 : decode cX8_bytesOf 17 = .ok (.ireturn, 1) := by decide +kernel
theorem dX8_cost_0 : decode cX8_cost 0 = .ok (.iload_n 1, 1) := by decide +kernel
theorem dX8_cost_1 : decode cX8_cost 1 = .ok (.iconst 4, 1) := by decide +kernel
theorem dX8_cost_2 : decode cX8_cost 2 = .ok (.invokestatic 75, 3) := by decide +kernel
theorem dX8_cost_5 : decode cX8_cost 5 = .ok (.aload_n 0, 1) := by decide +kernel
theorem dX8_cost_6 : decode cX8_cost 6 = .ok (.getfield 23, 3) := by decide +kernel
theorem dX8_cost_9 : decode cX8_cost 9 = .ok (.iload_n 1, 1) := by decide +kernel
theorem dX8_cost_10 : decode cX8_cost 10 = .ok (.aaload, 1) := by decide +kernel
theorem dX8_cost_11 : decode cX8_cost 11 = .ok (.invokevirtual 140, 3) := by decide +kernel
theorem dX8_cost_14 : decode cX8_cost 14 = .ok (.ireturn, 1) := by decide +kernel
theorem dX8_alarms_0 : decode cX8_alarms 0 = .ok (.iload_n 1, 1) := by decide +kernel
theorem dX8_alarms_1 : decode cX8_alarms 1 = .ok (.iconst 4, 1) := by decide +kernel
theorem dX8_alarms_2 : decode cX8_alarms 2 = .ok (.invokestatic 75, 3) := by decide +kernel
theorem dX8_alarms_5 : decode cX8_alarms 5 = .ok (.aload_n 0, 1) := by decide +kernel
theorem dX8_alarms_6 : decode cX8_alarms 6 = .ok (.getfield 23, 3) := by decide +kernel
theorem dX8_alarms_9 : decode cX8_alarms 9 = .ok (.iload_n 1, 1) := by decide +kernel
theorem dX8_alarms_10 : decode cX8_alarms 10 = .ok (.aaload, 1) := by decide +kernel
theorem dX8_alarms_11 : decode cX8_alarms 11 = .ok (.getfield 144, 3) := by decide +kernel
theorem dX8_alarms_14 : decode cX8_alarms 14 = .ok (.ireturn, 1) := by decide +kernel
theorem dX8_apply_0 : decode cX8_apply 0 = .ok (.iload_n 1, 1) := by decide +kernel
theorem dX8_apply_1 : decode cX8_apply 1 = .ok (.iconst 4, 1) := by decide +kernel
theorem dX8_apply_2 : decode cX8_apply 2 = .ok (.invokestatic 75, 3) := by decide +kernel
theorem dX8_apply_5 : decode cX8_apply 5 = .ok (.aload_n 0, 1) := by decide +kernel
theorem dX8_apply_6 : decode cX8_apply 6 = .ok (.iload_n 2, 1) := by decide +kernel
theorem dX8_apply_7 : decode cX8_apply 7 = .ok (.invokevirtual 59, 3) := by decide +kernel
theorem dX8_apply_10 : decode cX8_apply 10 = .ok (.aload_n 0, 1) := by decide +kernel
theorem dX8_apply_11 : decode cX8_apply 11 = .ok (.iload_n 3, 1) := by decide +kernel
theorem dX8_apply_12 : decode cX8_apply 12 = .ok (.invokevirtual 59, 3) := by decide +kernel
theorem dX8_apply_15 : decode cX8_apply 15 = .ok (.aload_n 0, 1) := by decide +kernel
theorem dX8_apply_16 : decode cX8_apply 16 = .ok (.getfield 23, 3) := by decide +kernel
theorem dX8_apply_19 : decode cX8_apply 19 = .ok (.iload_n 1, 1) := by decide +kernel
theorem dX8_apply_20 : decode cX8_apply 20 = .ok (.aaload, 1) := by decide +kernel
theorem dX8_apply_21 : decode cX8_apply 21 = .ok (.getfield 147, 3) := by decide +kernel
theorem dX8_apply_24 : decode cX8_apply 24 = .ok (.ifCond .eq 21, 3) := by decide +kernel
theorem dX8_apply_27 : decode cX8_apply 27 = .ok (.aload_n 0, 1) := by decide +kernel
theorem dX8_apply_28 : decode cX8_apply 28 = .ok (.getfield 23, 3) := by decide +kernel
theorem dX8_apply_31 : decode cX8_apply 31 = .ok (.iload_n 1, 1) := by decide +kernel
theorem dX8_apply_32 : decode cX8_apply 32 = .ok (.aaload, 1) := by decide +kernel
theorem dX8_apply_33 : decode cX8_apply 33 = .ok (.aload_n 0, 1) := by decide +kernel
theorem dX8_apply_34 : decode cX8_apply 34 = .ok (.getfield 11, 3) := by decide +kernel
theorem dX8_apply_37 : decode cX8_apply 37 = .ok (.iload_n 2, 1) := by decide +kernel
theorem dX8_apply_38 : decode cX8_apply 38 = .ok (.aaload, 1) := by decide +kernel
theorem dX8_apply_39 : decode cX8_apply 39 = .ok (.invokevirtual 148, 3) := by decide +kernel
theorem dX8_apply_42 : decode cX8_apply 42 = .ok (.ifCond .ne 13, 3) := by decide +kernel
theorem dX8_apply_45 : decode cX8_apply 45 = .ok (.new 52, 3) := by decide +kernel
theorem dX8_apply_48 : decode cX8_apply 48 = .ok (.dup, 1) := by decide +kernel
theorem dX8_apply_49 : decode cX8_apply 49 = .ok (.ldc 151, 2) := by decide +kernel
theorem dX8_apply_51 : decode cX8_apply 51 = .ok (.invokespecial 56, 3) := by decide +kernel
theorem dX8_apply_54 : decode cX8_apply 54 = .ok (.athrow, 1) := by decide +kernel
theorem dX8_apply_55 : decode cX8_apply 55 = .ok (.aload_n 0, 1) := by decide +kernel
theorem dX8_apply_56 : decode cX8_apply 56 = .ok (.getfield 23, 3) := by decide +kernel
theorem dX8_apply_59 : decode cX8_apply 59 = .ok (.iload_n 1, 1) := by decide +kernel
theorem dX8_apply_60 : decode cX8_apply 60 = .ok (.aaload, 1) := by decide +kernel
theorem dX8_apply_61 : decode cX8_apply 61 = .ok (.aload_n 0, 1) := by decide +kernel
theorem dX8_apply_62 : decode cX8_apply 62 = .ok (.getfield 11, 3) := by decide +kernel
theorem dX8_apply_65 : decode cX8_apply 65 = .ok (.iload_n 2, 1) := by decide +kernel
theorem dX8_apply_66 : decode cX8_apply 66 = .ok (.aaload, 1) := by decide +kernel
theorem dX8_apply_67 : decode cX8_apply 67 = .ok (.aload_n 0, 1) := by decide +kernel
theorem dX8_apply_68 : decode cX8_apply 68 = .ok (.getfield 28, 3) := by decide +kernel
theorem dX8_apply_71 : decode cX8_apply 71 = .ok (.invokevirtual 153, 3) := by decide +kernel
theorem dX8_apply_74 : decode cX8_apply 74 = .ok (.aload_n 0, 1) := by decide +kernel
theorem dX8_apply_75 : decode cX8_apply 75 = .ok (.getfield 11, 3) := by decide +kernel
theorem dX8_apply_78 : decode cX8_apply 78 = .ok (.iload_n 3, 1) := by decide +kernel
theorem dX8_apply_79 : decode cX8_apply 79 = .ok (.aaload, 1) := by decide +kernel
theorem dX8_apply_80 : decode cX8_apply 80 = .ok (.aload_n 0, 1) := by decide +kernel
theorem dX8_apply_81 : decode cX8_apply 81 = .ok (.getfield 28, 3) := by decide +kernel
theorem dX8_apply_84 : decode cX8_apply 84 = .ok (.invokevirtual 87, 3) := by decide +kernel
theorem dX8_apply_87 : decode cX8_apply 87 = .ok (.aload_n 0, 1) := by decide +kernel
theorem dX8_apply_88 : decode cX8_apply 88 = .ok (.getfield 28, 3) := by decide +kernel
theorem dX8_apply_91 : decode cX8_apply 91 = .ok (.getfield 67, 3) := by decide +kernel
theorem dX8_apply_94 : decode cX8_apply 94 = .ok (.ireturn, 1) := by decide +kernel
theorem dX8_keep_0 : decode cX8_keep 0 = .ok (.aload_n 0, 1) := by decide +kernel
theorem dX8_keep_1 : decode cX8_keep 1 = .ok (.iload_n 1, 1) := by decide +kernel
theorem dX8_keep_2 : decode cX8_keep 2 = .ok (.invokevirtual 59, 3) := by decide +kernel
theorem dX8_keep_5 : decode cX8_keep 5 = .ok (.aload_n 0, 1) := by decide +kernel
theorem dX8_keep_6 : decode cX8_keep 6 = .ok (.invokevirtual 157, 3) := by decide +kernel
theorem dX8_keep_9 : decode cX8_keep 9 = .ok (.aload_n 0, 1) := by decide +kernel
theorem dX8_keep_10 : decode cX8_keep 10 = .ok (.getfield 35, 3) := by decide +kernel
theorem dX8_keep_13 : decode cX8_keep 13 = .ok (.aload_n 0, 1) := by decide +kernel
theorem dX8_keep_14 : decode cX8_keep 14 = .ok (.getfield 11, 3) := by decide +kernel
theorem dX8_keep_17 : decode cX8_keep 17 = .ok (.iload_n 1, 1) := by decide +kernel
theorem dX8_keep_18 : decode cX8_keep 18 = .ok (.aaload, 1) := by decide +kernel
theorem dX8_keep_19 : decode cX8_keep 19 = .ok (.invokevirtual 160, 3) := by decide +kernel
theorem dX8_keep_22 : decode cX8_keep 22 = .ok (.ireturn, 1) := by decide +kernel
theorem dX8_keepDelta_0 : decode cX8_keepDelta 0 = .ok (.aload_n 0, 1) := by decide +kernel
theorem dX8_keepDelta_1 : decode cX8_keepDelta 1 = .ok (.iload_n 1, 1) := by decide +kernel
theorem dX8_keepDelta_2 : decode cX8_keepDelta 2 = .ok (.invokevirtual 59, 3) := by decide +kernel
theorem dX8_keepDelta_5 : decode cX8_keepDelta 5 = .ok (.iload_n 2, 1) := by decide +kernel
theorem dX8_keepDelta_6 : decode cX8_keepDelta 6 = .ok (.aload_n 0, 1) := by decide +kernel
theorem dX8_keepDelta_7 : decode cX8_keepDelta 7 = .ok (.getfield 35, 3) := by decide +kernel
theorem dX8_keepDelta_10 : decode cX8_keepDelta 10 = .ok (.getfield 164, 3) := by decide +kernel
theorem dX8_keepDelta_13 : decode cX8_keepDelta 13 = .ok (.invokestatic 75, 3) := by decide +kernel
theorem dX8_keepDelta_16 : decode cX8_keepDelta 16 = .ok (.iload_n 3, 1) := by decide +kernel
theorem dX8_keepDelta_17 : decode cX8_keepDelta 17 = .ok (.iconst 1, 1) := by decide +kernel
theorem dX8_keepDelta_18 : decode cX8_keepDelta 18 = .ok (.bipush 7, 2) := by decide +kernel
theorem dX8_keepDelta_20 : decode cX8_keepDelta 20 = .ok (.invokestatic 63, 3) := by decide +kernel
theorem dX8_keepDelta_23 : decode cX8_keepDelta 23 = .ok (.aload_n 0, 1) := by decide +kernel
theorem dX8_keepDelta_24 : decode cX8_keepDelta 24 = .ok (.invokevirtual 157, 3) := by decide +kernel
theorem dX8_keepDelta_27 : decode cX8_keepDelta 27 = .ok (.aload_n 0, 1) := by decide +kernel
theorem dX8_keepDelta_28 : decode cX8_keepDelta 28 = .ok (.iload_n 2, 1) := by decide +kernel
theorem dX8_keepDelta_29 : decode cX8_keepDelta 29 = .ok (.invokevirtual 165, 3) := by decide +kernel
theorem dX8_keepDelta_32 : decode cX8_keepDelta 32 = .ok (.aload_n 0, 1) := by decide +kernel
theorem dX8_keepDelta_33 : decode cX8_keepDelta 33 = .ok (.getfield 35, 3) := by decide +kernel
theorem dX8_keepDelta_36 : decode cX8_keepDelta 36 = .ok (.aload_n 0, 1) := by decide +kernel
theorem dX8_keepDelta_37 : decode cX8_keepDelta 37 = .ok (.getfield 11, 3) := by decide +kernel
theorem dX8_keepDelta_40 : decode cX8_keepDelta 40 = .ok (.iload_n 1, 1) := by decide +kernel
theorem dX8_keepDelta_41 : decode cX8_keepDelta 41 = .ok (.aaload, 1) := by decide +kernel
theorem dX8_keepDelta_42 : decode cX8_keepDelta 42 = .ok (.iload_n 2, 1) := by decide +kernel
theorem dX8_keepDelta_43 : decode cX8_keepDelta 43 = .ok (.iload_n 3, 1) := by decide +kernel
theorem dX8_keepDelta_44 : decode cX8_keepDelta 44 = .ok (.invokevirtual 168, 3) := by decide +kernel
theorem dX8_keepDelta_47 : decode cX8_keepDelta 47 = .ok (.ireturn, 1) := by decide +kernel
theorem dX8_lose_0 : decode cX8_lose 0 = .ok (.iload_n 1, 1) := by decide +kernel
theorem dX8_lose_1 : decode cX8_lose 1 = .ok (.aload_n 0, 1) := by decide +kernel
theorem dX8_lose_2 : decode cX8_lose 2 = .ok (.getfield 35, 3) := by decide +kernel
theorem dX8_lose_5 : decode cX8_lose 5 = .ok (.getfield 164, 3) := by decide +kernel
theorem dX8_lose_8 : decode cX8_lose 8 = .ok (.invokestatic 75, 3) := by decide +kernel
theorem dX8_lose_11 : decode cX8_lose 11 = .ok (.aload_n 0, 1) := by decide +kernel
theorem dX8_lose_12 : decode cX8_lose 12 = .ok (.getfield 35, 3) := by decide +kernel
theorem dX8_lose_15 : decode cX8_lose 15 = .ok (.getfield 172, 3) := by decide +kernel
theorem dX8_lose_18 : decode cX8_lose 18 = .ok (.iload_n 1, 1) := by decide +kernel
theorem dX8_lose_19 : decode cX8_lose 19 = .ok (.aaload, 1) := by decide +kernel
theorem dX8_lose_20 : decode cX8_lose 20 = .ok (.invokevirtual 176, 3) := by decide +kernel
theorem dX8_lose_23 : decode cX8_lose 23 = .ok (.istore_n 2, 1) := by decide +kernel
theorem dX8_lose_24 : decode cX8_lose 24 = .ok (.aload_n 0, 1) := by decide +kernel
theorem dX8_lose_25 : decode cX8_lose 25 = .ok (.getfield 35, 3) := by decide +kernel
theorem dX8_lose_28 : decode cX8_lose 28 = .ok (.getfield 172, 3) := by decide +kernel
theorem dX8_lose_31 : decode cX8_lose 31 = .ok (.iload_n 1, 1) := by decide +kernel
theorem dX8_lose_32 : decode cX8_lose 32 = .ok (.aaload, 1) := by decide +kernel
theorem dX8_lose_33 : decode cX8_lose 33 = .ok (.iconst 2, 1) := by decide +kernel
theorem dX8_lose_34 : decode cX8_lose 34 = .ok (.putfield 181, 3) := by decide +kernel
theorem dX8_lose_37 : decode cX8_lose 37 = .ok (.iload_n 2, 1) := by decide +kernel
theorem dX8_lose_38 : decode cX8_lose 38 = .ok (.ireturn, 1) := by decide +kernel
theorem dX8_replace_0 : decode cX8_replace 0 = .ok (.iload_n 1, 1) := by decide +kernel
theorem dX8_replace_1 : decode cX8_replace 1 = .ok (.aload_n 0, 1) := by decide +kernel
theorem dX8_replace_2 : decode cX8_replace 2 = .ok (.getfield 35, 3) := by decide +kernel
theorem dX8_replace_5 : decode cX8_replace 5 = .ok (.getfield 164, 3) := by decide +kernel
theorem dX8_replace_8 : decode cX8_replace 8 = .ok (.invokestatic 75, 3) := by decide +kernel
theorem dX8_replace_11 : decode cX8_replace 11 = .ok (.aload_n 0, 1) := by decide +kernel
theorem dX8_replace_12 : decode cX8_replace 12 = .ok (.iload_n 2, 1) := by decide +kernel
theorem dX8_replace_13 : decode cX8_replace 13 = .ok (.invokevirtual 59, 3) := by decide +kernel
theorem dX8_replace_16 : decode cX8_replace 16 = .ok (.aload_n 0, 1) := by decide +kernel
theorem dX8_replace_17 : decode cX8_replace 17 = .ok (.getfield 35, 3) := by decide +kernel
theorem dX8_replace_20 : decode cX8_replace 20 = .ok (.getfield 172, 3) := by decide +kernel
theorem dX8_replace_23 : decode cX8_replace 23 = .ok (.iload_n 1, 1) := by decide +kernel
theorem dX8_replace_24 : decode cX8_replace 24 = .ok (.aaload, 1) := by decide +kernel
theorem dX8_replace_25 : decode cX8_replace 25 = .ok (.aload_n 0, 1) := by decide +kernel
theorem dX8_replace_26 : decode cX8_replace 26 = .ok (.getfield 11, 3) := by decide +kernel
theorem dX8_replace_29 : decode cX8_replace 29 = .ok (.iload_n 2, 1) := by decide +kernel
theorem dX8_replace_30 : decode cX8_replace 30 = .ok (.aaload, 1) := by decide +kernel
theorem dX8_replace_31 : decode cX8_replace 31 = .ok (.invokevirtual 184, 3) := by decide +kernel
theorem dX8_replace_34 : decode cX8_replace 34 = .ok (.return_, 1) := by decide +kernel
theorem dX8_rebuild_0 : decode cX8_rebuild 0 = .ok (.iload_n 1, 1) := by decide +kernel
theorem dX8_rebuild_1 : decode cX8_rebuild 1 = .ok (.aload_n 0, 1) := by decide +kernel
theorem dX8_rebuild_2 : decode cX8_rebuild 2 = .ok (.getfield 35, 3) := by decide +kernel
theorem dX8_rebuild_5 : decode cX8_rebuild 5 = .ok (.getfield 164, 3) := by decide +kernel
theorem dX8_rebuild_8 : decode cX8_rebuild 8 = .ok (.invokestatic 75, 3) := by decide +kernel
theorem dX8_rebuild_11 : decode cX8_rebuild 11 = .ok (.aload_n 0, 1) := by decide +kernel
theorem dX8_rebuild_12 : decode cX8_rebuild 12 = .ok (.iload_n 2, 1) := by decide +kernel
theorem dX8_rebuild_13 : decode cX8_rebuild 13 = .ok (.invokevirtual 59, 3) := by decide +kernel
theorem dX8_rebuild_16 : decode cX8_rebuild 16 = .ok (.aload_n 0, 1) := by decide +kernel
theorem dX8_rebuild_17 : decode cX8_rebuild 17 = .ok (.iload_n 1, 1) := by decide +kernel
theorem dX8_rebuild_18 : decode cX8_rebuild 18 = .ok (.invokevirtual 165, 3) := by decide +kernel
theorem dX8_rebuild_21 : decode cX8_rebuild 21 = .ok (.aload_n 0, 1) := by decide +kernel
theorem dX8_rebuild_22 : decode cX8_rebuild 22 = .ok (.getfield 11, 3) := by decide +kernel
theorem dX8_rebuild_25 : decode cX8_rebuild 25 = .ok (.iload_n 2, 1) := by decide +kernel
theorem dX8_rebuild_26 : decode cX8_rebuild 26 = .ok (.aaload, 1) := by decide +kernel
theorem dX8_rebuild_27 : decode cX8_rebuild 27 = .ok (.aload_n 0, 1) := by decide +kernel
theorem dX8_rebuild_28 : decode cX8_rebuild 28 = .ok (.getfield 35, 3) := by decide +kernel
theorem dX8_rebuild_31 : decode cX8_rebuild 31 = .ok (.getfield 187, 3) := by decide +kernel
theorem dX8_rebuild_34 : decode cX8_rebuild 34 = .ok (.invokevirtual 87, 3) := by decide +kernel
theorem dX8_rebuild_37 : decode cX8_rebuild 37 = .ok (.aload_n 0, 1) := by decide +kernel
theorem dX8_rebuild_38 : decode cX8_rebuild 38 = .ok (.getfield 11, 3) := by decide +kernel
theorem dX8_rebuild_41 : decode cX8_rebuild 41 = .ok (.iload_n 2, 1) := by decide +kernel
theorem dX8_rebuild_42 : decode cX8_rebuild 42 = .ok (.aaload, 1) := by decide +kernel
theorem dX8_rebuild_43 : decode cX8_rebuild 43 = .ok (.getfield 67, 3) := by decide +kernel
theorem dX8_rebuild_46 : decode cX8_rebuild 46 = .ok (.ireturn, 1) := by decide +kernel
theorem dX8_versions_0 : decode cX8_versions 0 = .ok (.aload_n 0, 1) := by decide +kernel
theorem dX8_versions_1 : decode cX8_versions 1 = .ok (.getfield 35, 3) := by decide +kernel
theorem dX8_versions_4 : decode cX8_versions 4 = .ok (.getfield 164, 3) := by decide +kernel
theorem dX8_versions_7 : decode cX8_versions 7 = .ok (.ireturn, 1) := by decide +kernel
theorem dX8_brokenAt_0 : decode cX8_brokenAt 0 = .ok (.iload_n 1, 1) := by decide +kernel
theorem dX8_brokenAt_1 : decode cX8_brokenAt 1 = .ok (.aload_n 0, 1) := by decide +kernel
theorem dX8_brokenAt_2 : decode cX8_brokenAt 2 = .ok (.getfield 35, 3) := by decide +kernel
theorem dX8_brokenAt_5 : decode cX8_brokenAt 5 = .ok (.getfield 164, 3) := by decide +kernel
theorem dX8_brokenAt_8 : decode cX8_brokenAt 8 = .ok (.invokestatic 75, 3) := by decide +kernel
theorem dX8_brokenAt_11 : decode cX8_brokenAt 11 = .ok (.aload_n 0, 1) := by decide +kernel
theorem dX8_brokenAt_12 : decode cX8_brokenAt 12 = .ok (.getfield 35, 3) := by decide +kernel
theorem dX8_brokenAt_15 : decode cX8_brokenAt 15 = .ok (.iload_n 1, 1) := by decide +kernel
theorem dX8_brokenAt_16 : decode cX8_brokenAt 16 = .ok (.invokevirtual 190, 3) := by decide +kernel
theorem dX8_brokenAt_19 : decode cX8_brokenAt 19 = .ok (.aload_n 0, 1) := by decide +kernel
theorem dX8_brokenAt_20 : decode cX8_brokenAt 20 = .ok (.getfield 35, 3) := by decide +kernel
theorem dX8_brokenAt_23 : decode cX8_brokenAt 23 = .ok (.getfield 193, 3) := by decide +kernel
theorem dX8_brokenAt_26 : decode cX8_brokenAt 26 = .ok (.ireturn, 1) := by decide +kernel
theorem dX8_brokenAfter_0 : decode cX8_brokenAfter 0 = .ok (.iload_n 1, 1) := by decide +kernel
theorem dX8_brokenAfter_1 : decode cX8_brokenAfter 1 = .ok (.aload_n 0, 1) := by decide +kernel
theorem dX8_brokenAfter_2 : decode cX8_brokenAfter 2 = .ok (.getfield 35, 3) := by decide +kernel
theorem dX8_brokenAfter_5 : decode cX8_brokenAfter 5 = .ok (.getfield 164, 3) := by decide +kernel
theorem dX8_brokenAfter_8 : decode cX8_brokenAfter 8 = .ok (.invokestatic 75, 3) := by decide +kernel
theorem dX8_brokenAfter_11 : decode cX8_brokenAfter 11 = .ok (.aload_n 0, 1) := by decide +kernel
theorem dX8_brokenAfter_12 : decode cX8_brokenAfter 12 = .ok (.getfield 35, 3) := by decide +kernel
theorem dX8_brokenAfter_15 : decode cX8_brokenAfter 15 = .ok (.iload_n 1, 1) := by decide +kernel
theorem dX8_brokenAfter_16 : decode cX8_brokenAfter 16 = .ok (.invokevirtual 190, 3) := by decide +kernel
theorem dX8_brokenAfter_19 : decode cX8_brokenAfter 19 = .ok (.aload_n 0, 1) := by decide +kernel
theorem dX8_brokenAfter_20 : decode cX8_brokenAfter 20 = .ok (.getfield 35, 3) := by decide +kernel
theorem dX8_brokenAfter_23 : decode cX8_brokenAfter 23 = .ok (.getfield 196, 3) := by decide +kernel
theorem dX8_brokenAfter_26 : decode cX8_brokenAfter 26 = .ok (.ireturn, 1) := by decide +kernel
theorem dX8_reason_0 : decode cX8_reason 0 = .ok (.iload_n 1, 1) := by decide +kernel
theorem dX8_reason_1 : decode cX8_reason 1 = .ok (.aload_n 0, 1) := by decide +kernel
theorem dX8_reason_2 : decode cX8_reason 2 = .ok (.getfield 35, 3) := by decide +kernel
theorem dX8_reason_5 : decode cX8_reason 5 = .ok (.getfield 164, 3) := by decide +kernel
theorem dX8_reason_8 : decode cX8_reason 8 = .ok (.invokestatic 75, 3) := by decide +kernel
theorem dX8_reason_11 : decode cX8_reason 11 = .ok (.aload_n 0, 1) := by decide +kernel
theorem dX8_reason_12 : decode cX8_reason 12 = .ok (.getfield 35, 3) := by decide +kernel
theorem dX8_reason_15 : decode cX8_reason 15 = .ok (.iload_n 1, 1) := by decide +kernel
theorem dX8_reason_16 : decode cX8_reason 16 = .ok (.invokevirtual 190, 3) := by decide +kernel
theorem dX8_reason_19 : decode cX8_reason 19 = .ok (.aload_n 0, 1) := by decide +kernel
theorem dX8_reason_20 : decode cX8_reason 20 = .ok (.getfield 35, 3) := by decide +kernel
theorem dX8_reason_23 : decode cX8_reason 23 = .ok (.getfield 199, 3) := by decide +kernel
theorem dX8_reason_26 : decode cX8_reason 26 = .ok (.ireturn, 1) := by decide +kernel
theorem dX8_heldBy_0 : decode cX8_heldBy 0 = .ok (.iload_n 1, 1) := by decide +kernel
theorem dX8_heldBy_1 : decode cX8_heldBy 1 = .ok (.aload_n 0, 1) := by decide +kernel
theorem dX8_heldBy_2 : decode cX8_heldBy 2 = .ok (.getfield 35, 3) := by decide +kernel
theorem dX8_heldBy_5 : decode cX8_heldBy 5 = .ok (.getfield 164, 3) := by decide +kernel
theorem dX8_heldBy_8 : decode cX8_heldBy 8 = .ok (.invokestatic 75, 3) := by decide +kernel
theorem dX8_heldBy_11 : decode cX8_heldBy 11 = .ok (.aload_n 0, 1) := by decide +kernel
theorem dX8_heldBy_12 : decode cX8_heldBy 12 = .ok (.getfield 35, 3) := by decide +kernel
theorem dX8_heldBy_15 : decode cX8_heldBy 15 = .ok (.getfield 172, 3) := by decide +kernel
theorem dX8_heldBy_18 : decode cX8_heldBy 18 = .ok (.iload_n 1, 1) := by decide +kernel
theorem dX8_heldBy_19 : decode cX8_heldBy 19 = .ok (.aaload, 1) := by decide +kernel
theorem dX8_heldBy_20 : decode cX8_heldBy 20 = .ok (.invokevirtual 176, 3) := by decide +kernel
theorem dX8_heldBy_23 : decode cX8_heldBy 23 = .ok (.ireturn, 1) := by decide +kernel
theorem dX8_cuts_0 : decode cX8_cuts 0 = .ok (.iload_n 1, 1) := by decide +kernel
theorem dX8_cuts_1 : decode cX8_cuts 1 = .ok (.iconst 1, 1) := by decide +kernel
theorem dX8_cuts_2 : decode cX8_cuts 2 = .ok (.bipush 16, 2) := by decide +kernel
theorem dX8_cuts_4 : decode cX8_cuts 4 = .ok (.invokestatic 63, 3) := by decide +kernel
theorem dX8_cuts_7 : decode cX8_cuts 7 = .ok (.iload_n 2, 1) := by decide +kernel
theorem dX8_cuts_8 : decode cX8_cuts 8 = .ok (.iload_n 1, 1) := by decide +kernel
theorem dX8_cuts_9 : decode cX8_cuts 9 = .ok (.bipush 40, 2) := by decide +kernel
theorem dX8_cuts_11 : decode cX8_cuts 11 = .ok (.invokestatic 63, 3) := by decide +kernel
theorem dX8_cuts_14 : decode cX8_cuts 14 = .ok (.iload_n 3, 1) := by decide +kernel
theorem dX8_cuts_15 : decode cX8_cuts 15 = .ok (.iconst 1, 1) := by decide +kernel
theorem dX8_cuts_16 : decode cX8_cuts 16 = .ok (.bipush 64, 2) := by decide +kernel
theorem dX8_cuts_18 : decode cX8_cuts 18 = .ok (.invokestatic 63, 3) := by decide +kernel
theorem dX8_cuts_21 : decode cX8_cuts 21 = .ok (.aload_n 0, 1) := by decide +kernel
theorem dX8_cuts_22 : decode cX8_cuts 22 = .ok (.getfield 42, 3) := by decide +kernel
theorem dX8_cuts_25 : decode cX8_cuts 25 = .ok (.iload_n 1, 1) := by decide +kernel
theorem dX8_cuts_26 : decode cX8_cuts 26 = .ok (.putfield 202, 3) := by decide +kernel
theorem dX8_cuts_29 : decode cX8_cuts 29 = .ok (.aload_n 0, 1) := by decide +kernel
theorem dX8_cuts_30 : decode cX8_cuts 30 = .ok (.getfield 42, 3) := by decide +kernel
theorem dX8_cuts_33 : decode cX8_cuts 33 = .ok (.iload_n 2, 1) := by decide +kernel
theorem dX8_cuts_34 : decode cX8_cuts 34 = .ok (.putfield 205, 3) := by decide +kernel
theorem dX8_cuts_37 : decode cX8_cuts 37 = .ok (.aload_n 0, 1) := by decide +kernel
theorem dX8_cuts_38 : decode cX8_cuts 38 = .ok (.getfield 42, 3) := by decide +kernel
theorem dX8_cuts_41 : decode cX8_cuts 41 = .ok (.iload_n 3, 1) := by decide +kernel
theorem dX8_cuts_42 : decode cX8_cuts 42 = .ok (.putfield 208, 3) := by decide +kernel
theorem dX8_cuts_45 : decode cX8_cuts 45 = .ok (.return_, 1) := by decide +kernel
theorem dX8_store_0 : decode cX8_store 0 = .ok (.aload_n 0, 1) := by decide +kernel
theorem dX8_store_1 : decode cX8_store 1 = .ok (.iload_n 1, 1) := by decide +kernel
theorem dX8_store_2 : decode cX8_store 2 = .ok (.invokevirtual 59, 3) := by decide +kernel
theorem dX8_store_5 : decode cX8_store 5 = .ok (.aload_n 0, 1) := by decide +kernel
theorem dX8_store_6 : decode cX8_store 6 = .ok (.getfield 42, 3) := by decide +kernel
theorem dX8_store_9 : decode cX8_store 9 = .ok (.invokevirtual 211, 3) := by decide +kernel
theorem dX8_store_12 : decode cX8_store 12 = .ok (.istore_n 2, 1) := by decide +kernel
theorem dX8_store_13 : decode cX8_store 13 = .ok (.iload_n 2, 1) := by decide +kernel
theorem dX8_store_14 : decode cX8_store 14 = .ok (.iconst (-1), 1) := by decide +kernel
theorem dX8_store_15 : decode cX8_store 15 = .ok (.if_icmp .ne 13, 3) := by decide +kernel
theorem dX8_store_18 : decode cX8_store 18 = .ok (.new 52, 3) := by decide +kernel
theorem dX8_store_21 : decode cX8_store 21 = .ok (.dup, 1) := by decide +kernel
theorem dX8_store_22 : decode cX8_store 22 = .ok (.ldc 214, 2) := by decide +kernel
theorem dX8_store_24 : decode cX8_store 24 = .ok (.invokespecial 56, 3) := by decide +kernel
theorem dX8_store_27 : decode cX8_store 27 = .ok (.athrow, 1) := by decide +kernel
theorem dX8_store_28 : decode cX8_store 28 = .ok (.aload_n 0, 1) := by decide +kernel
theorem dX8_store_29 : decode cX8_store 29 = .ok (.getfield 42, 3) := by decide +kernel
theorem dX8_store_32 : decode cX8_store 32 = .ok (.iload_n 2, 1) := by decide +kernel
theorem dX8_store_33 : decode cX8_store 33 = .ok (.aload_n 0, 1) := by decide +kernel
theorem dX8_store_34 : decode cX8_store 34 = .ok (.getfield 11, 3) := by decide +kernel
theorem dX8_store_37 : decode cX8_store 37 = .ok (.iload_n 1, 1) := by decide +kernel
theorem dX8_store_38 : decode cX8_store 38 = .ok (.aaload, 1) := by decide +kernel
theorem dX8_store_39 : decode cX8_store 39 = .ok (.invokevirtual 216, 3) := by decide +kernel
theorem dX8_store_42 : decode cX8_store 42 = .ok (.iload_n 2, 1) := by decide +kernel
theorem dX8_store_43 : decode cX8_store 43 = .ok (.ireturn, 1) := by decide +kernel
theorem dX8_release_0 : decode cX8_release 0 = .ok (.aload_n 0, 1) := by decide +kernel
theorem dX8_release_1 : decode cX8_release 1 = .ok (.iload_n 1, 1) := by decide +kernel
theorem dX8_release_2 : decode cX8_release 2 = .ok (.invokevirtual 220, 3) := by decide +kernel
theorem dX8_release_5 : decode cX8_release 5 = .ok (.aload_n 0, 1) := by decide +kernel
theorem dX8_release_6 : decode cX8_release 6 = .ok (.getfield 42, 3) := by decide +kernel
theorem dX8_release_9 : decode cX8_release 9 = .ok (.iload_n 1, 1) := by decide +kernel
theorem dX8_release_10 : decode cX8_release 10 = .ok (.invokevirtual 223, 3) := by decide +kernel
theorem dX8_release_13 : decode cX8_release 13 = .ok (.ireturn, 1) := by decide +kernel
theorem dX8_fetch_0 : decode cX8_fetch 0 = .ok (.aload_n 0, 1) := by decide +kernel
theorem dX8_fetch_1 : decode cX8_fetch 1 = .ok (.iload_n 1, 1) := by decide +kernel
theorem dX8_fetch_2 : decode cX8_fetch 2 = .ok (.invokevirtual 220, 3) := by decide +kernel
theorem dX8_fetch_5 : decode cX8_fetch 5 = .ok (.aload_n 0, 1) := by decide +kernel
theorem dX8_fetch_6 : decode cX8_fetch 6 = .ok (.iload_n 2, 1) := by decide +kernel
theorem dX8_fetch_7 : decode cX8_fetch 7 = .ok (.invokevirtual 59, 3) := by decide +kernel
theorem dX8_fetch_10 : decode cX8_fetch 10 = .ok (.aload_n 0, 1) := by decide +kernel
theorem dX8_fetch_11 : decode cX8_fetch 11 = .ok (.getfield 42, 3) := by decide +kernel
theorem dX8_fetch_14 : decode cX8_fetch 14 = .ok (.getfield 226, 3) := by decide +kernel
theorem dX8_fetch_17 : decode cX8_fetch 17 = .ok (.iload_n 1, 1) := by decide +kernel
theorem dX8_fetch_18 : decode cX8_fetch 18 = .ok (.aaload, 1) := by decide +kernel
theorem dX8_fetch_19 : decode cX8_fetch 19 = .ok (.aload_n 0, 1) := by decide +kernel
theorem dX8_fetch_20 : decode cX8_fetch 20 = .ok (.getfield 11, 3) := by decide +kernel
theorem dX8_fetch_23 : decode cX8_fetch 23 = .ok (.iload_n 2, 1) := by decide +kernel
theorem dX8_fetch_24 : decode cX8_fetch 24 = .ok (.aaload, 1) := by decide +kernel
theorem dX8_fetch_25 : decode cX8_fetch 25 = .ok (.invokevirtual 230, 3) := by decide +kernel
theorem dX8_fetch_28 : decode cX8_fetch 28 = .ok (.aload_n 0, 1) := by decide +kernel
theorem dX8_fetch_29 : decode cX8_fetch 29 = .ok (.getfield 11, 3) := by decide +kernel
theorem dX8_fetch_32 : decode cX8_fetch 32 = .ok (.iload_n 2, 1) := by decide +kernel
theorem dX8_fetch_33 : decode cX8_fetch 33 = .ok (.aaload, 1) := by decide +kernel
theorem dX8_fetch_34 : decode cX8_fetch 34 = .ok (.getfield 67, 3) := by decide +kernel
theorem dX8_fetch_37 : decode cX8_fetch 37 = .ok (.ireturn, 1) := by decide +kernel
theorem dX8_papers_0 : decode cX8_papers 0 = .ok (.aload_n 0, 1) := by decide +kernel
theorem dX8_papers_1 : decode cX8_papers 1 = .ok (.getfield 42, 3) := by decide +kernel
theorem dX8_papers_4 : decode cX8_papers 4 = .ok (.invokevirtual 235, 3) := by decide +kernel
theorem dX8_papers_7 : decode cX8_papers 7 = .ok (.ireturn, 1) := by decide +kernel
theorem dX8_chunks_0 : decode cX8_chunks 0 = .ok (.aload_n 0, 1) := by decide +kernel
theorem dX8_chunks_1 : decode cX8_chunks 1 = .ok (.getfield 42, 3) := by decide +kernel
theorem dX8_chunks_4 : decode cX8_chunks 4 = .ok (.invokevirtual 238, 3) := by decide +kernel
theorem dX8_chunks_7 : decode cX8_chunks 7 = .ok (.ireturn, 1) := by decide +kernel
theorem dX8_heldBytes_0 : decode cX8_heldBytes 0 = .ok (.aload_n 0, 1) := by decide +kernel
theorem dX8_heldBytes_1 : decode cX8_heldBytes 1 = .ok (.getfield 42, 3) := by decide +kernel
theorem dX8_heldBytes_4 : decode cX8_heldBytes 4 = .ok (.invokevirtual 241, 3) := by decide +kernel
theorem dX8_heldBytes_7 : decode cX8_heldBytes 7 = .ok (.ireturn, 1) := by decide +kernel
theorem dX8_parts_0 : decode cX8_parts 0 = .ok (.aload_n 0, 1) := by decide +kernel
theorem dX8_parts_1 : decode cX8_parts 1 = .ok (.iload_n 1, 1) := by decide +kernel
theorem dX8_parts_2 : decode cX8_parts 2 = .ok (.invokevirtual 220, 3) := by decide +kernel
theorem dX8_parts_5 : decode cX8_parts 5 = .ok (.aload_n 0, 1) := by decide +kernel
theorem dX8_parts_6 : decode cX8_parts 6 = .ok (.getfield 42, 3) := by decide +kernel
theorem dX8_parts_9 : decode cX8_parts 9 = .ok (.getfield 226, 3) := by decide +kernel
theorem dX8_parts_12 : decode cX8_parts 12 = .ok (.iload_n 1, 1) := by decide +kernel
theorem dX8_parts_13 : decode cX8_parts 13 = .ok (.aaload, 1) := by decide +kernel
theorem dX8_parts_14 : decode cX8_parts 14 = .ok (.getfield 244, 3) := by decide +kernel
theorem dX8_parts_17 : decode cX8_parts 17 = .ok (.invokevirtual 248, 3) := by decide +kernel
theorem dX8_parts_20 : decode cX8_parts 20 = .ok (.ireturn, 1) := by decide +kernel
theorem dX8_partLength_0 : decode cX8_partLength 0 = .ok (.aload_n 0, 1) := by decide +kernel
theorem dX8_partLength_1 : decode cX8_partLength 1 = .ok (.iload_n 1, 1) := by decide +kernel
theorem dX8_partLength_2 : decode cX8_partLength 2 = .ok (.invokevirtual 220, 3) := by decide +kernel
theorem dX8_partLength_5 : decode cX8_partLength 5 = .ok (.iload_n 2, 1) := by decide +kernel
theorem dX8_partLength_6 : decode cX8_partLength 6 = .ok (.aload_n 0, 1) := by decide +kernel
theorem dX8_partLength_7 : decode cX8_partLength 7 = .ok (.getfield 42, 3) := by decide +kernel
theorem dX8_partLength_10 : decode cX8_partLength 10 = .ok (.getfield 226, 3) := by decide +kernel
theorem dX8_partLength_13 : decode cX8_partLength 13 = .ok (.iload_n 1, 1) := by decide +kernel
theorem dX8_partLength_14 : decode cX8_partLength 14 = .ok (.aaload, 1) := by decide +kernel
theorem dX8_partLength_15 : decode cX8_partLength 15 = .ok (.getfield 244, 3) := by decide +kernel
theorem dX8_partLength_18 : decode cX8_partLength 18 = .ok (.invokevirtual 248, 3) := by decide +kernel
theorem dX8_partLength_21 : decode cX8_partLength 21 = .ok (.invokestatic 75, 3) := by decide +kernel
theorem dX8_partLength_24 : decode cX8_partLength 24 = .ok (.aload_n 0, 1) := by decide +kernel
theorem dX8_partLength_25 : decode cX8_partLength 25 = .ok (.getfield 42, 3) := by decide +kernel
theorem dX8_partLength_28 : decode cX8_partLength 28 = .ok (.getfield 226, 3) := by decide +kernel
theorem dX8_partLength_31 : decode cX8_partLength 31 = .ok (.iload_n 1, 1) := by decide +kernel
theorem dX8_partLength_32 : decode cX8_partLength 32 = .ok (.aaload, 1) := by decide +kernel
theorem dX8_partLength_33 : decode cX8_partLength 33 = .ok (.getfield 244, 3) := by decide +kernel
theorem dX8_partLength_36 : decode cX8_partLength 36 = .ok (.iload_n 2, 1) := by decide +kernel
theorem dX8_partLength_37 : decode cX8_partLength 37 = .ok (.invokevirtual 252, 3) := by decide +kernel
theorem dX8_partLength_40 : decode cX8_partLength 40 = .ok (.checkcast 256, 3) := by decide +kernel
theorem dX8_partLength_43 : decode cX8_partLength 43 = .ok (.getfield 258, 3) := by decide +kernel
theorem dX8_partLength_46 : decode cX8_partLength 46 = .ok (.ireturn, 1) := by decide +kernel
theorem dX8_shared_0 : decode cX8_shared 0 = .ok (.aload_n 0, 1) := by decide +kernel
theorem dX8_shared_1 : decode cX8_shared 1 = .ok (.iload_n 1, 1) := by decide +kernel
theorem dX8_shared_2 : decode cX8_shared 2 = .ok (.invokevirtual 220, 3) := by decide +kernel
theorem dX8_shared_5 : decode cX8_shared 5 = .ok (.iload_n 2, 1) := by decide +kernel
theorem dX8_shared_6 : decode cX8_shared 6 = .ok (.aload_n 0, 1) := by decide +kernel
theorem dX8_shared_7 : decode cX8_shared 7 = .ok (.getfield 42, 3) := by decide +kernel
theorem dX8_shared_10 : decode cX8_shared 10 = .ok (.getfield 226, 3) := by decide +kernel
theorem dX8_shared_13 : decode cX8_shared 13 = .ok (.iload_n 1, 1) := by decide +kernel
theorem dX8_shared_14 : decode cX8_shared 14 = .ok (.aaload, 1) := by decide +kernel
theorem dX8_shared_15 : decode cX8_shared 15 = .ok (.getfield 244, 3) := by decide +kernel
theorem dX8_shared_18 : decode cX8_shared 18 = .ok (.invokevirtual 248, 3) := by decide +kernel
theorem dX8_shared_21 : decode cX8_shared 21 = .ok (.invokestatic 75, 3) := by decide +kernel
theorem dX8_shared_24 : decode cX8_shared 24 = .ok (.aload_n 0, 1) := by decide +kernel
theorem dX8_shared_25 : decode cX8_shared 25 = .ok (.getfield 42, 3) := by decide +kernel
theorem dX8_shared_28 : decode cX8_shared 28 = .ok (.getfield 226, 3) := by decide +kernel
theorem dX8_shared_31 : decode cX8_shared 31 = .ok (.iload_n 1, 1) := by decide +kernel
theorem dX8_shared_32 : decode cX8_shared 32 = .ok (.aaload, 1) := by decide +kernel
theorem dX8_shared_33 : decode cX8_shared 33 = .ok (.getfield 244, 3) := by decide +kernel
theorem dX8_shared_36 : decode cX8_shared 36 = .ok (.iload_n 2, 1) := by decide +kernel
theorem dX8_shared_37 : decode cX8_shared 37 = .ok (.invokevirtual 252, 3) := by decide +kernel
theorem dX8_shared_40 : decode cX8_shared 40 = .ok (.checkcast 256, 3) := by decide +kernel
theorem dX8_shared_43 : decode cX8_shared 43 = .ok (.getfield 259, 3) := by decide +kernel
theorem dX8_shared_46 : decode cX8_shared 46 = .ok (.ireturn, 1) := by decide +kernel
theorem dX8_checkIndex_0 : decode cX8_checkIndex 0 = .ok (.iload_n 0, 1) := by decide +kernel
theorem dX8_checkIndex_1 : decode cX8_checkIndex 1 = .ok (.ifCond .lt 8, 3) := by decide +kernel
theorem dX8_checkIndex_4 : decode cX8_checkIndex 4 = .ok (.iload_n 0, 1) := by decide +kernel
theorem dX8_checkIndex_5 : decode cX8_checkIndex 5 = .ok (.iload_n 1, 1) := by decide +kernel
theorem dX8_checkIndex_6 : decode cX8_checkIndex 6 = .ok (.if_icmp .lt 14, 3) := by decide +kernel
theorem dX8_checkIndex_9 : decode cX8_checkIndex 9 = .ok (.new 262, 3) := by decide +kernel
theorem dX8_checkIndex_12 : decode cX8_checkIndex 12 = .ok (.dup, 1) := by decide +kernel
theorem dX8_checkIndex_13 : decode cX8_checkIndex 13 = .ok (.ldc_w 264, 3) := by decide +kernel
theorem dX8_checkIndex_16 : decode cX8_checkIndex 16 = .ok (.invokespecial 266, 3) := by decide +kernel
theorem dX8_checkIndex_19 : decode cX8_checkIndex 19 = .ok (.athrow, 1) := by decide +kernel
theorem dX8_checkIndex_20 : decode cX8_checkIndex 20 = .ok (.return_, 1) := by decide +kernel
theorem dX8_checkRange_0 : decode cX8_checkRange 0 = .ok (.iload_n 0, 1) := by decide +kernel
theorem dX8_checkRange_1 : decode cX8_checkRange 1 = .ok (.iload_n 1, 1) := by decide +kernel
theorem dX8_checkRange_2 : decode cX8_checkRange 2 = .ok (.if_icmp .lt 8, 3) := by decide +kernel
theorem dX8_checkRange_5 : decode cX8_checkRange 5 = .ok (.iload_n 0, 1) := by decide +kernel
theorem dX8_checkRange_6 : decode cX8_checkRange 6 = .ok (.iload_n 2, 1) := by decide +kernel
theorem dX8_checkRange_7 : decode cX8_checkRange 7 = .ok (.if_icmp .le 14, 3) := by decide +kernel
theorem dX8_checkRange_10 : decode cX8_checkRange 10 = .ok (.new 267, 3) := by decide +kernel
theorem dX8_checkRange_13 : decode cX8_checkRange 13 = .ok (.dup, 1) := by decide +kernel
theorem dX8_checkRange_14 : decode cX8_checkRange 14 = .ok (.ldc_w 269, 3) := by decide +kernel
theorem dX8_checkRange_17 : decode cX8_checkRange 17 = .ok (.invokespecial 271, 3) := by decide +kernel
theorem dX8_checkRange_20 : decode cX8_checkRange 20 = .ok (.athrow, 1) := by decide +kernel
theorem dX8_checkRange_21 : decode cX8_checkRange 21 = .ok (.return_, 1) := by decide +kernel
theorem dX8_checkFile_0 : decode cX8_checkFile 0 = .ok (.iload_n 1, 1) := by decide +kernel
theorem dX8_checkFile_1 : decode cX8_checkFile 1 = .ok (.aload_n 0, 1) := by decide +kernel
theorem dX8_checkFile_2 : decode cX8_checkFile 2 = .ok (.getfield 48, 3) := by decide +kernel
theorem dX8_checkFile_5 : decode cX8_checkFile 5 = .ok (.invokestatic 75, 3) := by decide +kernel
theorem dX8_checkFile_8 : decode cX8_checkFile 8 = .ok (.return_, 1) := by decide +kernel
theorem dX8_checkBlock_0 : decode cX8_checkBlock 0 = .ok (.iload_n 1, 1) := by decide +kernel
theorem dX8_checkBlock_1 : decode cX8_checkBlock 1 = .ok (.iconst 4, 1) := by decide +kernel
theorem dX8_checkBlock_2 : decode cX8_checkBlock 2 = .ok (.invokestatic 75, 3) := by decide +kernel
theorem dX8_checkBlock_5 : decode cX8_checkBlock 5 = .ok (.iload_n 2, 1) := by decide +kernel
theorem dX8_checkBlock_6 : decode cX8_checkBlock 6 = .ok (.aload_n 0, 1) := by decide +kernel
theorem dX8_checkBlock_7 : decode cX8_checkBlock 7 = .ok (.getfield 17, 3) := by decide +kernel
theorem dX8_checkBlock_10 : decode cX8_checkBlock 10 = .ok (.iload_n 1, 1) := by decide +kernel
theorem dX8_checkBlock_11 : decode cX8_checkBlock 11 = .ok (.aaload, 1) := by decide +kernel
theorem dX8_checkBlock_12 : decode cX8_checkBlock 12 = .ok (.getfield 103, 3) := by decide +kernel
theorem dX8_checkBlock_15 : decode cX8_checkBlock 15 = .ok (.invokestatic 75, 3) := by decide +kernel
theorem dX8_checkBlock_18 : decode cX8_checkBlock 18 = .ok (.return_, 1) := by decide +kernel
theorem dX8_checkInstruction_0 : decode cX8_checkInstruction 0 = .ok (.iload_n 1, 1) := by decide +kernel
theorem dX8_checkInstruction_1 : decode cX8_checkInstruction 1 = .ok (.iconst 4, 1) := by decide +kernel
theorem dX8_checkInstruction_2 : decode cX8_checkInstruction 2 = .ok (.invokestatic 75, 3) := by decide +kernel
theorem dX8_checkInstruction_5 : decode cX8_checkInstruction 5 = .ok (.iload_n 2, 1) := by decide +kernel
theorem dX8_checkInstruction_6 : decode cX8_checkInstruction 6 = .ok (.aload_n 0, 1) := by decide +kernel
theorem dX8_checkInstruction_7 : decode cX8_checkInstruction 7 = .ok (.getfield 23, 3) := by decide +kernel
theorem dX8_checkInstruction_10 : decode cX8_checkInstruction 10 = .ok (.iload_n 1, 1) := by decide +kernel
theorem dX8_checkInstruction_11 : decode cX8_checkInstruction 11 = .ok (.aaload, 1) := by decide +kernel
theorem dX8_checkInstruction_12 : decode cX8_checkInstruction 12 = .ok (.getfield 126, 3) := by decide +kernel
theorem dX8_checkInstruction_15 : decode cX8_checkInstruction 15 = .ok (.invokestatic 75, 3) := by decide +kernel
theorem dX8_checkInstruction_18 : decode cX8_checkInstruction 18 = .ok (.return_, 1) := by decide +kernel
theorem dX8_checkPaper_0 : decode cX8_checkPaper 0 = .ok (.iload_n 1, 1) := by decide +kernel
theorem dX8_checkPaper_1 : decode cX8_checkPaper 1 = .ok (.bipush 12, 2) := by decide +kernel
theorem dX8_checkPaper_3 : decode cX8_checkPaper 3 = .ok (.invokestatic 75, 3) := by decide +kernel
theorem dX8_checkPaper_6 : decode cX8_checkPaper 6 = .ok (.aload_n 0, 1) := by decide +kernel
theorem dX8_checkPaper_7 : decode cX8_checkPaper 7 = .ok (.getfield 42, 3) := by decide +kernel
theorem dX8_checkPaper_10 : decode cX8_checkPaper 10 = .ok (.getfield 226, 3) := by decide +kernel
theorem dX8_checkPaper_13 : decode cX8_checkPaper 13 = .ok (.iload_n 1, 1) := by decide +kernel
theorem dX8_checkPaper_14 : decode cX8_checkPaper 14 = .ok (.aaload, 1) := by decide +kernel
theorem dX8_checkPaper_15 : decode cX8_checkPaper 15 = .ok (.getfield 272, 3) := by decide +kernel
theorem dX8_checkPaper_18 : decode cX8_checkPaper 18 = .ok (.ifCond .ne 14, 3) := by decide +kernel
theorem dX8_checkPaper_21 : decode cX8_checkPaper 21 = .ok (.new 262, 3) := by decide +kernel
theorem dX8_checkPaper_24 : decode cX8_checkPaper 24 = .ok (.dup, 1) := by decide +kernel
theorem dX8_checkPaper_25 : decode cX8_checkPaper 25 = .ok (.ldc_w 275, 3) := by decide +kernel
theorem dX8_checkPaper_28 : decode cX8_checkPaper 28 = .ok (.invokespecial 266, 3) := by decide +kernel
theorem dX8_checkPaper_31 : decode cX8_checkPaper 31 = .ok (.athrow, 1) := by decide +kernel
theorem dX8_checkPaper_32 : decode cX8_checkPaper 32 = .ok (.return_, 1) := by decide +kernel
theorem dX8_checkRoomForVersion_0 : decode cX8_checkRoomForVersion 0 = .ok (.aload_n 0, 1) := by decide +kernel
theorem dX8_checkRoomForVersion_1 : decode cX8_checkRoomForVersion 1 = .ok (.getfield 35, 3) := by decide +kernel
theorem dX8_checkRoomForVersion_4 : decode cX8_checkRoomForVersion 4 = .ok (.getfield 164, 3) := by decide +kernel
theorem dX8_checkRoomForVersion_7 : decode cX8_checkRoomForVersion 7 = .ok (.bipush 20, 2) := by decide +kernel
theorem dX8_checkRoomForVersion_9 : decode cX8_checkRoomForVersion 9 = .ok (.if_icmp .lt 14, 3) := by decide +kernel
theorem dX8_checkRoomForVersion_12 : decode cX8_checkRoomForVersion 12 = .ok (.new 52, 3) := by decide +kernel
theorem dX8_checkRoomForVersion_15 : decode cX8_checkRoomForVersion 15 = .ok (.dup, 1) := by decide +kernel
theorem dX8_checkRoomForVersion_16 : decode cX8_checkRoomForVersion 16 = .ok (.ldc_w 277, 3) := by decide +kernel
theorem dX8_checkRoomForVersion_19 : decode cX8_checkRoomForVersion 19 = .ok (.invokespecial 56, 3) := by decide +kernel
theorem dX8_checkRoomForVersion_22 : decode cX8_checkRoomForVersion 22 = .ok (.athrow, 1) := by decide +kernel
theorem dX8_checkRoomForVersion_23 : decode cX8_checkRoomForVersion 23 = .ok (.return_, 1) := by decide +kernel
theorem dX8_checkNotBroken_0 : decode cX8_checkNotBroken 0 = .ok (.aload_n 0, 1) := by decide +kernel
theorem dX8_checkNotBroken_1 : decode cX8_checkNotBroken 1 = .ok (.getfield 35, 3) := by decide +kernel
theorem dX8_checkNotBroken_4 : decode cX8_checkNotBroken 4 = .ok (.iload_n 1, 1) := by decide +kernel
theorem dX8_checkNotBroken_5 : decode cX8_checkNotBroken 5 = .ok (.invokevirtual 190, 3) := by decide +kernel
theorem dX8_checkNotBroken_8 : decode cX8_checkNotBroken 8 = .ok (.aload_n 0, 1) := by decide +kernel
theorem dX8_checkNotBroken_9 : decode cX8_checkNotBroken 9 = .ok (.getfield 35, 3) := by decide +kernel
theorem dX8_checkNotBroken_12 : decode cX8_checkNotBroken 12 = .ok (.getfield 199, 3) := by decide +kernel
theorem dX8_checkNotBroken_15 : decode cX8_checkNotBroken 15 = .ok (.iconst (-1), 1) := by decide +kernel
theorem dX8_checkNotBroken_16 : decode cX8_checkNotBroken 16 = .ok (.if_icmp .eq 14, 3) := by decide +kernel
theorem dX8_checkNotBroken_19 : decode cX8_checkNotBroken 19 = .ok (.new 52, 3) := by decide +kernel
theorem dX8_checkNotBroken_22 : decode cX8_checkNotBroken 22 = .ok (.dup, 1) := by decide +kernel
theorem dX8_checkNotBroken_23 : decode cX8_checkNotBroken 23 = .ok (.ldc_w 279, 3) := by decide +kernel
theorem dX8_checkNotBroken_26 : decode cX8_checkNotBroken 26 = .ok (.invokespecial 56, 3) := by decide +kernel
theorem dX8_checkNotBroken_29 : decode cX8_checkNotBroken 29 = .ok (.athrow, 1) := by decide +kernel
theorem dX8_checkNotBroken_30 : decode cX8_checkNotBroken 30 = .ok (.return_, 1) := by decide +kernel
theorem dX9_init_0 : decode cX9_init 0 = .ok (.aload_n 0, 1) := by decide +kernel
theorem dX9_init_1 : decode cX9_init 1 = .ok (.invokespecial 1, 3) := by decide +kernel
theorem dX9_init_4 : decode cX9_init 4 = .ok (.aload_n 0, 1) := by decide +kernel
theorem dX9_init_5 : decode cX9_init 5 = .ok (.bipush 6, 2) := by decide +kernel
theorem dX9_init_7 : decode cX9_init 7 = .ok (.newarray .int, 2) := by decide +kernel
theorem dX9_init_9 : decode cX9_init 9 = .ok (.putfield 7, 3) := by decide +kernel
theorem dX9_init_12 : decode cX9_init 12 = .ok (.aload_n 0, 1) := by decide +kernel
theorem dX9_init_13 : decode cX9_init 13 = .ok (.sipush 720, 3) := by decide +kernel
theorem dX9_init_16 : decode cX9_init 16 = .ok (.newarray .int, 2) := by decide +kernel
theorem dX9_init_18 : decode cX9_init 18 = .ok (.putfield 13, 3) := by decide +kernel
theorem dX9_init_21 : decode cX9_init 21 = .ok (.aload_n 0, 1) := by decide +kernel
theorem dX9_init_22 : decode cX9_init 22 = .ok (.iconst 5, 1) := by decide +kernel
theorem dX9_init_23 : decode cX9_init 23 = .ok (.newarray .int, 2) := by decide +kernel
theorem dX9_init_25 : decode cX9_init 25 = .ok (.putfield 16, 3) := by decide +kernel
theorem dX9_init_28 : decode cX9_init 28 = .ok (.aload_n 0, 1) := by decide +kernel
theorem dX9_init_29 : decode cX9_init 29 = .ok (.iconst 5, 1) := by decide +kernel
theorem dX9_init_30 : decode cX9_init 30 = .ok (.newarray .int, 2) := by decide +kernel
theorem dX9_init_32 : decode cX9_init 32 = .ok (.putfield 19, 3) := by decide +kernel
theorem dX9_init_35 : decode cX9_init 35 = .ok (.aload_n 0, 1) := by decide +kernel
theorem dX9_init_36 : decode cX9_init 36 = .ok (.iconst 5, 1) := by decide +kernel
theorem dX9_init_37 : decode cX9_init 37 = .ok (.newarray .int, 2) := by decide +kernel
theorem dX9_init_39 : decode cX9_init 39 = .ok (.putfield 22, 3) := by decide +kernel
theorem dX9_init_42 : decode cX9_init 42 = .ok (.aload_n 0, 1) := by decide +kernel
theorem dX9_init_43 : decode cX9_init 43 = .ok (.iconst 5, 1) := by decide +kernel
theorem dX9_init_44 : decode cX9_init 44 = .ok (.newarray .int, 2) := by decide +kernel
theorem dX9_init_46 : decode cX9_init 46 = .ok (.putfield 25, 3) := by decide +kernel
theorem dX9_init_49 : decode cX9_init 49 = .ok (.aload_n 0, 1) := by decide +kernel
theorem dX9_init_50 : decode cX9_init 50 = .ok (.sipush 600, 3) := by decide +kernel
theorem dX9_init_53 : decode cX9_init 53 = .ok (.newarray .int, 2) := by decide +kernel
theorem dX9_init_55 : decode cX9_init 55 = .ok (.putfield 28, 3) := by decide +kernel
theorem dX9_init_58 : decode cX9_init 58 = .ok (.aload_n 0, 1) := by decide +kernel
theorem dX9_init_59 : decode cX9_init 59 = .ok (.sipush 600, 3) := by decide +kernel
theorem dX9_init_62 : decode cX9_init 62 = .ok (.newarray .long, 2) := by decide +kernel
theorem dX9_init_64 : decode cX9_init 64 = .ok (.putfield 31, 3) := by decide +kernel
theorem dX9_init_67 : decode cX9_init 67 = .ok (.aload_n 0, 1) := by decide +kernel
theorem dX9_init_68 : decode cX9_init 68 = .ok (.bipush 24, 2) := by decide +kernel
theorem dX9_init_70 : decode cX9_init 70 = .ok (.newarray .boolean, 2) := by decide +kernel
theorem dX9_init_72 : decode cX9_init 72 = .ok (.putfield 35, 3) := by decide +kernel
theorem dX9_init_75 : decode cX9_init 75 = .ok (.aload_n 0, 1) := by decide +kernel
theorem dX9_init_76 : decode cX9_init 76 = .ok (.bipush 24, 2) := by decide +kernel
theorem dX9_init_78 : decode cX9_init 78 = .ok (.newarray .int, 2) := by decide +kernel
theorem dX9_init_80 : decode cX9_init 80 = .ok (.putfield 39, 3) := by decide +kernel
theorem dX9_init_83 : decode cX9_init 83 = .ok (.aload_n 0, 1) := by decide +kernel
theorem dX9_init_84 : decode cX9_init 84 = .ok (.bipush 24, 2) := by decide +kernel
theorem dX9_init_86 : decode cX9_init 86 = .ok (.newarray .int, 2) := by decide +kernel
theorem dX9_init_88 : decode cX9_init 88 = .ok (.putfield 42, 3) := by decide +kernel
theorem dX9_init_91 : decode cX9_init 91 = .ok (.aload_n 0, 1) := by decide +kernel
theorem dX9_init_92 : decode cX9_init 92 = .ok (.sipush 2880, 3) := by decide +kernel
theorem dX9_init_95 : decode cX9_init 95 = .ok (.newarray .boolean, 2) := by decide +kernel
theorem dX9_init_97 : decode cX9_init 97 = .ok (.putfield 45, 3) := by decide +kernel
theorem dX9_init_100 : decode cX9_init 100 = .ok (.aload_n 0, 1) := by decide +kernel
theorem dX9_init_101 : decode cX9_init 101 = .ok (.sipush 2880, 3) := by decide +kernel
theorem dX9_init_104 : decode cX9_init 104 = .ok (.newarray .int, 2) := by decide +kernel
theorem dX9_init_106 : decode cX9_init 106 = .ok (.putfield 48, 3) := by decide +kernel
theorem dX9_init_109 : decode cX9_init 109 = .ok (.aload_n 0, 1) := by decide +kernel
theorem dX9_init_110 : decode cX9_init 110 = .ok (.sipush 2880, 3) := by decide +kernel
theorem dX9_init_113 : decode cX9_init 113 = .ok (.newarray .int, 2) := by decide +kernel
theorem dX9_init_115 : decode cX9_init 115 = .ok (.putfield 51, 3) := by decide +kernel
theorem dX9_init_118 : decode cX9_init 118 = .ok (.aload_n 0, 1) := by decide +kernel
theorem dX9_init_119 : decode cX9_init 119 = .ok (.sipush 2880, 3) := by decide +kernel
theorem dX9_init_122 : decode cX9_init 122 = .ok (.newarray .int, 2) := by decide +kernel
theorem dX9_init_124 : decode cX9_init 124 = .ok (.putfield 54, 3) := by decide +kernel
theorem dX9_init_127 : decode cX9_init 127 = .ok (.aload_n 0, 1) := by decide +kernel
theorem dX9_init_128 : decode cX9_init 128 = .ok (.bipush 20, 2) := by decide +kernel
theorem dX9_init_130 : decode cX9_init 130 = .ok (.newarray .int, 2) := by decide +kernel
theorem dX9_init_132 : decode cX9_init 132 = .ok (.putfield 57, 3) := by decide +kernel
theorem dX9_init_135 : decode cX9_init 135 = .ok (.aload_n 0, 1) := by decide +kernel
theorem dX9_init_136 : decode cX9_init 136 = .ok (.bipush 20, 2) := by decide +kernel
theorem dX9_init_138 : decode cX9_init 138 = .ok (.newarray .int, 2) := by decide +kernel
theorem dX9_init_140 : decode cX9_init 140 = .ok (.putfield 60, 3) := by decide +kernel
theorem dX9_init_143 : decode cX9_init 143 = .ok (.aload_n 0, 1) := by decide +kernel
theorem dX9_init_144 : decode cX9_init 144 = .ok (.bipush 20, 2) := by decide +kernel
theorem dX9_init_146 : decode cX9_init 146 = .ok (.newarray .int, 2) := by decide +kernel
theorem dX9_init_148 : decode cX9_init 148 = .ok (.putfield 63, 3) := by decide +kernel
theorem dX9_init_151 : decode cX9_init 151 = .ok (.aload_n 0, 1) := by decide +kernel
theorem dX9_init_152 : decode cX9_init 152 = .ok (.sipush 2400, 3) := by decide +kernel
theorem dX9_init_155 : decode cX9_init 155 = .ok (.newarray .int, 2) := by decide +kernel
theorem dX9_init_157 : decode cX9_init 157 = .ok (.putfield 66, 3) := by decide +kernel
theorem dX9_init_160 : decode cX9_init 160 = .ok (.aload_n 0, 1) := by decide +kernel
theorem dX9_init_161 : decode cX9_init 161 = .ok (.bipush 20, 2) := by decide +kernel
theorem dX9_init_163 : decode cX9_init 163 = .ok (.newarray .int, 2) := by decide +kernel
theorem dX9_init_165 : decode cX9_init 165 = .ok (.putfield 69, 3) := by decide +kernel
theorem dX9_init_168 : decode cX9_init 168 = .ok (.aload_n 0, 1) := by decide +kernel
theorem dX9_init_169 : decode cX9_init 169 = .ok (.bipush 120, 2) := by decide +kernel
theorem dX9_init_171 : decode cX9_init 171 = .ok (.newarray .int, 2) := by decide +kernel
theorem dX9_init_173 : decode cX9_init 173 = .ok (.putfield 72, 3) := by decide +kernel
theorem dX9_init_176 : decode cX9_init 176 = .ok (.aload_n 0, 1) := by decide +kernel
theorem dX9_init_177 : decode cX9_init 177 = .ok (.bipush 120, 2) := by decide +kernel
theorem dX9_init_179 : decode cX9_init 179 = .ok (.newarray .int, 2) := by decide +kernel
theorem dX9_init_181 : decode cX9_init 181 = .ok (.putfield 75, 3) := by decide +kernel
theorem dX9_init_184 : decode cX9_init 184 = .ok (.aload_n 0, 1) := by decide +kernel
theorem dX9_init_185 : decode cX9_init 185 = .ok (.iconst 4, 1) := by decide +kernel
theorem dX9_init_186 : decode cX9_init 186 = .ok (.putfield 78, 3) := by decide +kernel
theorem dX9_init_189 : decode cX9_init 189 = .ok (.aload_n 0, 1) := by decide +kernel
theorem dX9_init_190 : decode cX9_init 190 = .ok (.bipush 16, 2) := by decide +kernel
theorem dX9_init_192 : decode cX9_init 192 = .ok (.putfield 82, 3) := by decide +kernel
theorem dX9_init_195 : decode cX9_init 195 = .ok (.aload_n 0, 1) := by decide +kernel
theorem dX9_init_196 : decode cX9_init 196 = .ok (.bipush 8, 2) := by decide +kernel
theorem dX9_init_198 : decode cX9_init 198 = .ok (.putfield 85, 3) := by decide +kernel
theorem dX9_init_201 : decode cX9_init 201 = .ok (.aload_n 0, 1) := by decide +kernel
theorem dX9_init_202 : decode cX9_init 202 = .ok (.bipush 12, 2) := by decide +kernel
theorem dX9_init_204 : decode cX9_init 204 = .ok (.newarray .boolean, 2) := by decide +kernel
theorem dX9_init_206 : decode cX9_init 206 = .ok (.putfield 88, 3) := by decide +kernel
theorem dX9_init_209 : decode cX9_init 209 = .ok (.aload_n 0, 1) := by decide +kernel
theorem dX9_init_210 : decode cX9_init 210 = .ok (.bipush 12, 2) := by decide +kernel
theorem dX9_init_212 : decode cX9_init 212 = .ok (.newarray .int, 2) := by decide +kernel
theorem dX9_init_214 : decode cX9_init 214 = .ok (.putfield 91, 3) := by decide +kernel
theorem dX9_init_217 : decode cX9_init 217 = .ok (.aload_n 0, 1) := by decide +kernel
theorem dX9_init_218 : decode cX9_init 218 = .ok (.sipush 1440, 3) := by decide +kernel
theorem dX9_init_221 : decode cX9_init 221 = .ok (.newarray .int, 2) := by decide +kernel
theorem dX9_init_223 : decode cX9_init 223 = .ok (.putfield 94, 3) := by decide +kernel
theorem dX9_init_226 : decode cX9_init 226 = .ok (.aload_n 0, 1) := by decide +kernel
theorem dX9_init_227 : decode cX9_init 227 = .ok (.sipush 1440, 3) := by decide +kernel
theorem dX9_init_230 : decode cX9_init 230 = .ok (.newarray .int, 2) := by decide +kernel
theorem dX9_init_232 : decode cX9_init 232 = .ok (.putfield 97, 3) := by decide +kernel
theorem dX9_init_235 : decode cX9_init 235 = .ok (.return_, 1) := by decide +kernel
theorem dX9_thrown_0 : decode cX9_thrown 0 = .ok (.aload_n 0, 1) := by decide +kernel
theorem dX9_thrown_1 : decode cX9_thrown 1 = .ok (.getfield 100, 3) := by decide +kernel
theorem dX9_thrown_4 : decode cX9_thrown 4 = .ok (.ireturn, 1) := by decide +kernel
theorem dX9_may_0 : decode cX9_may 0 = .ok (.aload_n 0, 1) := by decide +kernel
theorem dX9_may_1 : decode cX9_may 1 = .ok (.iload_n 1, 1) := by decide +kernel
theorem dX9_may_2 : decode cX9_may 2 = .ok (.ifCond .eq 7, 3) := by decide +kernel
theorem dX9_may_5 : decode cX9_may 5 = .ok (.iconst 0, 1) := by decide +kernel
theorem dX9_may_6 : decode cX9_may 6 = .ok (.goto 4, 3) := by decide +kernel
theorem dX9_may_9 : decode cX9_may 9 = .ok (.iconst 1, 1) := by decide +kernel
theorem dX9_may_10 : decode cX9_may 10 = .ok (.putfield 100, 3) := by decide +kernel
theorem dX9_may_13 : decode cX9_may 13 = .ok (.iload_n 1, 1) := by decide +kernel
theorem dX9_may_14 : decode cX9_may 14 = .ok (.ireturn, 1) := by decide +kernel
theorem dX9_mayBoth_0 : decode cX9_mayBoth 0 = .ok (.aload_n 0, 1) := by decide +kernel
theorem dX9_mayBoth_1 : decode cX9_mayBoth 1 = .ok (.iload_n 1, 1) := by decide +kernel
theorem dX9_mayBoth_2 : decode cX9_mayBoth 2 = .ok (.ifCond .ne 7, 3) := by decide +kernel
theorem dX9_mayBoth_5 : decode cX9_mayBoth 5 = .ok (.iconst 1, 1) := by decide +kernel
theorem dX9_mayBoth_6 : decode cX9_mayBoth 6 = .ok (.goto 12, 3) := by decide +kernel
theorem dX9_mayBoth_9 : decode cX9_mayBoth 9 = .ok (.iload_n 2, 1) := by decide +kernel
theorem dX9_mayBoth_10 : decode cX9_mayBoth 10 = .ok (.ifCond .ne 7, 3) := by decide +kernel
theorem dX9_mayBoth_13 : decode cX9_mayBoth 13 = .ok (.iconst 2, 1) := by decide +kernel
theorem dX9_mayBoth_14 : decode cX9_mayBoth 14 = .ok (.goto 4, 3) := by decide +kernel
theorem dX9_mayBoth_17 : decode cX9_mayBoth 17 = .ok (.iconst 0, 1) := by decide +kernel
theorem dX9_mayBoth_18 : decode cX9_mayBoth 18 = .ok (.putfield 100, 3) := by decide +kernel
theorem dX9_mayBoth_21 : decode cX9_mayBoth 21 = .ok (.aload_n 0, 1) := by decide +kernel
theorem dX9_mayBoth_22 : decode cX9_mayBoth 22 = .ok (.getfield 100, 3) := by decide +kernel
theorem dX9_mayBoth_25 : decode cX9_mayBoth 25 = .ok (.ifCond .ne 7, 3) := by decide +kernel
theorem dX9_mayBoth_28 : decode cX9_mayBoth 28 = .ok (.iconst 1, 1) := by decide +kernel
theorem dX9_mayBoth_29 : decode cX9_mayBoth 29 = .ok (.goto 4, 3) := by decide +kernel
theorem dX9_mayBoth_32 : decode cX9_mayBoth 32 = .ok (.iconst 0, 1) := by decide +kernel
theorem dX9_mayBoth_33 : decode cX9_mayBoth 33 = .ok (.ireturn, 1) := by decide +kernel
theorem dX9_mayAll_0 : decode cX9_mayAll 0 = .ok (.aload_n 0, 1) := by decide +kernel
theorem dX9_mayAll_1 : decode cX9_mayAll 1 = .ok (.iload_n 1, 1) := by decide +kernel
theorem dX9_mayAll_2 : decode cX9_mayAll 2 = .ok (.ifCond .ne 7, 3) := by decide +kernel
theorem dX9_mayAll_5 : decode cX9_mayAll 5 = .ok (.iconst 1, 1) := by decide +kernel
theorem dX9_mayAll_6 : decode cX9_mayAll 6 = .ok (.goto 20, 3) := by decide +kernel
theorem dX9_mayAll_9 : decode cX9_mayAll 9 = .ok (.iload_n 2, 1) := by decide +kernel
theorem dX9_mayAll_10 : decode cX9_mayAll 10 = .ok (.ifCond .ne 7, 3) := by decide +kernel
theorem dX9_mayAll_13 : decode cX9_mayAll 13 = .ok (.iconst 2, 1) := by decide +kernel
theorem dX9_mayAll_14 : decode cX9_mayAll 14 = .ok (.goto 12, 3) := by decide +kernel
theorem dX9_mayAll_17 : decode cX9_mayAll 17 = .ok (.iload_n 3, 1) := by decide +kernel
theorem dX9_mayAll_18 : decode cX9_mayAll 18 = .ok (.ifCond .ne 7, 3) := by decide +kernel
theorem dX9_mayAll_21 : decode cX9_mayAll 21 = .ok (.iconst 3, 1) := by decide +kernel
theorem dX9_mayAll_22 : decode cX9_mayAll 22 = .ok (.goto 4, 3) := by decide +kernel
theorem dX9_mayAll_25 : decode cX9_mayAll 25 = .ok (.iconst 0, 1) := by decide +kernel
theorem dX9_mayAll_26 : decode cX9_mayAll 26 = .ok (.putfield 100, 3) := by decide +kernel
theorem dX9_mayAll_29 : decode cX9_mayAll 29 = .ok (.aload_n 0, 1) := by decide +kernel
theorem dX9_mayAll_30 : decode cX9_mayAll 30 = .ok (.getfield 100, 3) := by decide +kernel
theorem dX9_mayAll_33 : decode cX9_mayAll 33 = .ok (.ifCond .ne 7, 3) := by decide +kernel
theorem dX9_mayAll_36 : decode cX9_mayAll 36 = .ok (.iconst 1, 1) := by decide +kernel
theorem dX9_mayAll_37 : decode cX9_mayAll 37 = .ok (.goto 4, 3) := by decide +kernel
theorem dX9_mayAll_40 : decode cX9_mayAll 40 = .ok (.iconst 0, 1) := by decide +kernel
theorem dX9_mayAll_41 : decode cX9_mayAll 41 = .ok (.ireturn, 1) := by decide +kernel
theorem dX9_isFile_0 : decode cX9_isFile 0 = .ok (.iload_n 1, 1) := by decide +kernel
theorem dX9_isFile_1 : decode cX9_isFile 1 = .ok (.ifCond .lt 15, 3) := by decide +kernel
theorem dX9_isFile_4 : decode cX9_isFile 4 = .ok (.iload_n 1, 1) := by decide +kernel
theorem dX9_isFile_5 : decode cX9_isFile 5 = .ok (.aload_n 0, 1) := by decide +kernel
theorem dX9_isFile_6 : decode cX9_isFile 6 = .ok (.getfield 103, 3) := by decide +kernel
theorem dX9_isFile_9 : decode cX9_isFile 9 = .ok (.if_icmp .ge 7, 3) := by decide +kernel
theorem dX9_isFile_12 : decode cX9_isFile 12 = .ok (.iconst 1, 1) := by decide +kernel
theorem dX9_isFile_13 : decode cX9_isFile 13 = .ok (.goto 4, 3) := by decide +kernel
theorem dX9_isFile_16 : decode cX9_isFile 16 = .ok (.iconst 0, 1) := by decide +kernel
theorem dX9_isFile_17 : decode cX9_isFile 17 = .ok (.ireturn, 1) := by decide +kernel
theorem dX9_isPlace_0 : decode cX9_isPlace 0 = .ok (.iload_n 0, 1) := by decide +kernel
theorem dX9_isPlace_1 : decode cX9_isPlace 1 = .ok (.ifCond .lt 12, 3) := by decide +kernel
theorem dX9_isPlace_4 : decode cX9_isPlace 4 = .ok (.iload_n 0, 1) := by decide +kernel
theorem dX9_isPlace_5 : decode cX9_isPlace 5 = .ok (.iconst 4, 1) := by decide +kernel
theorem dX9_isPlace_6 : decode cX9_isPlace 6 = .ok (.if_icmp .ge 7, 3) := by decide +kernel
theorem dX9_isPlace_9 : decode cX9_isPlace 9 = .ok (.iconst 1, 1) := by decide +kernel
theorem dX9_isPlace_10 : decode cX9_isPlace 10 = .ok (.goto 4, 3) := by decide +kernel
theorem dX9_isPlace_13 : decode cX9_isPlace 13 = .ok (.iconst 0, 1) := by decide +kernel
theorem dX9_isPlace_14 : decode cX9_isPlace 14 = .ok (.ireturn, 1) := by decide +kernel
theorem dX9_isByte_0 : decode cX9_isByte 0 = .ok (.iload_n 0, 1) := by decide +kernel
theorem dX9_isByte_1 : decode cX9_isByte 1 = .ok (.ifCond .lt 14, 3) := by decide +kernel
theorem dX9_isByte_4 : decode cX9_isByte 4 = .ok (.iload_n 0, 1) := by decide +kernel
theorem dX9_isByte_5 : decode cX9_isByte 5 = .ok (.sipush 256, 3) := by decide +kernel
theorem dX9_isByte_8 : decode cX9_isByte 8 = .ok (.if_icmp .ge 7, 3) := by decide +kernel
theorem dX9_isByte_11 : decode cX9_isByte 11 = .ok (.iconst 1, 1) := by decide +kernel
theorem dX9_isByte_12 : decode cX9_isByte 12 = .ok (.goto 4, 3) := by decide +kernel
theorem dX9_isByte_15 : decode cX9_isByte 15 = .ok (.iconst 0, 1) := by decide +kernel
theorem dX9_isByte_16 : decode cX9_isByte 16 = .ok (.ireturn, 1) := by decide +kernel
theorem dX9_file_0 : decode cX9_file 0 = .ok (.aload_n 0, 1) := by decide +kernel
theorem dX9_file_1 : decode cX9_file 1 = .ok (.aload_n 0, 1) := by decide +kernel
theorem dX9_file_2 : decode cX9_file 2 = .ok (.getfield 103, 3) := by decide +kernel
theorem dX9_file_5 : decode cX9_file 5 = .ok (.bipush 6, 2) := by decide +kernel
theorem dX9_file_7 : decode cX9_file 7 = .ok (.if_icmp .ge 7, 3) := by decide +kernel
theorem dX9_file_10 : decode cX9_file 10 = .ok (.iconst 1, 1) := by decide +kernel
theorem dX9_file_11 : decode cX9_file 11 = .ok (.goto 4, 3) := by decide +kernel
theorem dX9_file_14 : decode cX9_file 14 = .ok (.iconst 0, 1) := by decide +kernel
theorem dX9_file_15 : decode cX9_file 15 = .ok (.invokevirtual 106, 3) := by decide +kernel
theorem dX9_file_18 : decode cX9_file 18 = .ok (.ifCond .ne 5, 3) := by decide +kernel
theorem dX9_file_21 : decode cX9_file 21 = .ok (.iconst 0, 1) := by decide +kernel
theorem dX9_file_22 : decode cX9_file 22 = .ok (.ireturn, 1) := by decide +kernel
theorem dX9_file_23 : decode cX9_file 23 = .ok (.aload_n 0, 1) := by decide +kernel
theorem dX9_file_24 : decode cX9_file 24 = .ok (.dup, 1) := by decide +kernel
theorem dX9_file_25 : decode cX9_file 25 = .ok (.getfield 103, 3) := by decide +kernel
theorem dX9_file_28 : decode cX9_file 28 = .ok (.iconst 1, 1) := by decide +kernel
theorem dX9_file_29 : decode cX9_file 29 = .ok (.iadd, 1) := by decide +kernel
theorem dX9_file_30 : decode cX9_file 30 = .ok (.putfield 103, 3) := by decide +kernel
theorem dX9_file_33 : decode cX9_file 33 = .ok (.aload_n 0, 1) := by decide +kernel
theorem dX9_file_34 : decode cX9_file 34 = .ok (.getfield 103, 3) := by decide +kernel
theorem dX9_file_37 : decode cX9_file 37 = .ok (.iconst 1, 1) := by decide +kernel
theorem dX9_file_38 : decode cX9_file 38 = .ok (.isub, 1) := by decide +kernel
theorem dX9_file_39 : decode cX9_file 39 = .ok (.ireturn, 1) := by decide +kernel
theorem dX9_add_0 : decode cX9_add 0 = .ok (.iload_n 2, 1) := by decide +kernel
theorem dX9_add_1 : decode cX9_add 1 = .ok (.invokestatic 110, 3) := by decide +kernel
theorem dX9_add_4 : decode cX9_add 4 = .ok (.ifCond .eq 27, 3) := by decide +kernel
theorem dX9_add_7 : decode cX9_add 7 = .ok (.iload_n 3, 1) := by decide +kernel
theorem dX9_add_8 : decode cX9_add 8 = .ok (.invokestatic 110, 3) := by decide +kernel
theorem dX9_add_11 : decode cX9_add 11 = .ok (.ifCond .eq 20, 3) := by decide +kernel
theorem dX9_add_14 : decode cX9_add 14 = .ok (.iload 4, 2) := by decide +kernel
theorem dX9_add_16 : decode cX9_add 16 = .ok (.iconst 1, 1) := by decide +kernel
theorem dX9_add_17 : decode cX9_add 17 = .ok (.if_icmp .lt 14, 3) := by decide +kernel
theorem dX9_add_20 : decode cX9_add 20 = .ok (.iload 4, 2) := by decide +kernel
theorem dX9_add_22 : decode cX9_add 22 = .ok (.bipush 120, 2) := by decide +kernel
theorem dX9_add_24 : decode cX9_add 24 = .ok (.if_icmp .gt 7, 3) := by decide +kernel
theorem dX9_add_27 : decode cX9_add 27 = .ok (.iconst 1, 1) := by decide +kernel
theorem dX9_add_28 : decode cX9_add 28 = .ok (.goto 4, 3) := by decide +kernel
theorem dX9_add_31 : decode cX9_add 31 = .ok (.iconst 0, 1) := by decide +kernel
theorem dX9_add_32 : decode cX9_add 32 = .ok (.istore 5, 2) := by decide +kernel
theorem dX9_add_34 : decode cX9_add 34 = .ok (.aload_n 0, 1) := by decide +kernel
theorem dX9_add_35 : decode cX9_add 35 = .ok (.aload_n 0, 1) := by decide +kernel
theorem dX9_add_36 : decode cX9_add 36 = .ok (.iload_n 1, 1) := by decide +kernel
theorem dX9_add_37 : decode cX9_add 37 = .ok (.invokevirtual 114, 3) := by decide +kernel
theorem dX9_add_40 : decode cX9_add 40 = .ok (.iload 5, 2) := by decide +kernel
theorem dX9_add_42 : decode cX9_add 42 = .ok (.aload_n 0, 1) := by decide +kernel
theorem dX9_add_43 : decode cX9_add 43 = .ok (.iload_n 1, 1) := by decide +kernel
theorem dX9_add_44 : decode cX9_add 44 = .ok (.invokevirtual 114, 3) := by decide +kernel
theorem dX9_add_47 : decode cX9_add 47 = .ok (.ifCond .eq 26, 3) := by decide +kernel
theorem dX9_add_50 : decode cX9_add 50 = .ok (.iload 5, 2) := by decide +kernel
theorem dX9_add_52 : decode cX9_add 52 = .ok (.ifCond .eq 21, 3) := by decide +kernel
theorem dX9_add_55 : decode cX9_add 55 = .ok (.aload_n 0, 1) := by decide +kernel
theorem dX9_add_56 : decode cX9_add 56 = .ok (.getfield 7, 3) := by decide +kernel
theorem dX9_add_59 : decode cX9_add 59 = .ok (.iload_n 1, 1) := by decide +kernel
theorem dX9_add_60 : decode cX9_add 60 = .ok (.iaload, 1) := by decide +kernel
theorem dX9_add_61 : decode cX9_add 61 = .ok (.iload 4, 2) := by decide +kernel
theorem dX9_add_63 : decode cX9_add 63 = .ok (.iadd, 1) := by decide +kernel
theorem dX9_add_64 : decode cX9_add 64 = .ok (.bipush 120, 2) := by decide +kernel
theorem dX9_add_66 : decode cX9_add 66 = .ok (.if_icmp .gt 7, 3) := by decide +kernel
theorem dX9_add_69 : decode cX9_add 69 = .ok (.iconst 1, 1) := by decide +kernel
theorem dX9_add_70 : decode cX9_add 70 = .ok (.goto 4, 3) := by decide +kernel
theorem dX9_add_73 : decode cX9_add 73 = .ok (.iconst 0, 1) := by decide +kernel
theorem dX9_add_74 : decode cX9_add 74 = .ok (.invokevirtual 117, 3) := by decide +kernel
theorem dX9_add_77 : decode cX9_add 77 = .ok (.ifCond .ne 5, 3) := by decide +kernel
theorem dX9_add_80 : decode cX9_add 80 = .ok (.iconst 0, 1) := by decide +kernel
theorem dX9_add_81 : decode cX9_add 81 = .ok (.ireturn, 1) := by decide +kernel
theorem dX9_add_82 : decode cX9_add 82 = .ok (.iload_n 2, 1) := by decide +kernel
theorem dX9_add_83 : decode cX9_add 83 = .ok (.istore 6, 2) := by decide +kernel
theorem dX9_add_85 : decode cX9_add 85 = .ok (.iconst 0, 1) := by decide +kernel
theorem dX9_add_86 : decode cX9_add 86 = .ok (.istore 7, 2) := by decide +kernel
theorem dX9_add_88 : decode cX9_add 88 = .ok (.iload 7, 2) := by decide +kernel
theorem dX9_add_90 : decode cX9_add 90 = .ok (.iload 4, 2) := by decide +kernel
theorem dX9_add_92 : decode cX9_add 92 = .ok (.if_icmp .ge 47, 3) := by decide +kernel
theorem dX9_add_95 : decode cX9_add 95 = .ok (.aload_n 0, 1) := by decide +kernel
theorem dX9_add_96 : decode cX9_add 96 = .ok (.getfield 13, 3) := by decide +kernel
theorem dX9_add_99 : decode cX9_add 99 = .ok (.bipush 120, 2) := by decide +kernel
theorem dX9_add_101 : decode cX9_add 101 = .ok (.iload_n 1, 1) := by decide +kernel
theorem dX9_add_102 : decode cX9_add 102 = .ok (.imul, 1) := by decide +kernel
theorem dX9_add_103 : decode cX9_add 103 = .ok (.aload_n 0, 1) := by decide +kernel
theorem dX9_add_104 : decode cX9_add 104 = .ok (.getfield 7, 3) := by decide +kernel
theorem dX9_add_107 : decode cX9_add 107 = .ok (.iload_n 1, 1) := by decide +kernel
theorem dX9_add_108 : decode cX9_add 108 = .ok (.iaload, 1) := by decide +kernel
theorem dX9_add_109 : decode cX9_add 109 = .ok (.iadd, 1) := by decide +kernel
theorem dX9_add_110 : decode cX9_add 110 = .ok (.iload 6, 2) := by decide +kernel
theorem dX9_add_112 : decode cX9_add 112 = .ok (.iastore, 1) := by decide +kernel
theorem dX9_add_113 : decode cX9_add 113 = .ok (.aload_n 0, 1) := by decide +kernel
theorem dX9_add_114 : decode cX9_add 114 = .ok (.getfield 7, 3) := by decide +kernel
theorem dX9_add_117 : decode cX9_add 117 = .ok (.iload_n 1, 1) := by decide +kernel
theorem dX9_add_118 : decode cX9_add 118 = .ok (.dup2, 1) := by decide +kernel
theorem dX9_add_119 : decode cX9_add 119 = .ok (.iaload, 1) := by decide +kernel
theorem dX9_add_120 : decode cX9_add 120 = .ok (.iconst 1, 1) := by decide +kernel
theorem dX9_add_121 : decode cX9_add 121 = .ok (.iadd, 1) := by decide +kernel
theorem dX9_add_122 : decode cX9_add 122 = .ok (.iastore, 1) := by decide +kernel
theorem dX9_add_123 : decode cX9_add 123 = .ok (.iload 6, 2) := by decide +kernel
theorem dX9_add_125 : decode cX9_add 125 = .ok (.iload_n 3, 1) := by decide +kernel
theorem dX9_add_126 : decode cX9_add 126 = .ok (.iadd, 1) := by decide +kernel
theorem dX9_add_127 : decode cX9_add 127 = .ok (.sipush 256, 3) := by decide +kernel
theorem dX9_add_130 : decode cX9_add 130 = .ok (.irem, 1) := by decide +kernel
theorem dX9_add_131 : decode cX9_add 131 = .ok (.istore 6, 2) := by decide +kernel
theorem dX9_add_133 : decode cX9_add 133 = .ok (.iinc 7 1, 3) := by decide +kernel
theorem dX9_add_136 : decode cX9_add 136 = .ok (.goto (-48), 3) := by decide +kernel
theorem dX9_add_139 : decode cX9_add 139 = .ok (.aload_n 0, 1) := by decide +kernel
theorem dX9_add_140 : decode cX9_add 140 = .ok (.getfield 7, 3) := by decide +kernel
theorem dX9_add_143 : decode cX9_add 143 = .ok (.iload_n 1, 1) := by decide +kernel
theorem dX9_add_144 : decode cX9_add 144 = .ok (.iaload, 1) := by decide +kernel
theorem dX9_add_145 : decode cX9_add 145 = .ok (.ireturn, 1) := by decide +kernel
theorem dX9_insert_0 : decode cX9_insert 0 = .ok (.aload_n 0, 1) := by decide +kernel
theorem dX9_insert_1 : decode cX9_insert 1 = .ok (.iload_n 1, 1) := by decide +kernel
theorem dX9_insert_2 : decode cX9_insert 2 = .ok (.invokevirtual 114, 3) := by decide +kernel
theorem dX9_insert_5 : decode cX9_insert 5 = .ok (.ifCond .eq 21, 3) := by decide +kernel
theorem dX9_insert_8 : decode cX9_insert 8 = .ok (.iload_n 2, 1) := by decide +kernel
theorem dX9_insert_9 : decode cX9_insert 9 = .ok (.ifCond .lt 17, 3) := by decide +kernel
theorem dX9_insert_12 : decode cX9_insert 12 = .ok (.iload_n 2, 1) := by decide +kernel
theorem dX9_insert_13 : decode cX9_insert 13 = .ok (.aload_n 0, 1) := by decide +kernel
theorem dX9_insert_14 : decode cX9_insert 14 = .ok (.getfield 7, 3) := by decide +kernel
theorem dX9_insert_17 : decode cX9_insert 17 = .ok (.iload_n 1, 1) := by decide +kernel
theorem dX9_insert_18 : decode cX9_insert 18 = .ok (.iaload, 1) := by decide +kernel
theorem dX9_insert_19 : decode cX9_insert 19 = .ok (.if_icmp .gt 7, 3) := by decide +kernel
theorem dX9_insert_22 : decode cX9_insert 22 = .ok (.iconst 1, 1) := by decide +kernel
theorem dX9_insert_23 : decode cX9_insert 23 = .ok (.goto 4, 3) := by decide +kernel
theorem dX9_insert_26 : decode cX9_insert 26 = .ok (.iconst 0, 1) := by decide +kernel
theorem dX9_insert_27 : decode cX9_insert 27 = .ok (.istore 4, 2) := by decide +kernel
theorem dX9_insert_29 : decode cX9_insert 29 = .ok (.aload_n 0, 1) := by decide +kernel
theorem dX9_insert_30 : decode cX9_insert 30 = .ok (.iload 4, 2) := by decide +kernel
theorem dX9_insert_32 : decode cX9_insert 32 = .ok (.iload_n 3, 1) := by decide +kernel
theorem dX9_insert_33 : decode cX9_insert 33 = .ok (.invokestatic 110, 3) := by decide +kernel
theorem dX9_insert_36 : decode cX9_insert 36 = .ok (.iload 4, 2) := by decide +kernel
theorem dX9_insert_38 : decode cX9_insert 38 = .ok (.ifCond .eq 18, 3) := by decide +kernel
theorem dX9_insert_41 : decode cX9_insert 41 = .ok (.aload_n 0, 1) := by decide +kernel
theorem dX9_insert_42 : decode cX9_insert 42 = .ok (.getfield 7, 3) := by decide +kernel
theorem dX9_insert_45 : decode cX9_insert 45 = .ok (.iload_n 1, 1) := by decide +kernel
theorem dX9_insert_46 : decode cX9_insert 46 = .ok (.iaload, 1) := by decide +kernel
theorem dX9_insert_47 : decode cX9_insert 47 = .ok (.bipush 120, 2) := by decide +kernel
theorem dX9_insert_49 : decode cX9_insert 49 = .ok (.if_icmp .ge 7, 3) := by decide +kernel
theorem dX9_insert_52 : decode cX9_insert 52 = .ok (.iconst 1, 1) := by decide +kernel
theorem dX9_insert_53 : decode cX9_insert 53 = .ok (.goto 4, 3) := by decide +kernel
theorem dX9_insert_56 : decode cX9_insert 56 = .ok (.iconst 0, 1) := by decide +kernel
theorem dX9_insert_57 : decode cX9_insert 57 = .ok (.invokevirtual 117, 3) := by decide +kernel
theorem dX9_insert_60 : decode cX9_insert 60 = .ok (.ifCond .ne 5, 3) := by decide +kernel
theorem dX9_insert_63 : decode cX9_insert 63 = .ok (.iconst 0, 1) := by decide +kernel
theorem dX9_insert_64 : decode cX9_insert 64 = .ok (.ireturn, 1) := by decide +kernel
theorem dX9_insert_65 : decode cX9_insert 65 = .ok (.aload_n 0, 1) := by decide +kernel
theorem dX9_insert_66 : decode cX9_insert 66 = .ok (.getfield 7, 3) := by decide +kernel
theorem dX9_insert_69 : decode cX9_insert 69 = .ok (.iload_n 1, 1) := by decide +kernel
theorem dX9_insert_70 : decode cX9_insert 70 = .ok (.iaload, 1) := by decide +kernel
theorem dX9_insert_71 : decode cX9_insert 71 = .ok (.istore 5, 2) := by decide +kernel
theorem dX9_insert_73 : decode cX9_insert 73 = .ok (.iload 5, 2) := by decide +kernel
theorem dX9_insert_75 : decode cX9_insert 75 = .ok (.iload_n 2, 1) := by decide +kernel
theorem dX9_insert_76 : decode cX9_insert 76 = .ok (.if_icmp .le 35, 3) := by decide +kernel
theorem dX9_insert_79 : decode cX9_insert 79 = .ok (.aload_n 0, 1) := by decide +kernel
theorem dX9_insert_80 : decode cX9_insert 80 = .ok (.getfield 13, 3) := by decide +kernel
theorem dX9_insert_83 : decode cX9_insert 83 = .ok (.bipush 120, 2) := by decide +kernel
theorem dX9_insert_85 : decode cX9_insert 85 = .ok (.iload_n 1, 1) := by decide +kernel
theorem dX9_insert_86 : decode cX9_insert 86 = .ok (.imul, 1) := by decide +kernel
theorem dX9_insert_87 : decode cX9_insert 87 = .ok (.iload 5, 2) := by decide +kernel
theorem dX9_insert_89 : decode cX9_insert 89 = .ok (.iadd, 1) := by decide +kernel
theorem dX9_insert_90 : decode cX9_insert 90 = .ok (.aload_n 0, 1) := by decide +kernel
theorem dX9_insert_91 : decode cX9_insert 91 = .ok (.getfield 13, 3) := by decide +kernel
theorem dX9_insert_94 : decode cX9_insert 94 = .ok (.bipush 120, 2) := by decide +kernel
theorem dX9_insert_96 : decode cX9_insert 96 = .ok (.iload_n 1, 1) := by decide +kernel
theorem dX9_insert_97 : decode cX9_insert 97 = .ok (.imul, 1) := by decide +kernel
theorem dX9_insert_98 : decode cX9_insert 98 = .ok (.iload 5, 2) := by decide +kernel
theorem dX9_insert_100 : decode cX9_insert 100 = .ok (.iadd, 1) := by decide +kernel
theorem dX9_insert_101 : decode cX9_insert 101 = .ok (.iconst 1, 1) := by decide +kernel
theorem dX9_insert_102 : decode cX9_insert 102 = .ok (.isub, 1) := by decide +kernel
theorem dX9_insert_103 : decode cX9_insert 103 = .ok (.iaload, 1) := by decide +kernel
theorem dX9_insert_104 : decode cX9_insert 104 = .ok (.iastore, 1) := by decide +kernel
theorem dX9_insert_105 : decode cX9_insert 105 = .ok (.iinc 5 (-1), 3) := by decide +kernel
theorem dX9_insert_108 : decode cX9_insert 108 = .ok (.goto (-35), 3) := by decide +kernel
theorem dX9_insert_111 : decode cX9_insert 111 = .ok (.aload_n 0, 1) := by decide +kernel
theorem dX9_insert_112 : decode cX9_insert 112 = .ok (.getfield 13, 3) := by decide +kernel
theorem dX9_insert_115 : decode cX9_insert 115 = .ok (.bipush 120, 2) := by decide +kernel
theorem dX9_insert_117 : decode cX9_insert 117 = .ok (.iload_n 1, 1) := by decide +kernel
theorem dX9_insert_118 : decode cX9_insert 118 = .ok (.imul, 1) := by decide +kernel
theorem dX9_insert_119 : decode cX9_insert 119 = .ok (.iload_n 2, 1) := by decide +kernel
theorem dX9_insert_120 : decode cX9_insert 120 = .ok (.iadd, 1) := by decide +kernel
theorem dX9_insert_121 : decode cX9_insert 121 = .ok (.iload_n 3, 1) := by decide +kernel
theorem dX9_insert_122 : decode cX9_insert 122 = .ok (.iastore, 1) := by decide +kernel
theorem dX9_insert_123 : decode cX9_insert 123 = .ok (.aload_n 0, 1) := by decide +kernel
theorem dX9_insert_124 : decode cX9_insert 124 = .ok (.getfield 7, 3) := by decide +kernel
theorem dX9_insert_127 : decode cX9_insert 127 = .ok (.iload_n 1, 1) := by decide +kernel
theorem dX9_insert_128 : decode cX9_insert 128 = .ok (.dup2, 1) := by decide +kernel
theorem dX9_insert_129 : decode cX9_insert 129 = .ok (.iaload, 1) := by decide +kernel
theorem dX9_insert_130 : decode cX9_insert 130 = .ok (.iconst 1, 1) := by decide +kernel
theorem dX9_insert_131 : decode cX9_insert 131 = .ok (.iadd, 1) := by decide +kernel
theorem dX9_insert_132 : decode cX9_insert 132 = .ok (.iastore, 1) := by decide +kernel
theorem dX9_insert_133 : decode cX9_insert 133 = .ok (.aload_n 0, 1) := by decide +kernel
theorem dX9_insert_134 : decode cX9_insert 134 = .ok (.getfield 7, 3) := by decide +kernel
theorem dX9_insert_137 : decode cX9_insert 137 = .ok (.iload_n 1, 1) := by decide +kernel
theorem dX9_insert_138 : decode cX9_insert 138 = .ok (.iaload, 1) := by decide +kernel
theorem dX9_insert_139 : decode cX9_insert 139 = .ok (.ireturn, 1) := by decide +kernel
theorem dX9_remove_0 : decode cX9_remove 0 = .ok (.aload_n 0, 1) := by decide +kernel
theorem dX9_remove_1 : decode cX9_remove 1 = .ok (.iload_n 1, 1) := by decide +kernel
theorem dX9_remove_2 : decode cX9_remove 2 = .ok (.invokevirtual 114, 3) := by decide +kernel
theorem dX9_remove_5 : decode cX9_remove 5 = .ok (.ifCond .eq 21, 3) := by decide +kernel
theorem dX9_remove_8 : decode cX9_remove 8 = .ok (.iload_n 2, 1) := by decide +kernel
theorem dX9_remove_9 : decode cX9_remove 9 = .ok (.ifCond .lt 17, 3) := by decide +kernel
theorem dX9_remove_12 : decode cX9_remove 12 = .ok (.iload_n 2, 1) := by decide +kernel
theorem dX9_remove_13 : decode cX9_remove 13 = .ok (.aload_n 0, 1) := by decide +kernel
theorem dX9_remove_14 : decode cX9_remove 14 = .ok (.getfield 7, 3) := by decide +kernel
theorem dX9_remove_17 : decode cX9_remove 17 = .ok (.iload_n 1, 1) := by decide +kernel
theorem dX9_remove_18 : decode cX9_remove 18 = .ok (.iaload, 1) := by decide +kernel
theorem dX9_remove_19 : decode cX9_remove 19 = .ok (.if_icmp .gt 7, 3) := by decide +kernel
theorem dX9_remove_22 : decode cX9_remove 22 = .ok (.iconst 1, 1) := by decide +kernel
theorem dX9_remove_23 : decode cX9_remove 23 = .ok (.goto 4, 3) := by decide +kernel
theorem dX9_remove_26 : decode cX9_remove 26 = .ok (.iconst 0, 1) := by decide +kernel
theorem dX9_remove_27 : decode cX9_remove 27 = .ok (.istore 4, 2) := by decide +kernel
theorem dX9_remove_29 : decode cX9_remove 29 = .ok (.aload_n 0, 1) := by decide +kernel
theorem dX9_remove_30 : decode cX9_remove 30 = .ok (.iload 4, 2) := by decide +kernel
theorem dX9_remove_32 : decode cX9_remove 32 = .ok (.iload 4, 2) := by decide +kernel
theorem dX9_remove_34 : decode cX9_remove 34 = .ok (.ifCond .eq 23, 3) := by decide +kernel
theorem dX9_remove_37 : decode cX9_remove 37 = .ok (.iload_n 3, 1) := by decide +kernel
theorem dX9_remove_38 : decode cX9_remove 38 = .ok (.ifCond .lt 19, 3) := by decide +kernel
theorem dX9_remove_41 : decode cX9_remove 41 = .ok (.iload_n 3, 1) := by decide +kernel
theorem dX9_remove_42 : decode cX9_remove 42 = .ok (.aload_n 0, 1) := by decide +kernel
theorem dX9_remove_43 : decode cX9_remove 43 = .ok (.getfield 7, 3) := by decide +kernel
theorem dX9_remove_46 : decode cX9_remove 46 = .ok (.iload_n 1, 1) := by decide +kernel
theorem dX9_remove_47 : decode cX9_remove 47 = .ok (.iaload, 1) := by decide +kernel
theorem dX9_remove_48 : decode cX9_remove 48 = .ok (.iload_n 2, 1) := by decide +kernel
theorem dX9_remove_49 : decode cX9_remove 49 = .ok (.isub, 1) := by decide +kernel
theorem dX9_remove_50 : decode cX9_remove 50 = .ok (.if_icmp .gt 7, 3) := by decide +kernel
theorem dX9_remove_53 : decode cX9_remove 53 = .ok (.iconst 1, 1) := by decide +kernel
theorem dX9_remove_54 : decode cX9_remove 54 = .ok (.goto 4, 3) := by decide +kernel
theorem dX9_remove_57 : decode cX9_remove 57 = .ok (.iconst 0, 1) := by decide +kernel
theorem dX9_remove_58 : decode cX9_remove 58 = .ok (.invokevirtual 121, 3) := by decide +kernel
theorem dX9_remove_61 : decode cX9_remove 61 = .ok (.ifCond .ne 5, 3) := by decide +kernel
theorem dX9_remove_64 : decode cX9_remove 64 = .ok (.iconst 0, 1) := by decide +kernel
theorem dX9_remove_65 : decode cX9_remove 65 = .ok (.ireturn, 1) := by decide +kernel
theorem dX9_remove_66 : decode cX9_remove 66 = .ok (.aload_n 0, 1) := by decide +kernel
theorem dX9_remove_67 : decode cX9_remove 67 = .ok (.getfield 7, 3) := by decide +kernel
theorem dX9_remove_70 : decode cX9_remove 70 = .ok (.iload_n 1, 1) := by decide +kernel
theorem dX9_remove_71 : decode cX9_remove 71 = .ok (.dup2, 1) := by decide +kernel
theorem dX9_remove_72 : decode cX9_remove 72 = .ok (.iaload, 1) := by decide +kernel
theorem dX9_remove_73 : decode cX9_remove 73 = .ok (.iload_n 3, 1) := by decide +kernel
theorem dX9_remove_74 : decode cX9_remove 74 = .ok (.isub, 1) := by decide +kernel
theorem dX9_remove_75 : decode cX9_remove 75 = .ok (.iastore, 1) := by decide +kernel
theorem dX9_remove_76 : decode cX9_remove 76 = .ok (.iload_n 2, 1) := by decide +kernel
theorem dX9_remove_77 : decode cX9_remove 77 = .ok (.istore 5, 2) := by decide +kernel
theorem dX9_remove_79 : decode cX9_remove 79 = .ok (.iload 5, 2) := by decide +kernel
theorem dX9_remove_81 : decode cX9_remove 81 = .ok (.aload_n 0, 1) := by decide +kernel
theorem dX9_remove_82 : decode cX9_remove 82 = .ok (.getfield 7, 3) := by decide +kernel
theorem dX9_remove_85 : decode cX9_remove 85 = .ok (.iload_n 1, 1) := by decide +kernel
theorem dX9_remove_86 : decode cX9_remove 86 = .ok (.iaload, 1) := by decide +kernel
theorem dX9_remove_87 : decode cX9_remove 87 = .ok (.if_icmp .ge 35, 3) := by decide +kernel
theorem dX9_remove_90 : decode cX9_remove 90 = .ok (.aload_n 0, 1) := by decide +kernel
theorem dX9_remove_91 : decode cX9_remove 91 = .ok (.getfield 13, 3) := by decide +kernel
theorem dX9_remove_94 : decode cX9_remove 94 = .ok (.bipush 120, 2) := by decide +kernel
theorem dX9_remove_96 : decode cX9_remove 96 = .ok (.iload_n 1, 1) := by decide +kernel
theorem dX9_remove_97 : decode cX9_remove 97 = .ok (.imul, 1) := by decide +kernel
theorem dX9_remove_98 : decode cX9_remove 98 = .ok (.iload 5, 2) := by decide +kernel
theorem dX9_remove_100 : decode cX9_remove 100 = .ok (.iadd, 1) := by decide +kernel
theorem dX9_remove_101 : decode cX9_remove 101 = .ok (.aload_n 0, 1) := by decide +kernel
theorem dX9_remove_102 : decode cX9_remove 102 = .ok (.getfield 13, 3) := by decide +kernel
theorem dX9_remove_105 : decode cX9_remove 105 = .ok (.bipush 120, 2) := by decide +kernel
theorem dX9_remove_107 : decode cX9_remove 107 = .ok (.iload_n 1, 1) := by decide +kernel
theorem dX9_remove_108 : decode cX9_remove 108 = .ok (.imul, 1) := by decide +kernel
theorem dX9_remove_109 : decode cX9_remove 109 = .ok (.iload 5, 2) := by decide +kernel
theorem dX9_remove_111 : decode cX9_remove 111 = .ok (.iadd, 1) := by decide +kernel
theorem dX9_remove_112 : decode cX9_remove 112 = .ok (.iload_n 3, 1) := by decide +kernel
theorem dX9_remove_113 : decode cX9_remove 113 = .ok (.iadd, 1) := by decide +kernel
theorem dX9_remove_114 : decode cX9_remove 114 = .ok (.iaload, 1) := by decide +kernel
theorem dX9_remove_115 : decode cX9_remove 115 = .ok (.iastore, 1) := by decide +kernel
theorem dX9_remove_116 : decode cX9_remove 116 = .ok (.iinc 5 1, 3) := by decide +kernel
theorem dX9_remove_119 : decode cX9_remove 119 = .ok (.goto (-40), 3) := by decide +kernel
theorem dX9_remove_122 : decode cX9_remove 122 = .ok (.aload_n 0, 1) := by decide +kernel
theorem dX9_remove_123 : decode cX9_remove 123 = .ok (.getfield 7, 3) := by decide +kernel
theorem dX9_remove_126 : decode cX9_remove 126 = .ok (.iload_n 1, 1) := by decide +kernel
theorem dX9_remove_127 : decode cX9_remove 127 = .ok (.iaload, 1) := by decide +kernel
theorem dX9_remove_128 : decode cX9_remove 128 = .ok (.ireturn, 1) := by decide +kernel
theorem dX9_copy_0 : decode cX9_copy 0 = .ok (.aload_n 0, 1) := by decide +kernel
theorem dX9_copy_1 : decode cX9_copy 1 = .ok (.aload_n 0, 1) := by decide +kernel
theorem dX9_copy_2 : decode cX9_copy 2 = .ok (.iload_n 1, 1) := by decide +kernel
theorem dX9_copy_3 : decode cX9_copy 3 = .ok (.invokevirtual 114, 3) := by decide +kernel
theorem dX9_copy_6 : decode cX9_copy 6 = .ok (.ifCond .eq 15, 3) := by decide +kernel
theorem dX9_copy_9 : decode cX9_copy 9 = .ok (.aload_n 0, 1) := by decide +kernel
theorem dX9_copy_10 : decode cX9_copy 10 = .ok (.iload_n 2, 1) := by decide +kernel
theorem dX9_copy_11 : decode cX9_copy 11 = .ok (.invokevirtual 114, 3) := by decide +kernel
theorem dX9_copy_14 : decode cX9_copy 14 = .ok (.ifCond .eq 7, 3) := by decide +kernel
theorem dX9_copy_17 : decode cX9_copy 17 = .ok (.iconst 1, 1) := by decide +kernel
theorem dX9_copy_18 : decode cX9_copy 18 = .ok (.goto 4, 3) := by decide +kernel
theorem dX9_copy_21 : decode cX9_copy 21 = .ok (.iconst 0, 1) := by decide +kernel
theorem dX9_copy_22 : decode cX9_copy 22 = .ok (.invokevirtual 106, 3) := by decide +kernel
theorem dX9_copy_25 : decode cX9_copy 25 = .ok (.ifCond .eq 55, 3) := by decide +kernel
theorem dX9_copy_28 : decode cX9_copy 28 = .ok (.aload_n 0, 1) := by decide +kernel
theorem dX9_copy_29 : decode cX9_copy 29 = .ok (.getfield 7, 3) := by decide +kernel
theorem dX9_copy_32 : decode cX9_copy 32 = .ok (.iload_n 2, 1) := by decide +kernel
theorem dX9_copy_33 : decode cX9_copy 33 = .ok (.aload_n 0, 1) := by decide +kernel
theorem dX9_copy_34 : decode cX9_copy 34 = .ok (.getfield 7, 3) := by decide +kernel
theorem dX9_copy_37 : decode cX9_copy 37 = .ok (.iload_n 1, 1) := by decide +kernel
theorem dX9_copy_38 : decode cX9_copy 38 = .ok (.iaload, 1) := by decide +kernel
theorem dX9_copy_39 : decode cX9_copy 39 = .ok (.iastore, 1) := by decide +kernel
theorem dX9_copy_40 : decode cX9_copy 40 = .ok (.iconst 0, 1) := by decide +kernel
theorem dX9_copy_41 : decode cX9_copy 41 = .ok (.istore_n 3, 1) := by decide +kernel
theorem dX9_copy_42 : decode cX9_copy 42 = .ok (.iload_n 3, 1) := by decide +kernel
theorem dX9_copy_43 : decode cX9_copy 43 = .ok (.aload_n 0, 1) := by decide +kernel
theorem dX9_copy_44 : decode cX9_copy 44 = .ok (.getfield 7, 3) := by decide +kernel
theorem dX9_copy_47 : decode cX9_copy 47 = .ok (.iload_n 1, 1) := by decide +kernel
theorem dX9_copy_48 : decode cX9_copy 48 = .ok (.iaload, 1) := by decide +kernel
theorem dX9_copy_49 : decode cX9_copy 49 = .ok (.if_icmp .ge 31, 3) := by decide +kernel
theorem dX9_copy_52 : decode cX9_copy 52 = .ok (.aload_n 0, 1) := by decide +kernel
theorem dX9_copy_53 : decode cX9_copy 53 = .ok (.getfield 13, 3) := by decide +kernel
theorem dX9_copy_56 : decode cX9_copy 56 = .ok (.bipush 120, 2) := by decide +kernel
theorem dX9_copy_58 : decode cX9_copy 58 = .ok (.iload_n 2, 1) := by decide +kernel
theorem dX9_copy_59 : decode cX9_copy 59 = .ok (.imul, 1) := by decide +kernel
theorem dX9_copy_60 : decode cX9_copy 60 = .ok (.iload_n 3, 1) := by decide +kernel
theorem dX9_copy_61 : decode cX9_copy 61 = .ok (.iadd, 1) := by decide +kernel
theorem dX9_copy_62 : decode cX9_copy 62 = .ok (.aload_n 0, 1) := by decide +kernel
theorem dX9_copy_63 : decode cX9_copy 63 = .ok (.getfield 13, 3) := by decide +kernel
theorem dX9_copy_66 : decode cX9_copy 66 = .ok (.bipush 120, 2) := by decide +kernel
theorem dX9_copy_68 : decode cX9_copy 68 = .ok (.iload_n 1, 1) := by decide +kernel
theorem dX9_copy_69 : decode cX9_copy 69 = .ok (.imul, 1) := by decide +kernel
theorem dX9_copy_70 : decode cX9_copy 70 = .ok (.iload_n 3, 1) := by decide +kernel
theorem dX9_copy_71 : decode cX9_copy 71 = .ok (.iadd, 1) := by decide +kernel
theorem dX9_copy_72 : decode cX9_copy 72 = .ok (.iaload, 1) := by decide +kernel
theorem dX9_copy_73 : decode cX9_copy 73 = .ok (.iastore, 1) := by decide +kernel
theorem dX9_copy_74 : decode cX9_copy 74 = .ok (.iinc 3 1, 3) := by decide +kernel
theorem dX9_copy_77 : decode cX9_copy 77 = .ok (.goto (-35), 3) := by decide +kernel
theorem dX9_copy_80 : decode cX9_copy 80 = .ok (.return_, 1) := by decide +kernel
theorem dX9_length_0 : decode cX9_length 0 = .ok (.aload_n 0, 1) := by decide +kernel
theorem dX9_length_1 : decode cX9_length 1 = .ok (.aload_n 0, 1) := by decide +kernel
theorem dX9_length_2 : decode cX9_length 2 = .ok (.iload_n 1, 1) := by decide +kernel
theorem dX9_length_3 : decode cX9_length 3 = .ok (.invokevirtual 114, 3) := by decide +kernel
theorem dX9_length_6 : decode cX9_length 6 = .ok (.invokevirtual 106, 3) := by decide +kernel
theorem dX9_length_9 : decode cX9_length 9 = .ok (.ifCond .eq 12, 3) := by decide +kernel
theorem dX9_length_12 : decode cX9_length 12 = .ok (.aload_n 0, 1) := by decide +kernel
theorem dX9_length_13 : decode cX9_length 13 = .ok (.getfield 7, 3) := by decide +kernel
theorem dX9_length_16 : decode cX9_length 16 = .ok (.iload_n 1, 1) := by decide +kernel
theorem dX9_length_17 : decode cX9_length 17 = .ok (.iaload, 1) := by decide +kernel
theorem dX9_length_18 : decode cX9_length 18 = .ok (.goto 4, 3) := by decide +kernel
theorem dX9_length_21 : decode cX9_length 21 = .ok (.iconst 0, 1) := by decide +kernel
theorem dX9_length_22 : decode cX9_length 22 = .ok (.ireturn, 1) := by decide +kernel
theorem dX9_byteAt_0 : decode cX9_byteAt 0 = .ok (.aload_n 0, 1) := by decide +kernel
theorem dX9_byteAt_1 : decode cX9_byteAt 1 = .ok (.aload_n 0, 1) := by decide +kernel
theorem dX9_byteAt_2 : decode cX9_byteAt 2 = .ok (.iload_n 1, 1) := by decide +kernel
theorem dX9_byteAt_3 : decode cX9_byteAt 3 = .ok (.invokevirtual 114, 3) := by decide +kernel
theorem dX9_byteAt_6 : decode cX9_byteAt 6 = .ok (.ifCond .eq 21, 3) := by decide +kernel
theorem dX9_byteAt_9 : decode cX9_byteAt 9 = .ok (.iload_n 2, 1) := by decide +kernel
theorem dX9_byteAt_10 : decode cX9_byteAt 10 = .ok (.ifCond .lt 17, 3) := by decide +kernel
theorem dX9_byteAt_13 : decode cX9_byteAt 13 = .ok (.iload_n 2, 1) := by decide +kernel
theorem dX9_byteAt_14 : decode cX9_byteAt 14 = .ok (.aload_n 0, 1) := by decide +kernel
theorem dX9_byteAt_15 : decode cX9_byteAt 15 = .ok (.getfield 7, 3) := by decide +kernel
theorem dX9_byteAt_18 : decode cX9_byteAt 18 = .ok (.iload_n 1, 1) := by decide +kernel
theorem dX9_byteAt_19 : decode cX9_byteAt 19 = .ok (.iaload, 1) := by decide +kernel
theorem dX9_byteAt_20 : decode cX9_byteAt 20 = .ok (.if_icmp .ge 7, 3) := by decide +kernel
theorem dX9_byteAt_23 : decode cX9_byteAt 23 = .ok (.iconst 1, 1) := by decide +kernel
theorem dX9_byteAt_24 : decode cX9_byteAt 24 = .ok (.goto 4, 3) := by decide +kernel
theorem dX9_byteAt_27 : decode cX9_byteAt 27 = .ok (.iconst 0, 1) := by decide +kernel
theorem dX9_byteAt_28 : decode cX9_byteAt 28 = .ok (.invokevirtual 106, 3) := by decide +kernel
theorem dX9_byteAt_31 : decode cX9_byteAt 31 = .ok (.ifCond .eq 17, 3) := by decide +kernel
theorem dX9_byteAt_34 : decode cX9_byteAt 34 = .ok (.aload_n 0, 1) := by decide +kernel
theorem dX9_byteAt_35 : decode cX9_byteAt 35 = .ok (.getfield 13, 3) := by decide +kernel
theorem dX9_byteAt_38 : decode cX9_byteAt 38 = .ok (.bipush 120, 2) := by decide +kernel
theorem dX9_byteAt_40 : decode cX9_byteAt 40 = .ok (.iload_n 1, 1) := by decide +kernel
theorem dX9_byteAt_41 : decode cX9_byteAt 41 = .ok (.imul, 1) := by decide +kernel
theorem dX9_byteAt_42 : decode cX9_byteAt 42 = .ok (.iload_n 2, 1) := by decide +kernel
theorem dX9_byteAt_43 : decode cX9_byteAt 43 = .ok (.iadd, 1) := by decide +kernel
theorem dX9_byteAt_44 : decode cX9_byteAt 44 = .ok (.iaload, 1) := by decide +kernel
theorem dX9_byteAt_45 : decode cX9_byteAt 45 = .ok (.goto 4, 3) := by decide +kernel
theorem dX9_byteAt_48 : decode cX9_byteAt 48 = .ok (.iconst 0, 1) := by decide +kernel
theorem dX9_byteAt_49 : decode cX9_byteAt 49 = .ok (.ireturn, 1) := by decide +kernel
theorem dX9_same_0 : decode cX9_same 0 = .ok (.aload_n 0, 1) := by decide +kernel
theorem dX9_same_1 : decode cX9_same 1 = .ok (.aload_n 0, 1) := by decide +kernel
theorem dX9_same_2 : decode cX9_same 2 = .ok (.iload_n 1, 1) := by decide +kernel
theorem dX9_same_3 : decode cX9_same 3 = .ok (.invokevirtual 114, 3) := by decide +kernel
theorem dX9_same_6 : decode cX9_same 6 = .ok (.ifCond .eq 15, 3) := by decide +kernel
theorem dX9_same_9 : decode cX9_same 9 = .ok (.aload_n 0, 1) := by decide +kernel
theorem dX9_same_10 : decode cX9_same 10 = .ok (.iload_n 2, 1) := by decide +kernel
theorem dX9_same_11 : decode cX9_same 11 = .ok (.invokevirtual 114, 3) := by decide +kernel
theorem dX9_same_14 : decode cX9_same 14 = .ok (.ifCond .eq 7, 3) := by decide +kernel
theorem dX9_same_17 : decode cX9_same 17 = .ok (.iconst 1, 1) := by decide +kernel
theorem dX9_same_18 : decode cX9_same 18 = .ok (.goto 4, 3) := by decide +kernel
theorem dX9_same_21 : decode cX9_same 21 = .ok (.iconst 0, 1) := by decide +kernel
theorem dX9_same_22 : decode cX9_same 22 = .ok (.invokevirtual 106, 3) := by decide +kernel
theorem dX9_same_25 : decode cX9_same 25 = .ok (.ifCond .eq 18, 3) := by decide +kernel
theorem dX9_same_28 : decode cX9_same 28 = .ok (.aload_n 0, 1) := by decide +kernel
theorem dX9_same_29 : decode cX9_same 29 = .ok (.getfield 7, 3) := by decide +kernel
theorem dX9_same_32 : decode cX9_same 32 = .ok (.iload_n 1, 1) := by decide +kernel
theorem dX9_same_33 : decode cX9_same 33 = .ok (.iaload, 1) := by decide +kernel
theorem dX9_same_34 : decode cX9_same 34 = .ok (.aload_n 0, 1) := by decide +kernel
theorem dX9_same_35 : decode cX9_same 35 = .ok (.getfield 7, 3) := by decide +kernel
theorem dX9_same_38 : decode cX9_same 38 = .ok (.iload_n 2, 1) := by decide +kernel
theorem dX9_same_39 : decode cX9_same 39 = .ok (.iaload, 1) := by decide +kernel
theorem dX9_same_40 : decode cX9_same 40 = .ok (.if_icmp .eq 5, 3) := by decide +kernel
theorem dX9_same_43 : decode cX9_same 43 = .ok (.iconst 0, 1) := by decide +kernel
theorem dX9_same_44 : decode cX9_same 44 = .ok (.ireturn, 1) := by decide +kernel
theorem dX9_same_45 : decode cX9_same 45 = .ok (.iconst 0, 1) := by decide +kernel
theorem dX9_same_46 : decode cX9_same 46 = .ok (.istore_n 3, 1) := by decide +kernel
theorem dX9_same_47 : decode cX9_same 47 = .ok (.iload_n 3, 1) := by decide +kernel
theorem dX9_same_48 : decode cX9_same 48 = .ok (.aload_n 0, 1) := by decide +kernel
theorem dX9_same_49 : decode cX9_same 49 = .ok (.getfield 7, 3) := by decide +kernel
theorem dX9_same_52 : decode cX9_same 52 = .ok (.iload_n 1, 1) := by decide +kernel
theorem dX9_same_53 : decode cX9_same 53 = .ok (.iaload, 1) := by decide +kernel
theorem dX9_same_54 : decode cX9_same 54 = .ok (.if_icmp .ge 36, 3) := by decide +kernel
theorem dX9_same_57 : decode cX9_same 57 = .ok (.aload_n 0, 1) := by decide +kernel
theorem dX9_same_58 : decode cX9_same 58 = .ok (.getfield 13, 3) := by decide +kernel
theorem dX9_same_61 : decode cX9_same 61 = .ok (.bipush 120, 2) := by decide +kernel
theorem dX9_same_63 : decode cX9_same 63 = .ok (.iload_n 1, 1) := by decide +kernel
theorem dX9_same_64 : decode cX9_same 64 = .ok (.imul, 1) := by decide +kernel
theorem dX9_same_65 : decode cX9_same 65 = .ok (.iload_n 3, 1) := by decide +kernel
theorem dX9_same_66 : decode cX9_same 66 = .ok (.iadd, 1) := by decide +kernel
theorem dX9_same_67 : decode cX9_same 67 = .ok (.iaload, 1) := by decide +kernel
theorem dX9_same_68 : decode cX9_same 68 = .ok (.aload_n 0, 1) := by decide +kernel
theorem dX9_same_69 : decode cX9_same 69 = .ok (.getfield 13, 3) := by decide +kernel
theorem dX9_same_72 : decode cX9_same 72 = .ok (.bipush 120, 2) := by decide +kernel
theorem dX9_same_74 : decode cX9_same 74 = .ok (.iload_n 2, 1) := by decide +kernel
theorem dX9_same_75 : decode cX9_same 75 = .ok (.imul, 1) := by decide +kernel
theorem dX9_same_76 : decode cX9_same 76 = .ok (.iload_n 3, 1) := by decide +kernel
theorem dX9_same_77 : decode cX9_same 77 = .ok (.iadd, 1) := by decide +kernel
theorem dX9_same_78 : decode cX9_same 78 = .ok (.iaload, 1) := by decide +kernel
theorem dX9_same_79 : decode cX9_same 79 = .ok (.if_icmp .eq 5, 3) := by decide +kernel
theorem dX9_same_82 : decode cX9_same 82 = .ok (.iconst 0, 1) := by decide +kernel
theorem dX9_same_83 : decode cX9_same 83 = .ok (.ireturn, 1) := by decide +kernel
theorem dX9_same_84 : decode cX9_same 84 = .ok (.iinc 3 1, 3) := by decide +kernel
theorem dX9_same_87 : decode cX9_same 87 = .ok (.goto (-40), 3) := by decide +kernel
theorem dX9_same_90 : decode cX9_same 90 = .ok (.iconst 1, 1) := by decide +kernel
theorem dX9_same_91 : decode cX9_same 91 = .ok (.ireturn, 1) := by decide +kernel
theorem dX9_bring_0 : decode cX9_bring 0 = .ok (.aload_n 0, 1) := by decide +kernel
theorem dX9_bring_1 : decode cX9_bring 1 = .ok (.aload_n 0, 1) := by decide +kernel
theorem dX9_bring_2 : decode cX9_bring 2 = .ok (.getfield 7, 3) := by decide +kernel
theorem dX9_bring_5 : decode cX9_bring 5 = .ok (.iload_n 1, 1) := by decide +kernel
theorem dX9_bring_6 : decode cX9_bring 6 = .ok (.iaload, 1) := by decide +kernel
theorem dX9_bring_7 : decode cX9_bring 7 = .ok (.putfield 125, 3) := by decide +kernel
theorem dX9_bring_10 : decode cX9_bring 10 = .ok (.iconst 0, 1) := by decide +kernel
theorem dX9_bring_11 : decode cX9_bring 11 = .ok (.istore_n 2, 1) := by decide +kernel
theorem dX9_bring_12 : decode cX9_bring 12 = .ok (.iload_n 2, 1) := by decide +kernel
theorem dX9_bring_13 : decode cX9_bring 13 = .ok (.aload_n 0, 1) := by decide +kernel
theorem dX9_bring_14 : decode cX9_bring 14 = .ok (.getfield 125, 3) := by decide +kernel
theorem dX9_bring_17 : decode cX9_bring 17 = .ok (.if_icmp .ge 26, 3) := by decide +kernel
theorem dX9_bring_20 : decode cX9_bring 20 = .ok (.aload_n 0, 1) := by decide +kernel
theorem dX9_bring_21 : decode cX9_bring 21 = .ok (.getfield 72, 3) := by decide +kernel
theorem dX9_bring_24 : decode cX9_bring 24 = .ok (.iload_n 2, 1) := by decide +kernel
theorem dX9_bring_25 : decode cX9_bring 25 = .ok (.aload_n 0, 1) := by decide +kernel
theorem dX9_bring_26 : decode cX9_bring 26 = .ok (.getfield 13, 3) := by decide +kernel
theorem dX9_bring_29 : decode cX9_bring 29 = .ok (.bipush 120, 2) := by decide +kernel
theorem dX9_bring_31 : decode cX9_bring 31 = .ok (.iload_n 1, 1) := by decide +kernel
theorem dX9_bring_32 : decode cX9_bring 32 = .ok (.imul, 1) := by decide +kernel
theorem dX9_bring_33 : decode cX9_bring 33 = .ok (.iload_n 2, 1) := by decide +kernel
theorem dX9_bring_34 : decode cX9_bring 34 = .ok (.iadd, 1) := by decide +kernel
theorem dX9_bring_35 : decode cX9_bring 35 = .ok (.iaload, 1) := by decide +kernel
theorem dX9_bring_36 : decode cX9_bring 36 = .ok (.iastore, 1) := by decide +kernel
theorem dX9_bring_37 : decode cX9_bring 37 = .ok (.iinc 2 1, 3) := by decide +kernel
theorem dX9_bring_40 : decode cX9_bring 40 = .ok (.goto (-28), 3) := by decide +kernel
theorem dX9_bring_43 : decode cX9_bring 43 = .ok (.return_, 1) := by decide +kernel
theorem dX9_give_0 : decode cX9_give 0 = .ok (.aload_n 0, 1) := by decide +kernel
theorem dX9_give_1 : decode cX9_give 1 = .ok (.getfield 7, 3) := by decide +kernel
theorem dX9_give_4 : decode cX9_give 4 = .ok (.iload_n 1, 1) := by decide +kernel
theorem dX9_give_5 : decode cX9_give 5 = .ok (.aload_n 0, 1) := by decide +kernel
theorem dX9_give_6 : decode cX9_give 6 = .ok (.getfield 125, 3) := by decide +kernel
theorem dX9_give_9 : decode cX9_give 9 = .ok (.iastore, 1) := by decide +kernel
theorem dX9_give_10 : decode cX9_give 10 = .ok (.iconst 0, 1) := by decide +kernel
theorem dX9_give_11 : decode cX9_give 11 = .ok (.istore_n 2, 1) := by decide +kernel
theorem dX9_give_12 : decode cX9_give 12 = .ok (.iload_n 2, 1) := by decide +kernel
theorem dX9_give_13 : decode cX9_give 13 = .ok (.aload_n 0, 1) := by decide +kernel
theorem dX9_give_14 : decode cX9_give 14 = .ok (.getfield 125, 3) := by decide +kernel
theorem dX9_give_17 : decode cX9_give 17 = .ok (.if_icmp .ge 26, 3) := by decide +kernel
theorem dX9_give_20 : decode cX9_give 20 = .ok (.aload_n 0, 1) := by decide +kernel
theorem dX9_give_21 : decode cX9_give 21 = .ok (.getfield 13, 3) := by decide +kernel
theorem dX9_give_24 : decode cX9_give 24 = .ok (.bipush 120, 2) := by decide +kernel
theorem dX9_give_26 : decode cX9_give 26 = .ok (.iload_n 1, 1) := by decide +kernel
theorem dX9_give_27 : decode cX9_give 27 = .ok (.imul, 1) := by decide +kernel
theorem dX9_give_28 : decode cX9_give 28 = .ok (.iload_n 2, 1) := by decide +kernel
theorem dX9_give_29 : decode cX9_give 29 = .ok (.iadd, 1) := by decide +kernel
theorem dX9_give_30 : decode cX9_give 30 = .ok (.aload_n 0, 1) := by decide +kernel
theorem dX9_give_31 : decode cX9_give 31 = .ok (.getfield 72, 3) := by decide +kernel
theorem dX9_give_34 : decode cX9_give 34 = .ok (.iload_n 2, 1) := by decide +kernel
theorem dX9_give_35 : decode cX9_give 35 = .ok (.iaload, 1) := by decide +kernel
theorem dX9_give_36 : decode cX9_give 36 = .ok (.iastore, 1) := by decide +kernel
theorem dX9_give_37 : decode cX9_give 37 = .ok (.iinc 2 1, 3) := by decide +kernel
theorem dX9_give_40 : decode cX9_give 40 = .ok (.goto (-28), 3) := by decide +kernel
theorem dX9_give_43 : decode cX9_give 43 = .ok (.aload_n 0, 1) := by decide +kernel
theorem dX9_give_44 : decode cX9_give 44 = .ok (.getfield 125, 3) := by decide +kernel
theorem dX9_give_47 : decode cX9_give 47 = .ok (.ireturn, 1) := by decide +kernel
theorem dX9_weakOf_0 : decode cX9_weakOf 0 = .ok (.iconst 0, 1) := by decide +kernel
theorem dX9_weakOf_1 : decode cX9_weakOf 1 = .ok (.istore 4, 2) := by decide +kernel
theorem dX9_weakOf_3 : decode cX9_weakOf 3 = .ok (.iconst 0, 1) := by decide +kernel
theorem dX9_weakOf_4 : decode cX9_weakOf 4 = .ok (.istore 5, 2) := by decide +kernel
theorem dX9_weakOf_6 : decode cX9_weakOf 6 = .ok (.iconst 0, 1) := by decide +kernel
theorem dX9_weakOf_7 : decode cX9_weakOf 7 = .ok (.istore 6, 2) := by decide +kernel
theorem dX9_weakOf_9 : decode cX9_weakOf 9 = .ok (.iload 6, 2) := by decide +kernel
theorem dX9_weakOf_11 : decode cX9_weakOf 11 = .ok (.iload_n 2, 1) := by decide +kernel
theorem dX9_weakOf_12 : decode cX9_weakOf 12 = .ok (.if_icmp .ge 36, 3) := by decide +kernel
theorem dX9_weakOf_15 : decode cX9_weakOf 15 = .ok (.iload 4, 2) := by decide +kernel
theorem dX9_weakOf_17 : decode cX9_weakOf 17 = .ok (.aload_n 0, 1) := by decide +kernel
theorem dX9_weakOf_18 : decode cX9_weakOf 18 = .ok (.iload_n 1, 1) := by decide +kernel
theorem dX9_weakOf_19 : decode cX9_weakOf 19 = .ok (.iload 6, 2) := by decide +kernel
theorem dX9_weakOf_21 : decode cX9_weakOf 21 = .ok (.iadd, 1) := by decide +kernel
theorem dX9_weakOf_22 : decode cX9_weakOf 22 = .ok (.iaload, 1) := by decide +kernel
theorem dX9_weakOf_23 : decode cX9_weakOf 23 = .ok (.iadd, 1) := by decide +kernel
theorem dX9_weakOf_24 : decode cX9_weakOf 24 = .ok (.istore 4, 2) := by decide +kernel
theorem dX9_weakOf_26 : decode cX9_weakOf 26 = .ok (.iload 5, 2) := by decide +kernel
theorem dX9_weakOf_28 : decode cX9_weakOf 28 = .ok (.iload_n 2, 1) := by decide +kernel
theorem dX9_weakOf_29 : decode cX9_weakOf 29 = .ok (.iload 6, 2) := by decide +kernel
theorem dX9_weakOf_31 : decode cX9_weakOf 31 = .ok (.isub, 1) := by decide +kernel
theorem dX9_weakOf_32 : decode cX9_weakOf 32 = .ok (.aload_n 0, 1) := by decide +kernel
theorem dX9_weakOf_33 : decode cX9_weakOf 33 = .ok (.iload_n 1, 1) := by decide +kernel
theorem dX9_weakOf_34 : decode cX9_weakOf 34 = .ok (.iload 6, 2) := by decide +kernel
theorem dX9_weakOf_36 : decode cX9_weakOf 36 = .ok (.iadd, 1) := by decide +kernel
theorem dX9_weakOf_37 : decode cX9_weakOf 37 = .ok (.iaload, 1) := by decide +kernel
theorem dX9_weakOf_38 : decode cX9_weakOf 38 = .ok (.imul, 1) := by decide +kernel
theorem dX9_weakOf_39 : decode cX9_weakOf 39 = .ok (.iadd, 1) := by decide +kernel
theorem dX9_weakOf_40 : decode cX9_weakOf 40 = .ok (.istore 5, 2) := by decide +kernel
theorem dX9_weakOf_42 : decode cX9_weakOf 42 = .ok (.iinc 6 1, 3) := by decide +kernel
theorem dX9_weakOf_45 : decode cX9_weakOf 45 = .ok (.goto (-36), 3) := by decide +kernel
theorem dX9_weakOf_48 : decode cX9_weakOf 48 = .ok (.iload 5, 2) := by decide +kernel
theorem dX9_weakOf_50 : decode cX9_weakOf 50 = .ok (.iload_n 3, 1) := by decide +kernel
theorem dX9_weakOf_51 : decode cX9_weakOf 51 = .ok (.irem, 1) := by decide +kernel
theorem dX9_weakOf_52 : decode cX9_weakOf 52 = .ok (.iload_n 3, 1) := by decide +kernel
theorem dX9_weakOf_53 : decode cX9_weakOf 53 = .ok (.imul, 1) := by decide +kernel
theorem dX9_weakOf_54 : decode cX9_weakOf 54 = .ok (.iload 4, 2) := by decide +kernel
theorem dX9_weakOf_56 : decode cX9_weakOf 56 = .ok (.iload_n 3, 1) := by decide +kernel
theorem dX9_weakOf_57 : decode cX9_weakOf 57 = .ok (.irem, 1) := by decide +kernel
theorem dX9_weakOf_58 : decode cX9_weakOf 58 = .ok (.iadd, 1) := by decide +kernel
theorem dX9_weakOf_59 : decode cX9_weakOf 59 = .ok (.ireturn, 1) := by decide +kernel
theorem dX9_strongOf_0 : decode cX9_strongOf 0 = .ok (.lconst 0, 1) := by decide +kernel
theorem dX9_strongOf_1 : decode cX9_strongOf 1 = .ok (.lstore_n 3, 1) := by decide +kernel
theorem dX9_strongOf_2 : decode cX9_strongOf 2 = .ok (.iload_n 2, 1) := by decide +kernel
theorem dX9_strongOf_3 : decode cX9_strongOf 3 = .ok (.iconst 1, 1) := by decide +kernel
theorem dX9_strongOf_4 : decode cX9_strongOf 4 = .ok (.isub, 1) := by decide +kernel
theorem dX9_strongOf_5 : decode cX9_strongOf 5 = .ok (.istore 5, 2) := by decide +kernel
theorem dX9_strongOf_7 : decode cX9_strongOf 7 = .ok (.iload 5, 2) := by decide +kernel
theorem dX9_strongOf_9 : decode cX9_strongOf 9 = .ok (.ifCond .lt 25, 3) := by decide +kernel
theorem dX9_strongOf_12 : decode cX9_strongOf 12 = .ok (.ldc2_w 128, 3) := by decide +kernel
theorem dX9_strongOf_15 : decode cX9_strongOf 15 = .ok (.lload_n 3, 1) := by decide +kernel
theorem dX9_strongOf_16 : decode cX9_strongOf 16 = .ok (.lmul, 1) := by decide +kernel
theorem dX9_strongOf_17 : decode cX9_strongOf 17 = .ok (.aload_n 0, 1) := by decide +kernel
theorem dX9_strongOf_18 : decode cX9_strongOf 18 = .ok (.iload_n 1, 1) := by decide +kernel
theorem dX9_strongOf_19 : decode cX9_strongOf 19 = .ok (.iload 5, 2) := by decide +kernel
theorem dX9_strongOf_21 : decode cX9_strongOf 21 = .ok (.iadd, 1) := by decide +kernel
theorem dX9_strongOf_22 : decode cX9_strongOf 22 = .ok (.iaload, 1) := by decide +kernel
theorem dX9_strongOf_23 : decode cX9_strongOf 23 = .ok (.i2l, 1) := by decide +kernel
theorem dX9_strongOf_24 : decode cX9_strongOf 24 = .ok (.ladd, 1) := by decide +kernel
theorem dX9_strongOf_25 : decode cX9_strongOf 25 = .ok (.lconst 1, 1) := by decide +kernel
theorem dX9_strongOf_26 : decode cX9_strongOf 26 = .ok (.ladd, 1) := by decide +kernel
theorem dX9_strongOf_27 : decode cX9_strongOf 27 = .ok (.lstore_n 3, 1) := by decide +kernel
theorem dX9_strongOf_28 : decode cX9_strongOf 28 = .ok (.iinc 5 (-1), 3) := by decide +kernel
theorem dX9_strongOf_31 : decode cX9_strongOf 31 = .ok (.goto (-24), 3) := by decide +kernel
theorem dX9_strongOf_34 : decode cX9_strongOf 34 = .ok (.lload_n 3, 1) := by decide +kernel
theorem dX9_strongOf_35 : decode cX9_strongOf 35 = .ok (.lreturn, 1) := by decide +kernel
theorem dX9_signs_0 : decode cX9_signs 0 = .ok (.aload_n 0, 1) := by decide +kernel
theorem dX9_signs_1 : decode cX9_signs 1 = .ok (.getfield 16, 3) := by decide +kernel
theorem dX9_signs_4 : decode cX9_signs 4 = .ok (.iload_n 1, 1) := by decide +kernel
theorem dX9_signs_5 : decode cX9_signs 5 = .ok (.iload_n 2, 1) := by decide +kernel
theorem dX9_signs_6 : decode cX9_signs 6 = .ok (.iastore, 1) := by decide +kernel
theorem dX9_signs_7 : decode cX9_signs 7 = .ok (.aload_n 0, 1) := by decide +kernel
theorem dX9_signs_8 : decode cX9_signs 8 = .ok (.getfield 19, 3) := by decide +kernel
theorem dX9_signs_11 : decode cX9_signs 11 = .ok (.iload_n 1, 1) := by decide +kernel
theorem dX9_signs_12 : decode cX9_signs 12 = .ok (.iload_n 3, 1) := by decide +kernel
theorem dX9_signs_13 : decode cX9_signs 13 = .ok (.iastore, 1) := by decide +kernel
theorem dX9_signs_14 : decode cX9_signs 14 = .ok (.aload_n 0, 1) := by decide +kernel
theorem dX9_signs_15 : decode cX9_signs 15 = .ok (.getfield 22, 3) := by decide +kernel
theorem dX9_signs_18 : decode cX9_signs 18 = .ok (.iload_n 1, 1) := by decide +kernel
theorem dX9_signs_19 : decode cX9_signs 19 = .ok (.aload_n 0, 1) := by decide +kernel
theorem dX9_signs_20 : decode cX9_signs 20 = .ok (.getfield 125, 3) := by decide +kernel
theorem dX9_signs_23 : decode cX9_signs 23 = .ok (.iastore, 1) := by decide +kernel
theorem dX9_signs_24 : decode cX9_signs 24 = .ok (.aload_n 0, 1) := by decide +kernel
theorem dX9_signs_25 : decode cX9_signs 25 = .ok (.getfield 25, 3) := by decide +kernel
theorem dX9_signs_28 : decode cX9_signs 28 = .ok (.iload_n 1, 1) := by decide +kernel
theorem dX9_signs_29 : decode cX9_signs 29 = .ok (.aload_n 0, 1) := by decide +kernel
theorem dX9_signs_30 : decode cX9_signs 30 = .ok (.getfield 125, 3) := by decide +kernel
theorem dX9_signs_33 : decode cX9_signs 33 = .ok (.iload_n 2, 1) := by decide +kernel
theorem dX9_signs_34 : decode cX9_signs 34 = .ok (.iadd, 1) := by decide +kernel
theorem dX9_signs_35 : decode cX9_signs 35 = .ok (.iconst 1, 1) := by decide +kernel
theorem dX9_signs_36 : decode cX9_signs 36 = .ok (.isub, 1) := by decide +kernel
theorem dX9_signs_37 : decode cX9_signs 37 = .ok (.iload_n 2, 1) := by decide +kernel
theorem dX9_signs_38 : decode cX9_signs 38 = .ok (.idiv, 1) := by decide +kernel
theorem dX9_signs_39 : decode cX9_signs 39 = .ok (.iastore, 1) := by decide +kernel
theorem dX9_signs_40 : decode cX9_signs 40 = .ok (.iconst 0, 1) := by decide +kernel
theorem dX9_signs_41 : decode cX9_signs 41 = .ok (.istore 4, 2) := by decide +kernel
theorem dX9_signs_43 : decode cX9_signs 43 = .ok (.iload 4, 2) := by decide +kernel
theorem dX9_signs_45 : decode cX9_signs 45 = .ok (.aload_n 0, 1) := by decide +kernel
theorem dX9_signs_46 : decode cX9_signs 46 = .ok (.getfield 25, 3) := by decide +kernel
theorem dX9_signs_49 : decode cX9_signs 49 = .ok (.iload_n 1, 1) := by decide +kernel
theorem dX9_signs_50 : decode cX9_signs 50 = .ok (.iaload, 1) := by decide +kernel
theorem dX9_signs_51 : decode cX9_signs 51 = .ok (.if_icmp .ge 70, 3) := by decide +kernel
theorem dX9_signs_54 : decode cX9_signs 54 = .ok (.aload_n 0, 1) := by decide +kernel
theorem dX9_signs_55 : decode cX9_signs 55 = .ok (.getfield 28, 3) := by decide +kernel
theorem dX9_signs_58 : decode cX9_signs 58 = .ok (.bipush 120, 2) := by decide +kernel
theorem dX9_signs_60 : decode cX9_signs 60 = .ok (.iload_n 1, 1) := by decide +kernel
theorem dX9_signs_61 : decode cX9_signs 61 = .ok (.imul, 1) := by decide +kernel
theorem dX9_signs_62 : decode cX9_signs 62 = .ok (.iload 4, 2) := by decide +kernel
theorem dX9_signs_64 : decode cX9_signs 64 = .ok (.iadd, 1) := by decide +kernel
theorem dX9_signs_65 : decode cX9_signs 65 = .ok (.aload_n 0, 1) := by decide +kernel
theorem dX9_signs_66 : decode cX9_signs 66 = .ok (.getfield 72, 3) := by decide +kernel
theorem dX9_signs_69 : decode cX9_signs 69 = .ok (.iload 4, 2) := by decide +kernel
theorem dX9_signs_71 : decode cX9_signs 71 = .ok (.iload_n 2, 1) := by decide +kernel
theorem dX9_signs_72 : decode cX9_signs 72 = .ok (.imul, 1) := by decide +kernel
theorem dX9_signs_73 : decode cX9_signs 73 = .ok (.aload_n 0, 1) := by decide +kernel
theorem dX9_signs_74 : decode cX9_signs 74 = .ok (.iload_n 1, 1) := by decide +kernel
theorem dX9_signs_75 : decode cX9_signs 75 = .ok (.iload 4, 2) := by decide +kernel
theorem dX9_signs_77 : decode cX9_signs 77 = .ok (.invokevirtual 130, 3) := by decide +kernel
theorem dX9_signs_80 : decode cX9_signs 80 = .ok (.iload_n 3, 1) := by decide +kernel
theorem dX9_signs_81 : decode cX9_signs 81 = .ok (.invokestatic 134, 3) := by decide +kernel
theorem dX9_signs_84 : decode cX9_signs 84 = .ok (.iastore, 1) := by decide +kernel
theorem dX9_signs_85 : decode cX9_signs 85 = .ok (.aload_n 0, 1) := by decide +kernel
theorem dX9_signs_86 : decode cX9_signs 86 = .ok (.getfield 31, 3) := by decide +kernel
theorem dX9_signs_89 : decode cX9_signs 89 = .ok (.bipush 120, 2) := by decide +kernel
theorem dX9_signs_91 : decode cX9_signs 91 = .ok (.iload_n 1, 1) := by decide +kernel
theorem dX9_signs_92 : decode cX9_signs 92 = .ok (.imul, 1) := by decide +kernel
theorem dX9_signs_93 : decode cX9_signs 93 = .ok (.iload 4, 2) := by decide +kernel
theorem dX9_signs_95 : decode cX9_signs 95 = .ok (.iadd, 1) := by decide +kernel
theorem dX9_signs_96 : decode cX9_signs 96 = .ok (.aload_n 0, 1) := by decide +kernel
theorem dX9_signs_97 : decode cX9_signs 97 = .ok (.getfield 72, 3) := by decide +kernel
theorem dX9_signs_100 : decode cX9_signs 100 = .ok (.iload 4, 2) := by decide +kernel
theorem dX9_signs_102 : decode cX9_signs 102 = .ok (.iload_n 2, 1) := by decide +kernel
theorem dX9_signs_103 : decode cX9_signs 103 = .ok (.imul, 1) := by decide +kernel
theorem dX9_signs_104 : decode cX9_signs 104 = .ok (.aload_n 0, 1) := by decide +kernel
theorem dX9_signs_105 : decode cX9_signs 105 = .ok (.iload_n 1, 1) := by decide +kernel
theorem dX9_signs_106 : decode cX9_signs 106 = .ok (.iload 4, 2) := by decide +kernel
theorem dX9_signs_108 : decode cX9_signs 108 = .ok (.invokevirtual 130, 3) := by decide +kernel
theorem dX9_signs_111 : decode cX9_signs 111 = .ok (.invokestatic 138, 3) := by decide +kernel
theorem dX9_signs_114 : decode cX9_signs 114 = .ok (.lastore, 1) := by decide +kernel
theorem dX9_signs_115 : decode cX9_signs 115 = .ok (.iinc 4 1, 3) := by decide +kernel
theorem dX9_signs_118 : decode cX9_signs 118 = .ok (.goto (-75), 3) := by decide +kernel
theorem dX9_signs_121 : decode cX9_signs 121 = .ok (.return_, 1) := by decide +kernel
theorem dX9_lengthOf_0 : decode cX9_lengthOf 0 = .ok (.aload_n 0, 1) := by decide +kernel
theorem dX9_lengthOf_1 : decode cX9_lengthOf 1 = .ok (.getfield 22, 3) := by decide +kernel
theorem dX9_lengthOf_4 : decode cX9_lengthOf 4 = .ok (.iload_n 1, 1) := by decide +kernel
theorem dX9_lengthOf_5 : decode cX9_lengthOf 5 = .ok (.iaload, 1) := by decide +kernel
theorem dX9_lengthOf_6 : decode cX9_lengthOf 6 = .ok (.iload_n 2, 1) := by decide +kernel
theorem dX9_lengthOf_7 : decode cX9_lengthOf 7 = .ok (.aload_n 0, 1) := by decide +kernel
theorem dX9_lengthOf_8 : decode cX9_lengthOf 8 = .ok (.getfield 16, 3) := by decide +kernel
theorem dX9_lengthOf_11 : decode cX9_lengthOf 11 = .ok (.iload_n 1, 1) := by decide +kernel
theorem dX9_lengthOf_12 : decode cX9_lengthOf 12 = .ok (.iaload, 1) := by decide +kernel
theorem dX9_lengthOf_13 : decode cX9_lengthOf 13 = .ok (.imul, 1) := by decide +kernel
theorem dX9_lengthOf_14 : decode cX9_lengthOf 14 = .ok (.isub, 1) := by decide +kernel
theorem dX9_lengthOf_15 : decode cX9_lengthOf 15 = .ok (.istore_n 3, 1) := by decide +kernel
theorem dX9_lengthOf_16 : decode cX9_lengthOf 16 = .ok (.iload_n 3, 1) := by decide +kernel
theorem dX9_lengthOf_17 : decode cX9_lengthOf 17 = .ok (.aload_n 0, 1) := by decide +kernel
theorem dX9_lengthOf_18 : decode cX9_lengthOf 18 = .ok (.getfield 16, 3) := by decide +kernel
theorem dX9_lengthOf_21 : decode cX9_lengthOf 21 = .ok (.iload_n 1, 1) := by decide +kernel
theorem dX9_lengthOf_22 : decode cX9_lengthOf 22 = .ok (.iaload, 1) := by decide +kernel
theorem dX9_lengthOf_23 : decode cX9_lengthOf 23 = .ok (.if_icmp .ge 7, 3) := by decide +kernel
theorem dX9_lengthOf_26 : decode cX9_lengthOf 26 = .ok (.iload_n 3, 1) := by decide +kernel
theorem dX9_lengthOf_27 : decode cX9_lengthOf 27 = .ok (.goto 9, 3) := by decide +kernel
theorem dX9_lengthOf_30 : decode cX9_lengthOf 30 = .ok (.aload_n 0, 1) := by decide +kernel
theorem dX9_lengthOf_31 : decode cX9_lengthOf 31 = .ok (.getfield 16, 3) := by decide +kernel
theorem dX9_lengthOf_34 : decode cX9_lengthOf 34 = .ok (.iload_n 1, 1) := by decide +kernel
theorem dX9_lengthOf_35 : decode cX9_lengthOf 35 = .ok (.iaload, 1) := by decide +kernel
theorem dX9_lengthOf_36 : decode cX9_lengthOf 36 = .ok (.ireturn, 1) := by decide +kernel
theorem dX9_sign_0 : decode cX9_sign 0 = .ok (.iload_n 3, 1) := by decide +kernel
theorem dX9_sign_1 : decode cX9_sign 1 = .ok (.iconst 1, 1) := by decide +kernel
theorem dX9_sign_2 : decode cX9_sign 2 = .ok (.if_icmp .lt 27, 3) := by decide +kernel
theorem dX9_sign_5 : decode cX9_sign 5 = .ok (.iload_n 3, 1) := by decide +kernel
theorem dX9_sign_6 : decode cX9_sign 6 = .ok (.bipush 7, 2) := by decide +kernel
theorem dX9_sign_8 : decode cX9_sign 8 = .ok (.if_icmp .gt 21, 3) := by decide +kernel
theorem dX9_sign_11 : decode cX9_sign 11 = .ok (.iload 4, 2) := by decide +kernel
theorem dX9_sign_13 : decode cX9_sign 13 = .ok (.iconst 1, 1) := by decide +kernel
theorem dX9_sign_14 : decode cX9_sign 14 = .ok (.if_icmp .lt 15, 3) := by decide +kernel
theorem dX9_sign_17 : decode cX9_sign 17 = .ok (.iload 4, 2) := by decide +kernel
theorem dX9_sign_19 : decode cX9_sign 19 = .ok (.sipush 4096, 3) := by decide +kernel
theorem dX9_sign_22 : decode cX9_sign 22 = .ok (.if_icmp .gt 7, 3) := by decide +kernel
theorem dX9_sign_25 : decode cX9_sign 25 = .ok (.iconst 1, 1) := by decide +kernel
theorem dX9_sign_26 : decode cX9_sign 26 = .ok (.goto 4, 3) := by decide +kernel
theorem dX9_sign_29 : decode cX9_sign 29 = .ok (.iconst 0, 1) := by decide +kernel
theorem dX9_sign_30 : decode cX9_sign 30 = .ok (.istore 5, 2) := by decide +kernel
theorem dX9_sign_32 : decode cX9_sign 32 = .ok (.aload_n 0, 1) := by decide +kernel
theorem dX9_sign_33 : decode cX9_sign 33 = .ok (.iload_n 1, 1) := by decide +kernel
theorem dX9_sign_34 : decode cX9_sign 34 = .ok (.invokestatic 142, 3) := by decide +kernel
theorem dX9_sign_37 : decode cX9_sign 37 = .ok (.ifCond .eq 15, 3) := by decide +kernel
theorem dX9_sign_40 : decode cX9_sign 40 = .ok (.aload_n 0, 1) := by decide +kernel
theorem dX9_sign_41 : decode cX9_sign 41 = .ok (.iload_n 2, 1) := by decide +kernel
theorem dX9_sign_42 : decode cX9_sign 42 = .ok (.invokevirtual 114, 3) := by decide +kernel
theorem dX9_sign_45 : decode cX9_sign 45 = .ok (.ifCond .eq 7, 3) := by decide +kernel
theorem dX9_sign_48 : decode cX9_sign 48 = .ok (.iconst 1, 1) := by decide +kernel
theorem dX9_sign_49 : decode cX9_sign 49 = .ok (.goto 4, 3) := by decide +kernel
theorem dX9_sign_52 : decode cX9_sign 52 = .ok (.iconst 0, 1) := by decide +kernel
theorem dX9_sign_53 : decode cX9_sign 53 = .ok (.iload 5, 2) := by decide +kernel
theorem dX9_sign_55 : decode cX9_sign 55 = .ok (.invokevirtual 121, 3) := by decide +kernel
theorem dX9_sign_58 : decode cX9_sign 58 = .ok (.ifCond .ne 5, 3) := by decide +kernel
theorem dX9_sign_61 : decode cX9_sign 61 = .ok (.iconst 0, 1) := by decide +kernel
theorem dX9_sign_62 : decode cX9_sign 62 = .ok (.ireturn, 1) := by decide +kernel
theorem dX9_sign_63 : decode cX9_sign 63 = .ok (.aload_n 0, 1) := by decide +kernel
theorem dX9_sign_64 : decode cX9_sign 64 = .ok (.iload_n 2, 1) := by decide +kernel
theorem dX9_sign_65 : decode cX9_sign 65 = .ok (.invokevirtual 145, 3) := by decide +kernel
theorem dX9_sign_68 : decode cX9_sign 68 = .ok (.aload_n 0, 1) := by decide +kernel
theorem dX9_sign_69 : decode cX9_sign 69 = .ok (.iload_n 1, 1) := by decide +kernel
theorem dX9_sign_70 : decode cX9_sign 70 = .ok (.iload_n 3, 1) := by decide +kernel
theorem dX9_sign_71 : decode cX9_sign 71 = .ok (.iload 4, 2) := by decide +kernel
theorem dX9_sign_73 : decode cX9_sign 73 = .ok (.invokevirtual 149, 3) := by decide +kernel
theorem dX9_sign_76 : decode cX9_sign 76 = .ok (.aload_n 0, 1) := by decide +kernel
theorem dX9_sign_77 : decode cX9_sign 77 = .ok (.getfield 25, 3) := by decide +kernel
theorem dX9_sign_80 : decode cX9_sign 80 = .ok (.iload_n 1, 1) := by decide +kernel
theorem dX9_sign_81 : decode cX9_sign 81 = .ok (.iaload, 1) := by decide +kernel
theorem dX9_sign_82 : decode cX9_sign 82 = .ok (.ireturn, 1) := by decide +kernel
theorem dX9_blocks_0 : decode cX9_blocks 0 = .ok (.aload_n 0, 1) := by decide +kernel
theorem dX9_blocks_1 : decode cX9_blocks 1 = .ok (.iload_n 1, 1) := by decide +kernel
theorem dX9_blocks_2 : decode cX9_blocks 2 = .ok (.invokestatic 142, 3) := by decide +kernel
theorem dX9_blocks_5 : decode cX9_blocks 5 = .ok (.invokevirtual 106, 3) := by decide +kernel
theorem dX9_blocks_8 : decode cX9_blocks 8 = .ok (.ifCond .eq 12, 3) := by decide +kernel
theorem dX9_blocks_11 : decode cX9_blocks 11 = .ok (.aload_n 0, 1) := by decide +kernel
theorem dX9_blocks_12 : decode cX9_blocks 12 = .ok (.getfield 25, 3) := by decide +kernel
theorem dX9_blocks_15 : decode cX9_blocks 15 = .ok (.iload_n 1, 1) := by decide +kernel
theorem dX9_blocks_16 : decode cX9_blocks 16 = .ok (.iaload, 1) := by decide +kernel
theorem dX9_blocks_17 : decode cX9_blocks 17 = .ok (.goto 4, 3) := by decide +kernel
theorem dX9_blocks_20 : decode cX9_blocks 20 = .ok (.iconst 0, 1) := by decide +kernel
theorem dX9_blocks_21 : decode cX9_blocks 21 = .ok (.ireturn, 1) := by decide +kernel
theorem dX9_isBlock_0 : decode cX9_isBlock 0 = .ok (.iload_n 1, 1) := by decide +kernel
theorem dX9_isBlock_1 : decode cX9_isBlock 1 = .ok (.invokestatic 142, 3) := by decide +kernel
theorem dX9_isBlock_4 : decode cX9_isBlock 4 = .ok (.ifCond .eq 21, 3) := by decide +kernel
theorem dX9_isBlock_7 : decode cX9_isBlock 7 = .ok (.iload_n 2, 1) := by decide +kernel
theorem dX9_isBlock_8 : decode cX9_isBlock 8 = .ok (.ifCond .lt 17, 3) := by decide +kernel
theorem dX9_isBlock_11 : decode cX9_isBlock 11 = .ok (.iload_n 2, 1) := by decide +kernel
theorem dX9_isBlock_12 : decode cX9_isBlock 12 = .ok (.aload_n 0, 1) := by decide +kernel
theorem dX9_isBlock_13 : decode cX9_isBlock 13 = .ok (.getfield 25, 3) := by decide +kernel
theorem dX9_isBlock_16 : decode cX9_isBlock 16 = .ok (.iload_n 1, 1) := by decide +kernel
theorem dX9_isBlock_17 : decode cX9_isBlock 17 = .ok (.iaload, 1) := by decide +kernel
theorem dX9_isBlock_18 : decode cX9_isBlock 18 = .ok (.if_icmp .ge 7, 3) := by decide +kernel
theorem dX9_isBlock_21 : decode cX9_isBlock 21 = .ok (.iconst 1, 1) := by decide +kernel
theorem dX9_isBlock_22 : decode cX9_isBlock 22 = .ok (.goto 4, 3) := by decide +kernel
theorem dX9_isBlock_25 : decode cX9_isBlock 25 = .ok (.iconst 0, 1) := by decide +kernel
theorem dX9_isBlock_26 : decode cX9_isBlock 26 = .ok (.ireturn, 1) := by decide +kernel
theorem dX9_weak_0 : decode cX9_weak 0 = .ok (.aload_n 0, 1) := by decide +kernel
theorem dX9_weak_1 : decode cX9_weak 1 = .ok (.aload_n 0, 1) := by decide +kernel
theorem dX9_weak_2 : decode cX9_weak 2 = .ok (.iload_n 1, 1) := by decide +kernel
theorem dX9_weak_3 : decode cX9_weak 3 = .ok (.iload_n 2, 1) := by decide +kernel
theorem dX9_weak_4 : decode cX9_weak 4 = .ok (.invokevirtual 153, 3) := by decide +kernel
theorem dX9_weak_7 : decode cX9_weak 7 = .ok (.invokevirtual 106, 3) := by decide +kernel
theorem dX9_weak_10 : decode cX9_weak 10 = .ok (.ifCond .eq 17, 3) := by decide +kernel
theorem dX9_weak_13 : decode cX9_weak 13 = .ok (.aload_n 0, 1) := by decide +kernel
theorem dX9_weak_14 : decode cX9_weak 14 = .ok (.getfield 28, 3) := by decide +kernel
theorem dX9_weak_17 : decode cX9_weak 17 = .ok (.bipush 120, 2) := by decide +kernel
theorem dX9_weak_19 : decode cX9_weak 19 = .ok (.iload_n 1, 1) := by decide +kernel
theorem dX9_weak_20 : decode cX9_weak 20 = .ok (.imul, 1) := by decide +kernel
theorem dX9_weak_21 : decode cX9_weak 21 = .ok (.iload_n 2, 1) := by decide +kernel
theorem dX9_weak_22 : decode cX9_weak 22 = .ok (.iadd, 1) := by decide +kernel
theorem dX9_weak_23 : decode cX9_weak 23 = .ok (.iaload, 1) := by decide +kernel
theorem dX9_weak_24 : decode cX9_weak 24 = .ok (.goto 4, 3) := by decide +kernel
theorem dX9_weak_27 : decode cX9_weak 27 = .ok (.iconst 0, 1) := by decide +kernel
theorem dX9_weak_28 : decode cX9_weak 28 = .ok (.ireturn, 1) := by decide +kernel
theorem dX9_strong_0 : decode cX9_strong 0 = .ok (.aload_n 0, 1) := by decide +kernel
theorem dX9_strong_1 : decode cX9_strong 1 = .ok (.aload_n 0, 1) := by decide +kernel
theorem dX9_strong_2 : decode cX9_strong 2 = .ok (.iload_n 1, 1) := by decide +kernel
theorem dX9_strong_3 : decode cX9_strong 3 = .ok (.iload_n 2, 1) := by decide +kernel
theorem dX9_strong_4 : decode cX9_strong 4 = .ok (.invokevirtual 153, 3) := by decide +kernel
theorem dX9_strong_7 : decode cX9_strong 7 = .ok (.invokevirtual 106, 3) := by decide +kernel
theorem dX9_strong_10 : decode cX9_strong 10 = .ok (.ifCond .eq 17, 3) := by decide +kernel
theorem dX9_strong_13 : decode cX9_strong 13 = .ok (.aload_n 0, 1) := by decide +kernel
theorem dX9_strong_14 : decode cX9_strong 14 = .ok (.getfield 31, 3) := by decide +kernel
theorem dX9_strong_17 : decode cX9_strong 17 = .ok (.bipush 120, 2) := by decide +kernel
theorem dX9_strong_19 : decode cX9_strong 19 = .ok (.iload_n 1, 1) := by decide +kernel
theorem dX9_strong_20 : decode cX9_strong 20 = .ok (.imul, 1) := by decide +kernel
theorem dX9_strong_21 : decode cX9_strong 21 = .ok (.iload_n 2, 1) := by decide +kernel
theorem dX9_strong_22 : decode cX9_strong 22 = .ok (.iadd, 1) := by decide +kernel
theorem dX9_strong_23 : decode cX9_strong 23 = .ok (.laload, 1) := by decide +kernel
theorem dX9_strong_24 : decode cX9_strong 24 = .ok (.goto 4, 3) := by decide +kernel
theorem dX9_strong_27 : decode cX9_strong 27 = .ok (.lconst 0, 1) := by decide +kernel
theorem dX9_strong_28 : decode cX9_strong 28 = .ok (.lreturn, 1) := by decide +kernel
theorem dX9_compares_0 : decode cX9_compares 0 = .ok (.bipush 120, 2) := by decide +kernel
theorem dX9_compares_2 : decode cX9_compares 2 = .ok (.iload_n 1, 1) := by decide +kernel
theorem dX9_compares_3 : decode cX9_compares 3 = .ok (.imul, 1) := by decide +kernel
theorem dX9_compares_4 : decode cX9_compares 4 = .ok (.istore 4, 2) := by decide +kernel
theorem dX9_compares_6 : decode cX9_compares 6 = .ok (.bipush 120, 2) := by decide +kernel
theorem dX9_compares_8 : decode cX9_compares 8 = .ok (.iload_n 3, 1) := by decide +kernel
theorem dX9_compares_9 : decode cX9_compares 9 = .ok (.imul, 1) := by decide +kernel
theorem dX9_compares_10 : decode cX9_compares 10 = .ok (.istore 5, 2) := by decide +kernel
theorem dX9_compares_12 : decode cX9_compares 12 = .ok (.aload_n 0, 1) := by decide +kernel
theorem dX9_compares_13 : decode cX9_compares 13 = .ok (.getfield 16, 3) := by decide +kernel
theorem dX9_compares_16 : decode cX9_compares 16 = .ok (.iload_n 2, 1) := by decide +kernel
theorem dX9_compares_17 : decode cX9_compares 17 = .ok (.iaload, 1) := by decide +kernel
theorem dX9_compares_18 : decode cX9_compares 18 = .ok (.istore 6, 2) := by decide +kernel
theorem dX9_compares_20 : decode cX9_compares 20 = .ok (.aload_n 0, 1) := by decide +kernel
theorem dX9_compares_21 : decode cX9_compares 21 = .ok (.getfield 35, 3) := by decide +kernel
theorem dX9_compares_24 : decode cX9_compares 24 = .ok (.iload_n 1, 1) := by decide +kernel
theorem dX9_compares_25 : decode cX9_compares 25 = .ok (.iconst 1, 1) := by decide +kernel
theorem dX9_compares_26 : decode cX9_compares 26 = .ok (.bastore, 1) := by decide +kernel
theorem dX9_compares_27 : decode cX9_compares 27 = .ok (.aload_n 0, 1) := by decide +kernel
theorem dX9_compares_28 : decode cX9_compares 28 = .ok (.getfield 39, 3) := by decide +kernel
theorem dX9_compares_31 : decode cX9_compares 31 = .ok (.iload_n 1, 1) := by decide +kernel
theorem dX9_compares_32 : decode cX9_compares 32 = .ok (.iconst 0, 1) := by decide +kernel
theorem dX9_compares_33 : decode cX9_compares 33 = .ok (.iastore, 1) := by decide +kernel
theorem dX9_compares_34 : decode cX9_compares 34 = .ok (.aload_n 0, 1) := by decide +kernel
theorem dX9_compares_35 : decode cX9_compares 35 = .ok (.getfield 42, 3) := by decide +kernel
theorem dX9_compares_38 : decode cX9_compares 38 = .ok (.iload_n 1, 1) := by decide +kernel
theorem dX9_compares_39 : decode cX9_compares 39 = .ok (.iconst 0, 1) := by decide +kernel
theorem dX9_compares_40 : decode cX9_compares 40 = .ok (.iastore, 1) := by decide +kernel
theorem dX9_compares_41 : decode cX9_compares 41 = .ok (.iconst 0, 1) := by decide +kernel
theorem dX9_compares_42 : decode cX9_compares 42 = .ok (.istore 7, 2) := by decide +kernel
theorem dX9_compares_44 : decode cX9_compares 44 = .ok (.iload 7, 2) := by decide +kernel
theorem dX9_compares_46 : decode cX9_compares 46 = .ok (.aload_n 0, 1) := by decide +kernel
theorem dX9_compares_47 : decode cX9_compares 47 = .ok (.getfield 7, 3) := by decide +kernel
theorem dX9_compares_50 : decode cX9_compares 50 = .ok (.iload_n 3, 1) := by decide +kernel
theorem dX9_compares_51 : decode cX9_compares 51 = .ok (.iaload, 1) := by decide +kernel
theorem dX9_compares_52 : decode cX9_compares 52 = .ok (.if_icmp .ge 29, 3) := by decide +kernel
theorem dX9_compares_55 : decode cX9_compares 55 = .ok (.aload_n 0, 1) := by decide +kernel
theorem dX9_compares_56 : decode cX9_compares 56 = .ok (.getfield 54, 3) := by decide +kernel
theorem dX9_compares_59 : decode cX9_compares 59 = .ok (.iload 4, 2) := by decide +kernel
theorem dX9_compares_61 : decode cX9_compares 61 = .ok (.iload 7, 2) := by decide +kernel
theorem dX9_compares_63 : decode cX9_compares 63 = .ok (.iadd, 1) := by decide +kernel
theorem dX9_compares_64 : decode cX9_compares 64 = .ok (.aload_n 0, 1) := by decide +kernel
theorem dX9_compares_65 : decode cX9_compares 65 = .ok (.getfield 13, 3) := by decide +kernel
theorem dX9_compares_68 : decode cX9_compares 68 = .ok (.iload 5, 2) := by decide +kernel
theorem dX9_compares_70 : decode cX9_compares 70 = .ok (.iload 7, 2) := by decide +kernel
theorem dX9_compares_72 : decode cX9_compares 72 = .ok (.iadd, 1) := by decide +kernel
theorem dX9_compares_73 : decode cX9_compares 73 = .ok (.iaload, 1) := by decide +kernel
theorem dX9_compares_74 : decode cX9_compares 74 = .ok (.iastore, 1) := by decide +kernel
theorem dX9_compares_75 : decode cX9_compares 75 = .ok (.iinc 7 1, 3) := by decide +kernel
theorem dX9_compares_78 : decode cX9_compares 78 = .ok (.goto (-34), 3) := by decide +kernel
theorem dX9_compares_81 : decode cX9_compares 81 = .ok (.iconst (-1), 1) := by decide +kernel
theorem dX9_compares_82 : decode cX9_compares 82 = .ok (.istore 7, 2) := by decide +kernel
theorem dX9_compares_84 : decode cX9_compares 84 = .ok (.iconst 0, 1) := by decide +kernel
theorem dX9_compares_85 : decode cX9_compares 85 = .ok (.istore 8, 2) := by decide +kernel
theorem dX9_compares_87 : decode cX9_compares 87 = .ok (.iload 8, 2) := by decide +kernel
theorem dX9_compares_89 : decode cX9_compares 89 = .ok (.aload_n 0, 1) := by decide +kernel
theorem dX9_compares_90 : decode cX9_compares 90 = .ok (.getfield 7, 3) := by decide +kernel
theorem dX9_compares_93 : decode cX9_compares 93 = .ok (.iload_n 3, 1) := by decide +kernel
theorem dX9_compares_94 : decode cX9_compares 94 = .ok (.iaload, 1) := by decide +kernel
theorem dX9_compares_95 : decode cX9_compares 95 = .ok (.if_icmp .ge 318, 3) := by decide +kernel
theorem dX9_compares_98 : decode cX9_compares 98 = .ok (.aload_n 0, 1) := by decide +kernel
theorem dX9_compares_99 : decode cX9_compares 99 = .ok (.getfield 7, 3) := by decide +kernel
theorem dX9_compares_102 : decode cX9_compares 102 = .ok (.iload_n 3, 1) := by decide +kernel
theorem dX9_compares_103 : decode cX9_compares 103 = .ok (.iaload, 1) := by decide +kernel
theorem dX9_compares_104 : decode cX9_compares 104 = .ok (.iload 8, 2) := by decide +kernel
theorem dX9_compares_106 : decode cX9_compares 106 = .ok (.isub, 1) := by decide +kernel
theorem dX9_compares_107 : decode cX9_compares 107 = .ok (.istore 9, 2) := by decide +kernel
theorem dX9_compares_109 : decode cX9_compares 109 = .ok (.iload 9, 2) := by decide +kernel
theorem dX9_compares_111 : decode cX9_compares 111 = .ok (.iload 6, 2) := by decide +kernel
theorem dX9_compares_113 : decode cX9_compares 113 = .ok (.if_icmp .lt 8, 3) := by decide +kernel
theorem dX9_compares_116 : decode cX9_compares 116 = .ok (.iload 6, 2) := by decide +kernel
theorem dX9_compares_118 : decode cX9_compares 118 = .ok (.goto 5, 3) := by decide +kernel
theorem dX9_compares_121 : decode cX9_compares 121 = .ok (.iload 9, 2) := by decide +kernel
theorem dX9_compares_123 : decode cX9_compares 123 = .ok (.istore 10, 2) := by decide +kernel
theorem dX9_compares_125 : decode cX9_compares 125 = .ok (.aload_n 0, 1) := by decide +kernel
theorem dX9_compares_126 : decode cX9_compares 126 = .ok (.getfield 13, 3) := by decide +kernel
theorem dX9_compares_129 : decode cX9_compares 129 = .ok (.iload 5, 2) := by decide +kernel
theorem dX9_compares_131 : decode cX9_compares 131 = .ok (.iload 8, 2) := by decide +kernel
theorem dX9_compares_133 : decode cX9_compares 133 = .ok (.iadd, 1) := by decide +kernel
theorem dX9_compares_134 : decode cX9_compares 134 = .ok (.iload 10, 2) := by decide +kernel
theorem dX9_compares_136 : decode cX9_compares 136 = .ok (.aload_n 0, 1) := by decide +kernel
theorem dX9_compares_137 : decode cX9_compares 137 = .ok (.getfield 19, 3) := by decide +kernel
theorem dX9_compares_140 : decode cX9_compares 140 = .ok (.iload_n 2, 1) := by decide +kernel
theorem dX9_compares_141 : decode cX9_compares 141 = .ok (.iaload, 1) := by decide +kernel
theorem dX9_compares_142 : decode cX9_compares 142 = .ok (.invokestatic 134, 3) := by decide +kernel
theorem dX9_compares_145 : decode cX9_compares 145 = .ok (.istore 11, 2) := by decide +kernel
theorem dX9_compares_147 : decode cX9_compares 147 = .ok (.aload_n 0, 1) := by decide +kernel
theorem dX9_compares_148 : decode cX9_compares 148 = .ok (.getfield 13, 3) := by decide +kernel
theorem dX9_compares_151 : decode cX9_compares 151 = .ok (.iload 5, 2) := by decide +kernel
theorem dX9_compares_153 : decode cX9_compares 153 = .ok (.iload 8, 2) := by decide +kernel
theorem dX9_compares_155 : decode cX9_compares 155 = .ok (.iadd, 1) := by decide +kernel
theorem dX9_compares_156 : decode cX9_compares 156 = .ok (.iload 10, 2) := by decide +kernel
theorem dX9_compares_158 : decode cX9_compares 158 = .ok (.invokestatic 138, 3) := by decide +kernel
theorem dX9_compares_161 : decode cX9_compares 161 = .ok (.lstore 12, 2) := by decide +kernel
theorem dX9_compares_163 : decode cX9_compares 163 = .ok (.iconst (-1), 1) := by decide +kernel
theorem dX9_compares_164 : decode cX9_compares 164 = .ok (.istore 14, 2) := by decide +kernel
theorem dX9_compares_166 : decode cX9_compares 166 = .ok (.iconst 0, 1) := by decide +kernel
theorem dX9_compares_167 : decode cX9_compares 167 = .ok (.istore 15, 2) := by decide +kernel
theorem dX9_compares_169 : decode cX9_compares 169 = .ok (.iconst 0, 1) := by decide +kernel
theorem dX9_compares_170 : decode cX9_compares 170 = .ok (.istore 16, 2) := by decide +kernel
theorem dX9_compares_172 : decode cX9_compares 172 = .ok (.iload 16, 2) := by decide +kernel
theorem dX9_compares_174 : decode cX9_compares 174 = .ok (.aload_n 0, 1) := by decide +kernel
theorem dX9_compares_175 : decode cX9_compares 175 = .ok (.getfield 25, 3) := by decide +kernel
theorem dX9_compares_178 : decode cX9_compares 178 = .ok (.iload_n 2, 1) := by decide +kernel
theorem dX9_compares_179 : decode cX9_compares 179 = .ok (.iaload, 1) := by decide +kernel
theorem dX9_compares_180 : decode cX9_compares 180 = .ok (.if_icmp .ge 93, 3) := by decide +kernel
theorem dX9_compares_183 : decode cX9_compares 183 = .ok (.aload_n 0, 1) := by decide +kernel
theorem dX9_compares_184 : decode cX9_compares 184 = .ok (.iload_n 2, 1) := by decide +kernel
theorem dX9_compares_185 : decode cX9_compares 185 = .ok (.iload 16, 2) := by decide +kernel
theorem dX9_compares_187 : decode cX9_compares 187 = .ok (.invokevirtual 130, 3) := by decide +kernel
theorem dX9_compares_190 : decode cX9_compares 190 = .ok (.iload 10, 2) := by decide +kernel
theorem dX9_compares_192 : decode cX9_compares 192 = .ok (.if_icmp .ne 75, 3) := by decide +kernel
theorem dX9_compares_195 : decode cX9_compares 195 = .ok (.aload_n 0, 1) := by decide +kernel
theorem dX9_compares_196 : decode cX9_compares 196 = .ok (.getfield 28, 3) := by decide +kernel
theorem dX9_compares_199 : decode cX9_compares 199 = .ok (.bipush 120, 2) := by decide +kernel
theorem dX9_compares_201 : decode cX9_compares 201 = .ok (.iload_n 2, 1) := by decide +kernel
theorem dX9_compares_202 : decode cX9_compares 202 = .ok (.imul, 1) := by decide +kernel
theorem dX9_compares_203 : decode cX9_compares 203 = .ok (.iload 16, 2) := by decide +kernel
theorem dX9_compares_205 : decode cX9_compares 205 = .ok (.iadd, 1) := by decide +kernel
theorem dX9_compares_206 : decode cX9_compares 206 = .ok (.iaload, 1) := by decide +kernel
theorem dX9_compares_207 : decode cX9_compares 207 = .ok (.iload 11, 2) := by decide +kernel
theorem dX9_compares_209 : decode cX9_compares 209 = .ok (.if_icmp .ne 58, 3) := by decide +kernel
theorem dX9_compares_212 : decode cX9_compares 212 = .ok (.aload_n 0, 1) := by decide +kernel
theorem dX9_compares_213 : decode cX9_compares 213 = .ok (.getfield 31, 3) := by decide +kernel
theorem dX9_compares_216 : decode cX9_compares 216 = .ok (.bipush 120, 2) := by decide +kernel
theorem dX9_compares_218 : decode cX9_compares 218 = .ok (.iload_n 2, 1) := by decide +kernel
theorem dX9_compares_219 : decode cX9_compares 219 = .ok (.imul, 1) := by decide +kernel
theorem dX9_compares_220 : decode cX9_compares 220 = .ok (.iload 16, 2) := by decide +kernel
theorem dX9_compares_222 : decode cX9_compares 222 = .ok (.iadd, 1) := by decide +kernel
theorem dX9_compares_223 : decode cX9_compares 223 = .ok (.laload, 1) := by decide +kernel
theorem dX9_compares_224 : decode cX9_compares 224 = .ok (.lload 12, 2) := by decide +kernel
theorem dX9_compares_226 : decode cX9_compares 226 = .ok (.lcmp, 1) := by decide +kernel
theorem dX9_compares_227 : decode cX9_compares 227 = .ok (.ifCond .ne 7, 3) := by decide +kernel
theorem dX9_compares_230 : decode cX9_compares 230 = .ok (.iconst 1, 1) := by decide +kernel
theorem dX9_compares_231 : decode cX9_compares 231 = .ok (.goto 4, 3) := by decide +kernel
theorem dX9_compares_234 : decode cX9_compares 234 = .ok (.iconst 0, 1) := by decide +kernel
theorem dX9_compares_235 : decode cX9_compares 235 = .ok (.istore 17, 2) := by decide +kernel
theorem dX9_compares_237 : decode cX9_compares 237 = .ok (.iconst 1, 1) := by decide +kernel
theorem dX9_compares_238 : decode cX9_compares 238 = .ok (.istore 15, 2) := by decide +kernel
theorem dX9_compares_240 : decode cX9_compares 240 = .ok (.iload 17, 2) := by decide +kernel
theorem dX9_compares_242 : decode cX9_compares 242 = .ok (.ifCond .eq 21, 3) := by decide +kernel
theorem dX9_compares_245 : decode cX9_compares 245 = .ok (.iload 14, 2) := by decide +kernel
theorem dX9_compares_247 : decode cX9_compares 247 = .ok (.iconst (-1), 1) := by decide +kernel
theorem dX9_compares_248 : decode cX9_compares 248 = .ok (.if_icmp .eq 10, 3) := by decide +kernel
theorem dX9_compares_251 : decode cX9_compares 251 = .ok (.iload 16, 2) := by decide +kernel
theorem dX9_compares_253 : decode cX9_compares 253 = .ok (.iload 7, 2) := by decide +kernel
theorem dX9_compares_255 : decode cX9_compares 255 = .ok (.if_icmp .ne 8, 3) := by decide +kernel
theorem dX9_compares_258 : decode cX9_compares 258 = .ok (.iload 16, 2) := by decide +kernel
theorem dX9_compares_260 : decode cX9_compares 260 = .ok (.goto 5, 3) := by decide +kernel
theorem dX9_compares_263 : decode cX9_compares 263 = .ok (.iload 14, 2) := by decide +kernel
theorem dX9_compares_265 : decode cX9_compares 265 = .ok (.istore 14, 2) := by decide +kernel
theorem dX9_compares_267 : decode cX9_compares 267 = .ok (.iinc 16 1, 3) := by decide +kernel
theorem dX9_compares_270 : decode cX9_compares 270 = .ok (.goto (-98), 3) := by decide +kernel
theorem dX9_compares_273 : decode cX9_compares 273 = .ok (.iload 4, 2) := by decide +kernel
theorem dX9_compares_275 : decode cX9_compares 275 = .ok (.aload_n 0, 1) := by decide +kernel
theorem dX9_compares_276 : decode cX9_compares 276 = .ok (.getfield 39, 3) := by decide +kernel
theorem dX9_compares_279 : decode cX9_compares 279 = .ok (.iload_n 1, 1) := by decide +kernel
theorem dX9_compares_280 : decode cX9_compares 280 = .ok (.iaload, 1) := by decide +kernel
theorem dX9_compares_281 : decode cX9_compares 281 = .ok (.iadd, 1) := by decide +kernel
theorem dX9_compares_282 : decode cX9_compares 282 = .ok (.iconst 1, 1) := by decide +kernel
theorem dX9_compares_283 : decode cX9_compares 283 = .ok (.isub, 1) := by decide +kernel
theorem dX9_compares_284 : decode cX9_compares 284 = .ok (.istore 16, 2) := by decide +kernel
theorem dX9_compares_286 : decode cX9_compares 286 = .ok (.iload 14, 2) := by decide +kernel
theorem dX9_compares_288 : decode cX9_compares 288 = .ok (.iconst (-1), 1) := by decide +kernel
theorem dX9_compares_289 : decode cX9_compares 289 = .ok (.if_icmp .eq 54, 3) := by decide +kernel
theorem dX9_compares_292 : decode cX9_compares 292 = .ok (.iload 14, 2) := by decide +kernel
theorem dX9_compares_294 : decode cX9_compares 294 = .ok (.iload 7, 2) := by decide +kernel
theorem dX9_compares_296 : decode cX9_compares 296 = .ok (.if_icmp .ne 18, 3) := by decide +kernel
theorem dX9_compares_299 : decode cX9_compares 299 = .ok (.aload_n 0, 1) := by decide +kernel
theorem dX9_compares_300 : decode cX9_compares 300 = .ok (.getfield 51, 3) := by decide +kernel
theorem dX9_compares_303 : decode cX9_compares 303 = .ok (.iload 16, 2) := by decide +kernel
theorem dX9_compares_305 : decode cX9_compares 305 = .ok (.dup2, 1) := by decide +kernel
theorem dX9_compares_306 : decode cX9_compares 306 = .ok (.iaload, 1) := by decide +kernel
theorem dX9_compares_307 : decode cX9_compares 307 = .ok (.iload 10, 2) := by decide +kernel
theorem dX9_compares_309 : decode cX9_compares 309 = .ok (.iadd, 1) := by decide +kernel
theorem dX9_compares_310 : decode cX9_compares 310 = .ok (.iastore, 1) := by decide +kernel
theorem dX9_compares_311 : decode cX9_compares 311 = .ok (.goto 16, 3) := by decide +kernel
theorem dX9_compares_314 : decode cX9_compares 314 = .ok (.aload_n 0, 1) := by decide +kernel
theorem dX9_compares_315 : decode cX9_compares 315 = .ok (.iload_n 1, 1) := by decide +kernel
theorem dX9_compares_316 : decode cX9_compares 316 = .ok (.iconst 1, 1) := by decide +kernel
theorem dX9_compares_317 : decode cX9_compares 317 = .ok (.iload 14, 2) := by decide +kernel
theorem dX9_compares_319 : decode cX9_compares 319 = .ok (.iload 6, 2) := by decide +kernel
theorem dX9_compares_321 : decode cX9_compares 321 = .ok (.imul, 1) := by decide +kernel
theorem dX9_compares_322 : decode cX9_compares 322 = .ok (.iload 10, 2) := by decide +kernel
theorem dX9_compares_324 : decode cX9_compares 324 = .ok (.invokevirtual 157, 3) := by decide +kernel
theorem dX9_compares_327 : decode cX9_compares 327 = .ok (.iload 14, 2) := by decide +kernel
theorem dX9_compares_329 : decode cX9_compares 329 = .ok (.iconst 1, 1) := by decide +kernel
theorem dX9_compares_330 : decode cX9_compares 330 = .ok (.iadd, 1) := by decide +kernel
theorem dX9_compares_331 : decode cX9_compares 331 = .ok (.istore 7, 2) := by decide +kernel
theorem dX9_compares_333 : decode cX9_compares 333 = .ok (.iload 8, 2) := by decide +kernel
theorem dX9_compares_335 : decode cX9_compares 335 = .ok (.iload 10, 2) := by decide +kernel
theorem dX9_compares_337 : decode cX9_compares 337 = .ok (.iadd, 1) := by decide +kernel
theorem dX9_compares_338 : decode cX9_compares 338 = .ok (.istore 8, 2) := by decide +kernel
theorem dX9_compares_340 : decode cX9_compares 340 = .ok (.goto 70, 3) := by decide +kernel
theorem dX9_compares_343 : decode cX9_compares 343 = .ok (.aload_n 0, 1) := by decide +kernel
theorem dX9_compares_344 : decode cX9_compares 344 = .ok (.getfield 42, 3) := by decide +kernel
theorem dX9_compares_347 : decode cX9_compares 347 = .ok (.iload_n 1, 1) := by decide +kernel
theorem dX9_compares_348 : decode cX9_compares 348 = .ok (.dup2, 1) := by decide +kernel
theorem dX9_compares_349 : decode cX9_compares 349 = .ok (.iaload, 1) := by decide +kernel
theorem dX9_compares_350 : decode cX9_compares 350 = .ok (.iload 15, 2) := by decide +kernel
theorem dX9_compares_352 : decode cX9_compares 352 = .ok (.ifCond .eq 7, 3) := by decide +kernel
theorem dX9_compares_355 : decode cX9_compares 355 = .ok (.iconst 1, 1) := by decide +kernel
theorem dX9_compares_356 : decode cX9_compares 356 = .ok (.goto 4, 3) := by decide +kernel
theorem dX9_compares_359 : decode cX9_compares 359 = .ok (.iconst 0, 1) := by decide +kernel
theorem dX9_compares_360 : decode cX9_compares 360 = .ok (.iadd, 1) := by decide +kernel
theorem dX9_compares_361 : decode cX9_compares 361 = .ok (.iastore, 1) := by decide +kernel
theorem dX9_compares_362 : decode cX9_compares 362 = .ok (.aload_n 0, 1) := by decide +kernel
theorem dX9_compares_363 : decode cX9_compares 363 = .ok (.getfield 39, 3) := by decide +kernel
theorem dX9_compares_366 : decode cX9_compares 366 = .ok (.iload_n 1, 1) := by decide +kernel
theorem dX9_compares_367 : decode cX9_compares 367 = .ok (.iaload, 1) := by decide +kernel
theorem dX9_compares_368 : decode cX9_compares 368 = .ok (.ifCond .le 27, 3) := by decide +kernel
theorem dX9_compares_371 : decode cX9_compares 371 = .ok (.aload_n 0, 1) := by decide +kernel
theorem dX9_compares_372 : decode cX9_compares 372 = .ok (.getfield 45, 3) := by decide +kernel
theorem dX9_compares_375 : decode cX9_compares 375 = .ok (.iload 16, 2) := by decide +kernel
theorem dX9_compares_377 : decode cX9_compares 377 = .ok (.baload, 1) := by decide +kernel
theorem dX9_compares_378 : decode cX9_compares 378 = .ok (.ifCond .ne 17, 3) := by decide +kernel
theorem dX9_compares_381 : decode cX9_compares 381 = .ok (.aload_n 0, 1) := by decide +kernel
theorem dX9_compares_382 : decode cX9_compares 382 = .ok (.getfield 51, 3) := by decide +kernel
theorem dX9_compares_385 : decode cX9_compares 385 = .ok (.iload 16, 2) := by decide +kernel
theorem dX9_compares_387 : decode cX9_compares 387 = .ok (.dup2, 1) := by decide +kernel
theorem dX9_compares_388 : decode cX9_compares 388 = .ok (.iaload, 1) := by decide +kernel
theorem dX9_compares_389 : decode cX9_compares 389 = .ok (.iconst 1, 1) := by decide +kernel
theorem dX9_compares_390 : decode cX9_compares 390 = .ok (.iadd, 1) := by decide +kernel
theorem dX9_compares_391 : decode cX9_compares 391 = .ok (.iastore, 1) := by decide +kernel
theorem dX9_compares_392 : decode cX9_compares 392 = .ok (.goto 12, 3) := by decide +kernel
theorem dX9_compares_395 : decode cX9_compares 395 = .ok (.aload_n 0, 1) := by decide +kernel
theorem dX9_compares_396 : decode cX9_compares 396 = .ok (.iload_n 1, 1) := by decide +kernel
theorem dX9_compares_397 : decode cX9_compares 397 = .ok (.iconst 0, 1) := by decide +kernel
theorem dX9_compares_398 : decode cX9_compares 398 = .ok (.iload 8, 2) := by decide +kernel
theorem dX9_compares_400 : decode cX9_compares 400 = .ok (.iconst 1, 1) := by decide +kernel
theorem dX9_compares_401 : decode cX9_compares 401 = .ok (.invokevirtual 157, 3) := by decide +kernel
theorem dX9_compares_404 : decode cX9_compares 404 = .ok (.iconst (-1), 1) := by decide +kernel
theorem dX9_compares_405 : decode cX9_compares 405 = .ok (.istore 7, 2) := by decide +kernel
theorem dX9_compares_407 : decode cX9_compares 407 = .ok (.iinc 8 1, 3) := by decide +kernel
theorem dX9_compares_410 : decode cX9_compares 410 = .ok (.goto (-323), 3) := by decide +kernel
theorem dX9_compares_413 : decode cX9_compares 413 = .ok (.return_, 1) := by decide +kernel
theorem dX9_begins_0 : decode cX9_begins 0 = .ok (.bipush 120, 2) := by decide +kernel
theorem dX9_begins_2 : decode cX9_begins 2 = .ok (.iload_n 1, 1) := by decide +kernel
theorem dX9_begins_3 : decode cX9_begins 3 = .ok (.imul, 1) := by decide +kernel
theorem dX9_begins_4 : decode cX9_begins 4 = .ok (.aload_n 0, 1) := by decide +kernel
theorem dX9_begins_5 : decode cX9_begins 5 = .ok (.getfield 39, 3) := by decide +kernel
theorem dX9_begins_8 : decode cX9_begins 8 = .ok (.iload_n 1, 1) := by decide +kernel
theorem dX9_begins_9 : decode cX9_begins 9 = .ok (.iaload, 1) := by decide +kernel
theorem dX9_begins_10 : decode cX9_begins 10 = .ok (.iadd, 1) := by decide +kernel
theorem dX9_begins_11 : decode cX9_begins 11 = .ok (.istore 5, 2) := by decide +kernel
theorem dX9_begins_13 : decode cX9_begins 13 = .ok (.aload_n 0, 1) := by decide +kernel
theorem dX9_begins_14 : decode cX9_begins 14 = .ok (.getfield 45, 3) := by decide +kernel
theorem dX9_begins_17 : decode cX9_begins 17 = .ok (.iload 5, 2) := by decide +kernel
theorem dX9_begins_19 : decode cX9_begins 19 = .ok (.iload_n 2, 1) := by decide +kernel
theorem dX9_begins_20 : decode cX9_begins 20 = .ok (.bastore, 1) := by decide +kernel
theorem dX9_begins_21 : decode cX9_begins 21 = .ok (.aload_n 0, 1) := by decide +kernel
theorem dX9_begins_22 : decode cX9_begins 22 = .ok (.getfield 48, 3) := by decide +kernel
theorem dX9_begins_25 : decode cX9_begins 25 = .ok (.iload 5, 2) := by decide +kernel
theorem dX9_begins_27 : decode cX9_begins 27 = .ok (.iload_n 3, 1) := by decide +kernel
theorem dX9_begins_28 : decode cX9_begins 28 = .ok (.iastore, 1) := by decide +kernel
theorem dX9_begins_29 : decode cX9_begins 29 = .ok (.aload_n 0, 1) := by decide +kernel
theorem dX9_begins_30 : decode cX9_begins 30 = .ok (.getfield 51, 3) := by decide +kernel
theorem dX9_begins_33 : decode cX9_begins 33 = .ok (.iload 5, 2) := by decide +kernel
theorem dX9_begins_35 : decode cX9_begins 35 = .ok (.iload 4, 2) := by decide +kernel
theorem dX9_begins_37 : decode cX9_begins 37 = .ok (.iastore, 1) := by decide +kernel
theorem dX9_begins_38 : decode cX9_begins 38 = .ok (.aload_n 0, 1) := by decide +kernel
theorem dX9_begins_39 : decode cX9_begins 39 = .ok (.getfield 39, 3) := by decide +kernel
theorem dX9_begins_42 : decode cX9_begins 42 = .ok (.iload_n 1, 1) := by decide +kernel
theorem dX9_begins_43 : decode cX9_begins 43 = .ok (.dup2, 1) := by decide +kernel
theorem dX9_begins_44 : decode cX9_begins 44 = .ok (.iaload, 1) := by decide +kernel
theorem dX9_begins_45 : decode cX9_begins 45 = .ok (.iconst 1, 1) := by decide +kernel
theorem dX9_begins_46 : decode cX9_begins 46 = .ok (.iadd, 1) := by decide +kernel
theorem dX9_begins_47 : decode cX9_begins 47 = .ok (.iastore, 1) := by decide +kernel
theorem dX9_begins_48 : decode cX9_begins 48 = .ok (.return_, 1) := by decide +kernel
theorem dX9_compare_0 : decode cX9_compare 0 = .ok (.iload_n 1, 1) := by decide +kernel
theorem dX9_compare_1 : decode cX9_compare 1 = .ok (.invokestatic 142, 3) := by decide +kernel
theorem dX9_compare_4 : decode cX9_compare 4 = .ok (.ifCond .eq 22, 3) := by decide +kernel
theorem dX9_compare_7 : decode cX9_compare 7 = .ok (.iload_n 2, 1) := by decide +kernel
theorem dX9_compare_8 : decode cX9_compare 8 = .ok (.invokestatic 142, 3) := by decide +kernel
theorem dX9_compare_11 : decode cX9_compare 11 = .ok (.ifCond .eq 15, 3) := by decide +kernel
theorem dX9_compare_14 : decode cX9_compare 14 = .ok (.aload_n 0, 1) := by decide +kernel
theorem dX9_compare_15 : decode cX9_compare 15 = .ok (.iload_n 3, 1) := by decide +kernel
theorem dX9_compare_16 : decode cX9_compare 16 = .ok (.invokevirtual 114, 3) := by decide +kernel
theorem dX9_compare_19 : decode cX9_compare 19 = .ok (.ifCond .eq 7, 3) := by decide +kernel
theorem dX9_compare_22 : decode cX9_compare 22 = .ok (.iconst 1, 1) := by decide +kernel
theorem dX9_compare_23 : decode cX9_compare 23 = .ok (.goto 4, 3) := by decide +kernel
theorem dX9_compare_26 : decode cX9_compare 26 = .ok (.iconst 0, 1) := by decide +kernel
theorem dX9_compare_27 : decode cX9_compare 27 = .ok (.istore 4, 2) := by decide +kernel
theorem dX9_compare_29 : decode cX9_compare 29 = .ok (.aload_n 0, 1) := by decide +kernel
theorem dX9_compare_30 : decode cX9_compare 30 = .ok (.iload 4, 2) := by decide +kernel
theorem dX9_compare_32 : decode cX9_compare 32 = .ok (.iload 4, 2) := by decide +kernel
theorem dX9_compare_34 : decode cX9_compare 34 = .ok (.ifCond .eq 16, 3) := by decide +kernel
theorem dX9_compare_37 : decode cX9_compare 37 = .ok (.aload_n 0, 1) := by decide +kernel
theorem dX9_compare_38 : decode cX9_compare 38 = .ok (.getfield 16, 3) := by decide +kernel
theorem dX9_compare_41 : decode cX9_compare 41 = .ok (.iload_n 2, 1) := by decide +kernel
theorem dX9_compare_42 : decode cX9_compare 42 = .ok (.iaload, 1) := by decide +kernel
theorem dX9_compare_43 : decode cX9_compare 43 = .ok (.ifCond .le 7, 3) := by decide +kernel
theorem dX9_compare_46 : decode cX9_compare 46 = .ok (.iconst 1, 1) := by decide +kernel
theorem dX9_compare_47 : decode cX9_compare 47 = .ok (.goto 4, 3) := by decide +kernel
theorem dX9_compare_50 : decode cX9_compare 50 = .ok (.iconst 0, 1) := by decide +kernel
theorem dX9_compare_51 : decode cX9_compare 51 = .ok (.invokevirtual 121, 3) := by decide +kernel
theorem dX9_compare_54 : decode cX9_compare 54 = .ok (.ifCond .ne 5, 3) := by decide +kernel
theorem dX9_compare_57 : decode cX9_compare 57 = .ok (.iconst 0, 1) := by decide +kernel
theorem dX9_compare_58 : decode cX9_compare 58 = .ok (.ireturn, 1) := by decide +kernel
theorem dX9_compare_59 : decode cX9_compare 59 = .ok (.aload_n 0, 1) := by decide +kernel
theorem dX9_compare_60 : decode cX9_compare 60 = .ok (.iload_n 1, 1) := by decide +kernel
theorem dX9_compare_61 : decode cX9_compare 61 = .ok (.iload_n 2, 1) := by decide +kernel
theorem dX9_compare_62 : decode cX9_compare 62 = .ok (.iload_n 3, 1) := by decide +kernel
theorem dX9_compare_63 : decode cX9_compare 63 = .ok (.invokevirtual 161, 3) := by decide +kernel
theorem dX9_compare_66 : decode cX9_compare 66 = .ok (.aload_n 0, 1) := by decide +kernel
theorem dX9_compare_67 : decode cX9_compare 67 = .ok (.getfield 39, 3) := by decide +kernel
theorem dX9_compare_70 : decode cX9_compare 70 = .ok (.iload_n 1, 1) := by decide +kernel
theorem dX9_compare_71 : decode cX9_compare 71 = .ok (.iaload, 1) := by decide +kernel
theorem dX9_compare_72 : decode cX9_compare 72 = .ok (.ireturn, 1) := by decide +kernel
theorem dX9_instructions_0 : decode cX9_instructions 0 = .ok (.aload_n 0, 1) := by decide +kernel
theorem dX9_instructions_1 : decode cX9_instructions 1 = .ok (.iload_n 1, 1) := by decide +kernel
theorem dX9_instructions_2 : decode cX9_instructions 2 = .ok (.invokestatic 142, 3) := by decide +kernel
theorem dX9_instructions_5 : decode cX9_instructions 5 = .ok (.invokevirtual 106, 3) := by decide +kernel
theorem dX9_instructions_8 : decode cX9_instructions 8 = .ok (.ifCond .eq 12, 3) := by decide +kernel
theorem dX9_instructions_11 : decode cX9_instructions 11 = .ok (.aload_n 0, 1) := by decide +kernel
theorem dX9_instructions_12 : decode cX9_instructions 12 = .ok (.getfield 39, 3) := by decide +kernel
theorem dX9_instructions_15 : decode cX9_instructions 15 = .ok (.iload_n 1, 1) := by decide +kernel
theorem dX9_instructions_16 : decode cX9_instructions 16 = .ok (.iaload, 1) := by decide +kernel
theorem dX9_instructions_17 : decode cX9_instructions 17 = .ok (.goto 4, 3) := by decide +kernel
theorem dX9_instructions_20 : decode cX9_instructions 20 = .ok (.iconst 0, 1) := by decide +kernel
theorem dX9_instructions_21 : decode cX9_instructions 21 = .ok (.ireturn, 1) := by decide +kernel
theorem dX9_isInstruction_0 : decode cX9_isInstruction 0 = .ok (.iload_n 1, 1) := by decide +kernel
theorem dX9_isInstruction_1 : decode cX9_isInstruction 1 = .ok (.invokestatic 142, 3) := by decide +kernel
theorem dX9_isInstruction_4 : decode cX9_isInstruction 4 = .ok (.ifCond .eq 21, 3) := by decide +kernel
theorem dX9_isInstruction_7 : decode cX9_isInstruction 7 = .ok (.iload_n 2, 1) := by decide +kernel
theorem dX9_isInstruction_8 : decode cX9_isInstruction 8 = .ok (.ifCond .lt 17, 3) := by decide +kernel
theorem dX9_isInstruction_11 : decode cX9_isInstruction 11 = .ok (.iload_n 2, 1) := by decide +kernel
theorem dX9_isInstruction_12 : decode cX9_isInstruction 12 = .ok (.aload_n 0, 1) := by decide +kernel
theorem dX9_isInstruction_13 : decode cX9_isInstruction 13 = .ok (.getfield 39, 3) := by decide +kernel
theorem dX9_isInstruction_16 : decode cX9_isInstruction 16 = .ok (.iload_n 1, 1) := by decide +kernel
theorem dX9_isInstruction_17 : decode cX9_isInstruction 17 = .ok (.iaload, 1) := by decide +kernel
theorem dX9_isInstruction_18 : decode cX9_isInstruction 18 = .ok (.if_icmp .ge 7, 3) := by decide +kernel
theorem dX9_isInstruction_21 : decode cX9_isInstruction 21 = .ok (.iconst 1, 1) := by decide +kernel
theorem dX9_isInstruction_22 : decode cX9_isInstruction 22 = .ok (.goto 4, 3) := by decide +kernel
theorem dX9_isInstruction_25 : decode cX9_isInstruction 25 = .ok (.iconst 0, 1) := by decide +kernel
theorem dX9_isInstruction_26 : decode cX9_isInstruction 26 = .ok (.ireturn, 1) := by decide +kernel
theorem dX9_isCopy_0 : decode cX9_isCopy 0 = .ok (.aload_n 0, 1) := by decide +kernel
theorem dX9_isCopy_1 : decode cX9_isCopy 1 = .ok (.aload_n 0, 1) := by decide +kernel
theorem dX9_isCopy_2 : decode cX9_isCopy 2 = .ok (.iload_n 1, 1) := by decide +kernel
theorem dX9_isCopy_3 : decode cX9_isCopy 3 = .ok (.iload_n 2, 1) := by decide +kernel
theorem dX9_isCopy_4 : decode cX9_isCopy 4 = .ok (.invokevirtual 164, 3) := by decide +kernel
theorem dX9_isCopy_7 : decode cX9_isCopy 7 = .ok (.invokevirtual 106, 3) := by decide +kernel
theorem dX9_isCopy_10 : decode cX9_isCopy 10 = .ok (.ifCond .eq 21, 3) := by decide +kernel
theorem dX9_isCopy_13 : decode cX9_isCopy 13 = .ok (.aload_n 0, 1) := by decide +kernel
theorem dX9_isCopy_14 : decode cX9_isCopy 14 = .ok (.getfield 45, 3) := by decide +kernel
theorem dX9_isCopy_17 : decode cX9_isCopy 17 = .ok (.bipush 120, 2) := by decide +kernel
theorem dX9_isCopy_19 : decode cX9_isCopy 19 = .ok (.iload_n 1, 1) := by decide +kernel
theorem dX9_isCopy_20 : decode cX9_isCopy 20 = .ok (.imul, 1) := by decide +kernel
theorem dX9_isCopy_21 : decode cX9_isCopy 21 = .ok (.iload_n 2, 1) := by decide +kernel
theorem dX9_isCopy_22 : decode cX9_isCopy 22 = .ok (.iadd, 1) := by decide +kernel
theorem dX9_isCopy_23 : decode cX9_isCopy 23 = .ok (.baload, 1) := by decide +kernel
theorem dX9_isCopy_24 : decode cX9_isCopy 24 = .ok (.ifCond .eq 7, 3) := by decide +kernel
theorem dX9_isCopy_27 : decode cX9_isCopy 27 = .ok (.iconst 1, 1) := by decide +kernel
theorem dX9_isCopy_28 : decode cX9_isCopy 28 = .ok (.goto 4, 3) := by decide +kernel
theorem dX9_isCopy_31 : decode cX9_isCopy 31 = .ok (.iconst 0, 1) := by decide +kernel
theorem dX9_isCopy_32 : decode cX9_isCopy 32 = .ok (.ireturn, 1) := by decide +kernel
theorem dX9_startOf_0 : decode cX9_startOf 0 = .ok (.aload_n 0, 1) := by decide +kernel
theorem dX9_startOf_1 : decode cX9_startOf 1 = .ok (.aload_n 0, 1) := by decide +kernel
theorem dX9_startOf_2 : decode cX9_startOf 2 = .ok (.iload_n 1, 1) := by decide +kernel
theorem dX9_startOf_3 : decode cX9_startOf 3 = .ok (.iload_n 2, 1) := by decide +kernel
theorem dX9_startOf_4 : decode cX9_startOf 4 = .ok (.invokevirtual 164, 3) := by decide +kernel
theorem dX9_startOf_7 : decode cX9_startOf 7 = .ok (.invokevirtual 106, 3) := by decide +kernel
theorem dX9_startOf_10 : decode cX9_startOf 10 = .ok (.ifCond .eq 17, 3) := by decide +kernel
theorem dX9_startOf_13 : decode cX9_startOf 13 = .ok (.aload_n 0, 1) := by decide +kernel
theorem dX9_startOf_14 : decode cX9_startOf 14 = .ok (.getfield 48, 3) := by decide +kernel
theorem dX9_startOf_17 : decode cX9_startOf 17 = .ok (.bipush 120, 2) := by decide +kernel
theorem dX9_startOf_19 : decode cX9_startOf 19 = .ok (.iload_n 1, 1) := by decide +kernel
theorem dX9_startOf_20 : decode cX9_startOf 20 = .ok (.imul, 1) := by decide +kernel
theorem dX9_startOf_21 : decode cX9_startOf 21 = .ok (.iload_n 2, 1) := by decide +kernel
theorem dX9_startOf_22 : decode cX9_startOf 22 = .ok (.iadd, 1) := by decide +kernel
theorem dX9_startOf_23 : decode cX9_startOf 23 = .ok (.iaload, 1) := by decide +kernel
theorem dX9_startOf_24 : decode cX9_startOf 24 = .ok (.goto 4, 3) := by decide +kernel
theorem dX9_startOf_27 : decode cX9_startOf 27 = .ok (.iconst 0, 1) := by decide +kernel
theorem dX9_startOf_28 : decode cX9_startOf 28 = .ok (.ireturn, 1) := by decide +kernel
theorem dX9_bytesOf_0 : decode cX9_bytesOf 0 = .ok (.aload_n 0, 1) := by decide +kernel
theorem dX9_bytesOf_1 : decode cX9_bytesOf 1 = .ok (.aload_n 0, 1) := by decide +kernel
theorem dX9_bytesOf_2 : decode cX9_bytesOf 2 = .ok (.iload_n 1, 1) := by decide +kernel
theorem dX9_bytesOf_3 : decode cX9_bytesOf 3 = .ok (.iload_n 2, 1) := by decide +kernel
theorem dX9_bytesOf_4 : decode cX9_bytesOf 4 = .ok (.invokevirtual 164, 3) := by decide +kernel
theorem dX9_bytesOf_7 : decode cX9_bytesOf 7 = .ok (.invokevirtual 106, 3) := by decide +kernel
theorem dX9_bytesOf_10 : decode cX9_bytesOf 10 = .ok (.ifCond .eq 17, 3) := by decide +kernel
theorem dX9_bytesOf_13 : decode cX9_bytesOf 13 = .ok (.aload_n 0, 1) := by decide +kernel
theorem dX9_bytesOf_14 : decode cX9_bytesOf 14 = .ok (.getfield 51, 3) := by decide +kernel
theorem dX9_bytesOf_17 : decode cX9_bytesOf 17 = .ok (.bipush 120, 2) := by decide +kernel
theorem dX9_bytesOf_19 : decode cX9_bytesOf 19 = .ok (.iload_n 1, 1) := by decide +kernel
theorem dX9_bytesOf_20 : decode cX9_bytesOf 20 = .ok (.imul, 1) := by decide +kernel
theorem dX9_bytesOf_21 : decode cX9_bytesOf 21 = .ok (.iload_n 2, 1) := by decide +kernel
theorem dX9_bytesOf_22 : decode cX9_bytesOf 22 = .ok (.iadd, 1) := by decide +kernel
theorem dX9_bytesOf_23 : decode cX9_bytesOf 23 = .ok (.iaload, 1) := by decide +kernel
theorem dX9_bytesOf_24 : decode cX9_bytesOf 24 = .ok (.goto 4, 3) := by decide +kernel
theorem dX9_bytesOf_27 : decode cX9_bytesOf 27 = .ok (.iconst 0, 1) := by decide +kernel
theorem dX9_bytesOf_28 : decode cX9_bytesOf 28 = .ok (.ireturn, 1) := by decide +kernel
theorem dX9_costOf_0 : decode cX9_costOf 0 = .ok (.iconst 0, 1) := by decide +kernel
theorem dX9_costOf_1 : decode cX9_costOf 1 = .ok (.istore_n 2, 1) := by decide +kernel
theorem dX9_costOf_2 : decode cX9_costOf 2 = .ok (.bipush 120, 2) := by decide +kernel
theorem dX9_costOf_4 : decode cX9_costOf 4 = .ok (.iload_n 1, 1) := by decide +kernel
theorem dX9_costOf_5 : decode cX9_costOf 5 = .ok (.imul, 1) := by decide +kernel
theorem dX9_costOf_6 : decode cX9_costOf 6 = .ok (.istore_n 3, 1) := by decide +kernel
theorem dX9_costOf_7 : decode cX9_costOf 7 = .ok (.iload_n 3, 1) := by decide +kernel
theorem dX9_costOf_8 : decode cX9_costOf 8 = .ok (.bipush 120, 2) := by decide +kernel
theorem dX9_costOf_10 : decode cX9_costOf 10 = .ok (.iload_n 1, 1) := by decide +kernel
theorem dX9_costOf_11 : decode cX9_costOf 11 = .ok (.imul, 1) := by decide +kernel
theorem dX9_costOf_12 : decode cX9_costOf 12 = .ok (.aload_n 0, 1) := by decide +kernel
theorem dX9_costOf_13 : decode cX9_costOf 13 = .ok (.getfield 39, 3) := by decide +kernel
theorem dX9_costOf_16 : decode cX9_costOf 16 = .ok (.iload_n 1, 1) := by decide +kernel
theorem dX9_costOf_17 : decode cX9_costOf 17 = .ok (.iaload, 1) := by decide +kernel
theorem dX9_costOf_18 : decode cX9_costOf 18 = .ok (.iadd, 1) := by decide +kernel
theorem dX9_costOf_19 : decode cX9_costOf 19 = .ok (.if_icmp .ge 33, 3) := by decide +kernel
theorem dX9_costOf_22 : decode cX9_costOf 22 = .ok (.iload_n 2, 1) := by decide +kernel
theorem dX9_costOf_23 : decode cX9_costOf 23 = .ok (.aload_n 0, 1) := by decide +kernel
theorem dX9_costOf_24 : decode cX9_costOf 24 = .ok (.getfield 45, 3) := by decide +kernel
theorem dX9_costOf_27 : decode cX9_costOf 27 = .ok (.iload_n 3, 1) := by decide +kernel
theorem dX9_costOf_28 : decode cX9_costOf 28 = .ok (.baload, 1) := by decide +kernel
theorem dX9_costOf_29 : decode cX9_costOf 29 = .ok (.ifCond .eq 7, 3) := by decide +kernel
theorem dX9_costOf_32 : decode cX9_costOf 32 = .ok (.iconst 3, 1) := by decide +kernel
theorem dX9_costOf_33 : decode cX9_costOf 33 = .ok (.goto 11, 3) := by decide +kernel
theorem dX9_costOf_36 : decode cX9_costOf 36 = .ok (.iconst 1, 1) := by decide +kernel
theorem dX9_costOf_37 : decode cX9_costOf 37 = .ok (.aload_n 0, 1) := by decide +kernel
theorem dX9_costOf_38 : decode cX9_costOf 38 = .ok (.getfield 51, 3) := by decide +kernel
theorem dX9_costOf_41 : decode cX9_costOf 41 = .ok (.iload_n 3, 1) := by decide +kernel
theorem dX9_costOf_42 : decode cX9_costOf 42 = .ok (.iaload, 1) := by decide +kernel
theorem dX9_costOf_43 : decode cX9_costOf 43 = .ok (.iadd, 1) := by decide +kernel
theorem dX9_costOf_44 : decode cX9_costOf 44 = .ok (.iadd, 1) := by decide +kernel
theorem dX9_costOf_45 : decode cX9_costOf 45 = .ok (.istore_n 2, 1) := by decide +kernel
theorem dX9_costOf_46 : decode cX9_costOf 46 = .ok (.iinc 3 1, 3) := by decide +kernel
theorem dX9_costOf_49 : decode cX9_costOf 49 = .ok (.goto (-42), 3) := by decide +kernel
theorem dX9_costOf_52 : decode cX9_costOf 52 = .ok (.iload_n 2, 1) := by decide +kernel
theorem dX9_costOf_53 : decode cX9_costOf 53 = .ok (.ireturn, 1) := by decide +kernel
theorem dX9_cost_0 : decode cX9_cost 0 = .ok (.aload_n 0, 1) := by decide +kernel
theorem dX9_cost_1 : decode cX9_cost 1 = .ok (.iload_n 1, 1) := by decide +kernel
theorem dX9_cost_2 : decode cX9_cost 2 = .ok (.invokestatic 142, 3) := by decide +kernel
theorem dX9_cost_5 : decode cX9_cost 5 = .ok (.invokevirtual 106, 3) := by decide +kernel
theorem dX9_cost_8 : decode cX9_cost 8 = .ok (.ifCond .eq 11, 3) := by decide +kernel
theorem dX9_cost_11 : decode cX9_cost 11 = .ok (.aload_n 0, 1) := by decide +kernel
theorem dX9_cost_12 : decode cX9_cost 12 = .ok (.iload_n 1, 1) := by decide +kernel
theorem dX9_cost_13 : decode cX9_cost 13 = .ok (.invokevirtual 167, 3) := by decide +kernel
theorem dX9_cost_16 : decode cX9_cost 16 = .ok (.goto 4, 3) := by decide +kernel
theorem dX9_cost_19 : decode cX9_cost 19 = .ok (.iconst 0, 1) := by decide +kernel
theorem dX9_cost_20 : decode cX9_cost 20 = .ok (.ireturn, 1) := by decide +kernel
theorem dX9_alarms_0 : decode cX9_alarms 0 = .ok (.aload_n 0, 1) := by decide +kernel
theorem dX9_alarms_1 : decode cX9_alarms 1 = .ok (.iload_n 1, 1) := by decide +kernel
theorem dX9_alarms_2 : decode cX9_alarms 2 = .ok (.invokestatic 142, 3) := by decide +kernel
theorem dX9_alarms_5 : decode cX9_alarms 5 = .ok (.invokevirtual 106, 3) := by decide +kernel
theorem dX9_alarms_8 : decode cX9_alarms 8 = .ok (.ifCond .eq 12, 3) := by decide +kernel
theorem dX9_alarms_11 : decode cX9_alarms 11 = .ok (.aload_n 0, 1) := by decide +kernel
theorem dX9_alarms_12 : decode cX9_alarms 12 = .ok (.getfield 42, 3) := by decide +kernel
theorem dX9_alarms_15 : decode cX9_alarms 15 = .ok (.iload_n 1, 1) := by decide +kernel
theorem dX9_alarms_16 : decode cX9_alarms 16 = .ok (.iaload, 1) := by decide +kernel
theorem dX9_alarms_17 : decode cX9_alarms 17 = .ok (.goto 4, 3) := by decide +kernel
theorem dX9_alarms_20 : decode cX9_alarms 20 = .ok (.iconst 0, 1) := by decide +kernel
theorem dX9_alarms_21 : decode cX9_alarms 21 = .ok (.ireturn, 1) := by decide +kernel
theorem dX9_goesBeyond_0 : decode cX9_goesBeyond 0 = .ok (.bipush 120, 2) := by decide +kernel
theorem dX9_goesBeyond_2 : decode cX9_goesBeyond 2 = .ok (.iload_n 1, 1) := by decide +kernel
theorem dX9_goesBeyond_3 : decode cX9_goesBeyond 3 = .ok (.imul, 1) := by decide +kernel
theorem dX9_goesBeyond_4 : decode cX9_goesBeyond 4 = .ok (.istore_n 2, 1) := by decide +kernel
theorem dX9_goesBeyond_5 : decode cX9_goesBeyond 5 = .ok (.iload_n 2, 1) := by decide +kernel
theorem dX9_goesBeyond_6 : decode cX9_goesBeyond 6 = .ok (.bipush 120, 2) := by decide +kernel
theorem dX9_goesBeyond_8 : decode cX9_goesBeyond 8 = .ok (.iload_n 1, 1) := by decide +kernel
theorem dX9_goesBeyond_9 : decode cX9_goesBeyond 9 = .ok (.imul, 1) := by decide +kernel
theorem dX9_goesBeyond_10 : decode cX9_goesBeyond 10 = .ok (.aload_n 0, 1) := by decide +kernel
theorem dX9_goesBeyond_11 : decode cX9_goesBeyond 11 = .ok (.getfield 39, 3) := by decide +kernel
theorem dX9_goesBeyond_14 : decode cX9_goesBeyond 14 = .ok (.iload_n 1, 1) := by decide +kernel
theorem dX9_goesBeyond_15 : decode cX9_goesBeyond 15 = .ok (.iaload, 1) := by decide +kernel
theorem dX9_goesBeyond_16 : decode cX9_goesBeyond 16 = .ok (.iadd, 1) := by decide +kernel
theorem dX9_goesBeyond_17 : decode cX9_goesBeyond 17 = .ok (.if_icmp .ge 40, 3) := by decide +kernel
theorem dX9_goesBeyond_20 : decode cX9_goesBeyond 20 = .ok (.aload_n 0, 1) := by decide +kernel
theorem dX9_goesBeyond_21 : decode cX9_goesBeyond 21 = .ok (.getfield 45, 3) := by decide +kernel
theorem dX9_goesBeyond_24 : decode cX9_goesBeyond 24 = .ok (.iload_n 2, 1) := by decide +kernel
theorem dX9_goesBeyond_25 : decode cX9_goesBeyond 25 = .ok (.baload, 1) := by decide +kernel
theorem dX9_goesBeyond_26 : decode cX9_goesBeyond 26 = .ok (.ifCond .eq 25, 3) := by decide +kernel
theorem dX9_goesBeyond_29 : decode cX9_goesBeyond 29 = .ok (.aload_n 0, 1) := by decide +kernel
theorem dX9_goesBeyond_30 : decode cX9_goesBeyond 30 = .ok (.getfield 48, 3) := by decide +kernel
theorem dX9_goesBeyond_33 : decode cX9_goesBeyond 33 = .ok (.iload_n 2, 1) := by decide +kernel
theorem dX9_goesBeyond_34 : decode cX9_goesBeyond 34 = .ok (.iaload, 1) := by decide +kernel
theorem dX9_goesBeyond_35 : decode cX9_goesBeyond 35 = .ok (.aload_n 0, 1) := by decide +kernel
theorem dX9_goesBeyond_36 : decode cX9_goesBeyond 36 = .ok (.getfield 51, 3) := by decide +kernel
theorem dX9_goesBeyond_39 : decode cX9_goesBeyond 39 = .ok (.iload_n 2, 1) := by decide +kernel
theorem dX9_goesBeyond_40 : decode cX9_goesBeyond 40 = .ok (.iaload, 1) := by decide +kernel
theorem dX9_goesBeyond_41 : decode cX9_goesBeyond 41 = .ok (.iadd, 1) := by decide +kernel
theorem dX9_goesBeyond_42 : decode cX9_goesBeyond 42 = .ok (.aload_n 0, 1) := by decide +kernel
theorem dX9_goesBeyond_43 : decode cX9_goesBeyond 43 = .ok (.getfield 125, 3) := by decide +kernel
theorem dX9_goesBeyond_46 : decode cX9_goesBeyond 46 = .ok (.if_icmp .le 5, 3) := by decide +kernel
theorem dX9_goesBeyond_49 : decode cX9_goesBeyond 49 = .ok (.iconst 1, 1) := by decide +kernel
theorem dX9_goesBeyond_50 : decode cX9_goesBeyond 50 = .ok (.ireturn, 1) := by decide +kernel
theorem dX9_goesBeyond_51 : decode cX9_goesBeyond 51 = .ok (.iinc 2 1, 3) := by decide +kernel
theorem dX9_goesBeyond_54 : decode cX9_goesBeyond 54 = .ok (.goto (-49), 3) := by decide +kernel
theorem dX9_goesBeyond_57 : decode cX9_goesBeyond 57 = .ok (.iconst 0, 1) := by decide +kernel
theorem dX9_goesBeyond_58 : decode cX9_goesBeyond 58 = .ok (.ireturn, 1) := by decide +kernel
theorem dX9_applies_0 : decode cX9_applies 0 = .ok (.iconst 0, 1) := by decide +kernel
theorem dX9_applies_1 : decode cX9_applies 1 = .ok (.istore_n 2, 1) := by decide +kernel
theorem dX9_applies_2 : decode cX9_applies 2 = .ok (.bipush 120, 2) := by decide +kernel
theorem dX9_applies_4 : decode cX9_applies 4 = .ok (.iload_n 1, 1) := by decide +kernel
theorem dX9_applies_5 : decode cX9_applies 5 = .ok (.imul, 1) := by decide +kernel
theorem dX9_applies_6 : decode cX9_applies 6 = .ok (.istore_n 3, 1) := by decide +kernel
theorem dX9_applies_7 : decode cX9_applies 7 = .ok (.iload_n 3, 1) := by decide +kernel
theorem dX9_applies_8 : decode cX9_applies 8 = .ok (.bipush 120, 2) := by decide +kernel
theorem dX9_applies_10 : decode cX9_applies 10 = .ok (.iload_n 1, 1) := by decide +kernel
theorem dX9_applies_11 : decode cX9_applies 11 = .ok (.imul, 1) := by decide +kernel
theorem dX9_applies_12 : decode cX9_applies 12 = .ok (.aload_n 0, 1) := by decide +kernel
theorem dX9_applies_13 : decode cX9_applies 13 = .ok (.getfield 39, 3) := by decide +kernel
theorem dX9_applies_16 : decode cX9_applies 16 = .ok (.iload_n 1, 1) := by decide +kernel
theorem dX9_applies_17 : decode cX9_applies 17 = .ok (.iaload, 1) := by decide +kernel
theorem dX9_applies_18 : decode cX9_applies 18 = .ok (.iadd, 1) := by decide +kernel
theorem dX9_applies_19 : decode cX9_applies 19 = .ok (.if_icmp .ge 83, 3) := by decide +kernel
theorem dX9_applies_22 : decode cX9_applies 22 = .ok (.iconst 0, 1) := by decide +kernel
theorem dX9_applies_23 : decode cX9_applies 23 = .ok (.istore 4, 2) := by decide +kernel
theorem dX9_applies_25 : decode cX9_applies 25 = .ok (.iload 4, 2) := by decide +kernel
theorem dX9_applies_27 : decode cX9_applies 27 = .ok (.aload_n 0, 1) := by decide +kernel
theorem dX9_applies_28 : decode cX9_applies 28 = .ok (.getfield 51, 3) := by decide +kernel
theorem dX9_applies_31 : decode cX9_applies 31 = .ok (.iload_n 3, 1) := by decide +kernel
theorem dX9_applies_32 : decode cX9_applies 32 = .ok (.iaload, 1) := by decide +kernel
theorem dX9_applies_33 : decode cX9_applies 33 = .ok (.if_icmp .ge 63, 3) := by decide +kernel
theorem dX9_applies_36 : decode cX9_applies 36 = .ok (.aload_n 0, 1) := by decide +kernel
theorem dX9_applies_37 : decode cX9_applies 37 = .ok (.getfield 75, 3) := by decide +kernel
theorem dX9_applies_40 : decode cX9_applies 40 = .ok (.iload_n 2, 1) := by decide +kernel
theorem dX9_applies_41 : decode cX9_applies 41 = .ok (.aload_n 0, 1) := by decide +kernel
theorem dX9_applies_42 : decode cX9_applies 42 = .ok (.getfield 45, 3) := by decide +kernel
theorem dX9_applies_45 : decode cX9_applies 45 = .ok (.iload_n 3, 1) := by decide +kernel
theorem dX9_applies_46 : decode cX9_applies 46 = .ok (.baload, 1) := by decide +kernel
theorem dX9_applies_47 : decode cX9_applies 47 = .ok (.ifCond .eq 20, 3) := by decide +kernel
theorem dX9_applies_50 : decode cX9_applies 50 = .ok (.aload_n 0, 1) := by decide +kernel
theorem dX9_applies_51 : decode cX9_applies 51 = .ok (.getfield 72, 3) := by decide +kernel
theorem dX9_applies_54 : decode cX9_applies 54 = .ok (.aload_n 0, 1) := by decide +kernel
theorem dX9_applies_55 : decode cX9_applies 55 = .ok (.getfield 48, 3) := by decide +kernel
theorem dX9_applies_58 : decode cX9_applies 58 = .ok (.iload_n 3, 1) := by decide +kernel
theorem dX9_applies_59 : decode cX9_applies 59 = .ok (.iaload, 1) := by decide +kernel
theorem dX9_applies_60 : decode cX9_applies 60 = .ok (.iload 4, 2) := by decide +kernel
theorem dX9_applies_62 : decode cX9_applies 62 = .ok (.iadd, 1) := by decide +kernel
theorem dX9_applies_63 : decode cX9_applies 63 = .ok (.iaload, 1) := by decide +kernel
theorem dX9_applies_64 : decode cX9_applies 64 = .ok (.goto 22, 3) := by decide +kernel
theorem dX9_applies_67 : decode cX9_applies 67 = .ok (.aload_n 0, 1) := by decide +kernel
theorem dX9_applies_68 : decode cX9_applies 68 = .ok (.getfield 54, 3) := by decide +kernel
theorem dX9_applies_71 : decode cX9_applies 71 = .ok (.bipush 120, 2) := by decide +kernel
theorem dX9_applies_73 : decode cX9_applies 73 = .ok (.iload_n 1, 1) := by decide +kernel
theorem dX9_applies_74 : decode cX9_applies 74 = .ok (.imul, 1) := by decide +kernel
theorem dX9_applies_75 : decode cX9_applies 75 = .ok (.aload_n 0, 1) := by decide +kernel
theorem dX9_applies_76 : decode cX9_applies 76 = .ok (.getfield 48, 3) := by decide +kernel
theorem dX9_applies_79 : decode cX9_applies 79 = .ok (.iload_n 3, 1) := by decide +kernel
theorem dX9_applies_80 : decode cX9_applies 80 = .ok (.iaload, 1) := by decide +kernel
theorem dX9_applies_81 : decode cX9_applies 81 = .ok (.iadd, 1) := by decide +kernel
theorem dX9_applies_82 : decode cX9_applies 82 = .ok (.iload 4, 2) := by decide +kernel
theorem dX9_applies_84 : decode cX9_applies 84 = .ok (.iadd, 1) := by decide +kernel
theorem dX9_applies_85 : decode cX9_applies 85 = .ok (.iaload, 1) := by decide +kernel
theorem dX9_applies_86 : decode cX9_applies 86 = .ok (.iastore, 1) := by decide +kernel
theorem dX9_applies_87 : decode cX9_applies 87 = .ok (.iinc 2 1, 3) := by decide +kernel
theorem dX9_applies_90 : decode cX9_applies 90 = .ok (.iinc 4 1, 3) := by decide +kernel
theorem dX9_applies_93 : decode cX9_applies 93 = .ok (.goto (-68), 3) := by decide +kernel
theorem dX9_applies_96 : decode cX9_applies 96 = .ok (.iinc 3 1, 3) := by decide +kernel
theorem dX9_applies_99 : decode cX9_applies 99 = .ok (.goto (-92), 3) := by decide +kernel
theorem dX9_applies_102 : decode cX9_applies 102 = .ok (.aload_n 0, 1) := by decide +kernel
theorem dX9_applies_103 : decode cX9_applies 103 = .ok (.iload_n 2, 1) := by decide +kernel
theorem dX9_applies_104 : decode cX9_applies 104 = .ok (.putfield 125, 3) := by decide +kernel
theorem dX9_applies_107 : decode cX9_applies 107 = .ok (.iconst 0, 1) := by decide +kernel
theorem dX9_applies_108 : decode cX9_applies 108 = .ok (.istore_n 3, 1) := by decide +kernel
theorem dX9_applies_109 : decode cX9_applies 109 = .ok (.iload_n 3, 1) := by decide +kernel
theorem dX9_applies_110 : decode cX9_applies 110 = .ok (.iload_n 2, 1) := by decide +kernel
theorem dX9_applies_111 : decode cX9_applies 111 = .ok (.if_icmp .ge 21, 3) := by decide +kernel
theorem dX9_applies_114 : decode cX9_applies 114 = .ok (.aload_n 0, 1) := by decide +kernel
theorem dX9_applies_115 : decode cX9_applies 115 = .ok (.getfield 72, 3) := by decide +kernel
theorem dX9_applies_118 : decode cX9_applies 118 = .ok (.iload_n 3, 1) := by decide +kernel
theorem dX9_applies_119 : decode cX9_applies 119 = .ok (.aload_n 0, 1) := by decide +kernel
theorem dX9_applies_120 : decode cX9_applies 120 = .ok (.getfield 75, 3) := by decide +kernel
theorem dX9_applies_123 : decode cX9_applies 123 = .ok (.iload_n 3, 1) := by decide +kernel
theorem dX9_applies_124 : decode cX9_applies 124 = .ok (.iaload, 1) := by decide +kernel
theorem dX9_applies_125 : decode cX9_applies 125 = .ok (.iastore, 1) := by decide +kernel
theorem dX9_applies_126 : decode cX9_applies 126 = .ok (.iinc 3 1, 3) := by decide +kernel
theorem dX9_applies_129 : decode cX9_applies 129 = .ok (.goto (-20), 3) := by decide +kernel
theorem dX9_applies_132 : decode cX9_applies 132 = .ok (.return_, 1) := by decide +kernel
theorem dX9_apply_0 : decode cX9_apply 0 = .ok (.iload_n 1, 1) := by decide +kernel
theorem dX9_apply_1 : decode cX9_apply 1 = .ok (.invokestatic 142, 3) := by decide +kernel
theorem dX9_apply_4 : decode cX9_apply 4 = .ok (.ifCond .eq 23, 3) := by decide +kernel
theorem dX9_apply_7 : decode cX9_apply 7 = .ok (.aload_n 0, 1) := by decide +kernel
theorem dX9_apply_8 : decode cX9_apply 8 = .ok (.iload_n 2, 1) := by decide +kernel
theorem dX9_apply_9 : decode cX9_apply 9 = .ok (.invokevirtual 114, 3) := by decide +kernel
theorem dX9_apply_12 : decode cX9_apply 12 = .ok (.ifCond .eq 15, 3) := by decide +kernel
theorem dX9_apply_15 : decode cX9_apply 15 = .ok (.aload_n 0, 1) := by decide +kernel
theorem dX9_apply_16 : decode cX9_apply 16 = .ok (.iload_n 3, 1) := by decide +kernel
theorem dX9_apply_17 : decode cX9_apply 17 = .ok (.invokevirtual 114, 3) := by decide +kernel
theorem dX9_apply_20 : decode cX9_apply 20 = .ok (.ifCond .eq 7, 3) := by decide +kernel
theorem dX9_apply_23 : decode cX9_apply 23 = .ok (.iconst 1, 1) := by decide +kernel
theorem dX9_apply_24 : decode cX9_apply 24 = .ok (.goto 4, 3) := by decide +kernel
theorem dX9_apply_27 : decode cX9_apply 27 = .ok (.iconst 0, 1) := by decide +kernel
theorem dX9_apply_28 : decode cX9_apply 28 = .ok (.istore 4, 2) := by decide +kernel
theorem dX9_apply_30 : decode cX9_apply 30 = .ok (.iload 4, 2) := by decide +kernel
theorem dX9_apply_32 : decode cX9_apply 32 = .ok (.ifCond .eq 8, 3) := by decide +kernel
theorem dX9_apply_35 : decode cX9_apply 35 = .ok (.aload_n 0, 1) := by decide +kernel
theorem dX9_apply_36 : decode cX9_apply 36 = .ok (.iload_n 2, 1) := by decide +kernel
theorem dX9_apply_37 : decode cX9_apply 37 = .ok (.invokevirtual 145, 3) := by decide +kernel
theorem dX9_apply_40 : decode cX9_apply 40 = .ok (.aload_n 0, 1) := by decide +kernel
theorem dX9_apply_41 : decode cX9_apply 41 = .ok (.iload 4, 2) := by decide +kernel
theorem dX9_apply_43 : decode cX9_apply 43 = .ok (.iload 4, 2) := by decide +kernel
theorem dX9_apply_45 : decode cX9_apply 45 = .ok (.ifCond .eq 24, 3) := by decide +kernel
theorem dX9_apply_48 : decode cX9_apply 48 = .ok (.aload_n 0, 1) := by decide +kernel
theorem dX9_apply_49 : decode cX9_apply 49 = .ok (.getfield 35, 3) := by decide +kernel
theorem dX9_apply_52 : decode cX9_apply 52 = .ok (.iload_n 1, 1) := by decide +kernel
theorem dX9_apply_53 : decode cX9_apply 53 = .ok (.baload, 1) := by decide +kernel
theorem dX9_apply_54 : decode cX9_apply 54 = .ok (.ifCond .eq 15, 3) := by decide +kernel
theorem dX9_apply_57 : decode cX9_apply 57 = .ok (.aload_n 0, 1) := by decide +kernel
theorem dX9_apply_58 : decode cX9_apply 58 = .ok (.iload_n 1, 1) := by decide +kernel
theorem dX9_apply_59 : decode cX9_apply 59 = .ok (.invokevirtual 171, 3) := by decide +kernel
theorem dX9_apply_62 : decode cX9_apply 62 = .ok (.ifCond .ne 7, 3) := by decide +kernel
theorem dX9_apply_65 : decode cX9_apply 65 = .ok (.iconst 1, 1) := by decide +kernel
theorem dX9_apply_66 : decode cX9_apply 66 = .ok (.goto 4, 3) := by decide +kernel
theorem dX9_apply_69 : decode cX9_apply 69 = .ok (.iconst 0, 1) := by decide +kernel
theorem dX9_apply_70 : decode cX9_apply 70 = .ok (.invokevirtual 121, 3) := by decide +kernel
theorem dX9_apply_73 : decode cX9_apply 73 = .ok (.ifCond .ne 5, 3) := by decide +kernel
theorem dX9_apply_76 : decode cX9_apply 76 = .ok (.iconst 0, 1) := by decide +kernel
theorem dX9_apply_77 : decode cX9_apply 77 = .ok (.ireturn, 1) := by decide +kernel
theorem dX9_apply_78 : decode cX9_apply 78 = .ok (.aload_n 0, 1) := by decide +kernel
theorem dX9_apply_79 : decode cX9_apply 79 = .ok (.iload_n 1, 1) := by decide +kernel
theorem dX9_apply_80 : decode cX9_apply 80 = .ok (.invokevirtual 174, 3) := by decide +kernel
theorem dX9_apply_83 : decode cX9_apply 83 = .ok (.aload_n 0, 1) := by decide +kernel
theorem dX9_apply_84 : decode cX9_apply 84 = .ok (.iload_n 3, 1) := by decide +kernel
theorem dX9_apply_85 : decode cX9_apply 85 = .ok (.invokevirtual 177, 3) := by decide +kernel
theorem dX9_apply_88 : decode cX9_apply 88 = .ok (.ireturn, 1) := by decide +kernel
theorem dX9_isVersion_0 : decode cX9_isVersion 0 = .ok (.iload_n 1, 1) := by decide +kernel
theorem dX9_isVersion_1 : decode cX9_isVersion 1 = .ok (.ifCond .lt 15, 3) := by decide +kernel
theorem dX9_isVersion_4 : decode cX9_isVersion 4 = .ok (.iload_n 1, 1) := by decide +kernel
theorem dX9_isVersion_5 : decode cX9_isVersion 5 = .ok (.aload_n 0, 1) := by decide +kernel
theorem dX9_isVersion_6 : decode cX9_isVersion 6 = .ok (.getfield 180, 3) := by decide +kernel
theorem dX9_isVersion_9 : decode cX9_isVersion 9 = .ok (.if_icmp .ge 7, 3) := by decide +kernel
theorem dX9_isVersion_12 : decode cX9_isVersion 12 = .ok (.iconst 1, 1) := by decide +kernel
theorem dX9_isVersion_13 : decode cX9_isVersion 13 = .ok (.goto 4, 3) := by decide +kernel
theorem dX9_isVersion_16 : decode cX9_isVersion 16 = .ok (.iconst 0, 1) := by decide +kernel
theorem dX9_isVersion_17 : decode cX9_isVersion 17 = .ok (.ireturn, 1) := by decide +kernel
theorem dX9_holds_0 : decode cX9_holds 0 = .ok (.aload_n 0, 1) := by decide +kernel
theorem dX9_holds_1 : decode cX9_holds 1 = .ok (.getfield 57, 3) := by decide +kernel
theorem dX9_holds_4 : decode cX9_holds 4 = .ok (.iload_n 1, 1) := by decide +kernel
theorem dX9_holds_5 : decode cX9_holds 5 = .ok (.iconst 1, 1) := by decide +kernel
theorem dX9_holds_6 : decode cX9_holds 6 = .ok (.iastore, 1) := by decide +kernel
theorem dX9_holds_7 : decode cX9_holds 7 = .ok (.aload_n 0, 1) := by decide +kernel
theorem dX9_holds_8 : decode cX9_holds 8 = .ok (.getfield 63, 3) := by decide +kernel
theorem dX9_holds_11 : decode cX9_holds 11 = .ok (.iload_n 1, 1) := by decide +kernel
theorem dX9_holds_12 : decode cX9_holds 12 = .ok (.aload_n 0, 1) := by decide +kernel
theorem dX9_holds_13 : decode cX9_holds 13 = .ok (.getfield 7, 3) := by decide +kernel
theorem dX9_holds_16 : decode cX9_holds 16 = .ok (.iload_n 2, 1) := by decide +kernel
theorem dX9_holds_17 : decode cX9_holds 17 = .ok (.iaload, 1) := by decide +kernel
theorem dX9_holds_18 : decode cX9_holds 18 = .ok (.iastore, 1) := by decide +kernel
theorem dX9_holds_19 : decode cX9_holds 19 = .ok (.iconst 0, 1) := by decide +kernel
theorem dX9_holds_20 : decode cX9_holds 20 = .ok (.istore_n 3, 1) := by decide +kernel
theorem dX9_holds_21 : decode cX9_holds 21 = .ok (.iload_n 3, 1) := by decide +kernel
theorem dX9_holds_22 : decode cX9_holds 22 = .ok (.aload_n 0, 1) := by decide +kernel
theorem dX9_holds_23 : decode cX9_holds 23 = .ok (.getfield 7, 3) := by decide +kernel
theorem dX9_holds_26 : decode cX9_holds 26 = .ok (.iload_n 2, 1) := by decide +kernel
theorem dX9_holds_27 : decode cX9_holds 27 = .ok (.iaload, 1) := by decide +kernel
theorem dX9_holds_28 : decode cX9_holds 28 = .ok (.if_icmp .ge 31, 3) := by decide +kernel
theorem dX9_holds_31 : decode cX9_holds 31 = .ok (.aload_n 0, 1) := by decide +kernel
theorem dX9_holds_32 : decode cX9_holds 32 = .ok (.getfield 66, 3) := by decide +kernel
theorem dX9_holds_35 : decode cX9_holds 35 = .ok (.bipush 120, 2) := by decide +kernel
theorem dX9_holds_37 : decode cX9_holds 37 = .ok (.iload_n 1, 1) := by decide +kernel
theorem dX9_holds_38 : decode cX9_holds 38 = .ok (.imul, 1) := by decide +kernel
theorem dX9_holds_39 : decode cX9_holds 39 = .ok (.iload_n 3, 1) := by decide +kernel
theorem dX9_holds_40 : decode cX9_holds 40 = .ok (.iadd, 1) := by decide +kernel
theorem dX9_holds_41 : decode cX9_holds 41 = .ok (.aload_n 0, 1) := by decide +kernel
theorem dX9_holds_42 : decode cX9_holds 42 = .ok (.getfield 13, 3) := by decide +kernel
theorem dX9_holds_45 : decode cX9_holds 45 = .ok (.bipush 120, 2) := by decide +kernel
theorem dX9_holds_47 : decode cX9_holds 47 = .ok (.iload_n 2, 1) := by decide +kernel
theorem dX9_holds_48 : decode cX9_holds 48 = .ok (.imul, 1) := by decide +kernel
theorem dX9_holds_49 : decode cX9_holds 49 = .ok (.iload_n 3, 1) := by decide +kernel
theorem dX9_holds_50 : decode cX9_holds 50 = .ok (.iadd, 1) := by decide +kernel
theorem dX9_holds_51 : decode cX9_holds 51 = .ok (.iaload, 1) := by decide +kernel
theorem dX9_holds_52 : decode cX9_holds 52 = .ok (.iastore, 1) := by decide +kernel
theorem dX9_holds_53 : decode cX9_holds 53 = .ok (.iinc 3 1, 3) := by decide +kernel
theorem dX9_holds_56 : decode cX9_holds 56 = .ok (.goto (-35), 3) := by decide +kernel
theorem dX9_holds_59 : decode cX9_holds 59 = .ok (.return_, 1) := by decide +kernel
theorem dX9_makes_0 : decode cX9_makes 0 = .ok (.iconst 0, 1) := by decide +kernel
theorem dX9_makes_1 : decode cX9_makes 1 = .ok (.istore_n 2, 1) := by decide +kernel
theorem dX9_makes_2 : decode cX9_makes 2 = .ok (.iload_n 1, 1) := by decide +kernel
theorem dX9_makes_3 : decode cX9_makes 3 = .ok (.istore_n 3, 1) := by decide +kernel
theorem dX9_makes_4 : decode cX9_makes 4 = .ok (.aload_n 0, 1) := by decide +kernel
theorem dX9_makes_5 : decode cX9_makes 5 = .ok (.getfield 57, 3) := by decide +kernel
theorem dX9_makes_8 : decode cX9_makes 8 = .ok (.iload_n 3, 1) := by decide +kernel
theorem dX9_makes_9 : decode cX9_makes 9 = .ok (.iaload, 1) := by decide +kernel
theorem dX9_makes_10 : decode cX9_makes 10 = .ok (.iconst 2, 1) := by decide +kernel
theorem dX9_makes_11 : decode cX9_makes 11 = .ok (.if_icmp .ne 23, 3) := by decide +kernel
theorem dX9_makes_14 : decode cX9_makes 14 = .ok (.aload_n 0, 1) := by decide +kernel
theorem dX9_makes_15 : decode cX9_makes 15 = .ok (.getfield 69, 3) := by decide +kernel
theorem dX9_makes_18 : decode cX9_makes 18 = .ok (.iload_n 2, 1) := by decide +kernel
theorem dX9_makes_19 : decode cX9_makes 19 = .ok (.iload_n 3, 1) := by decide +kernel
theorem dX9_makes_20 : decode cX9_makes 20 = .ok (.iastore, 1) := by decide +kernel
theorem dX9_makes_21 : decode cX9_makes 21 = .ok (.iinc 2 1, 3) := by decide +kernel
theorem dX9_makes_24 : decode cX9_makes 24 = .ok (.aload_n 0, 1) := by decide +kernel
theorem dX9_makes_25 : decode cX9_makes 25 = .ok (.getfield 60, 3) := by decide +kernel
theorem dX9_makes_28 : decode cX9_makes 28 = .ok (.iload_n 3, 1) := by decide +kernel
theorem dX9_makes_29 : decode cX9_makes 29 = .ok (.iaload, 1) := by decide +kernel
theorem dX9_makes_30 : decode cX9_makes 30 = .ok (.istore_n 3, 1) := by decide +kernel
theorem dX9_makes_31 : decode cX9_makes 31 = .ok (.goto (-27), 3) := by decide +kernel
theorem dX9_makes_34 : decode cX9_makes 34 = .ok (.aload_n 0, 1) := by decide +kernel
theorem dX9_makes_35 : decode cX9_makes 35 = .ok (.iconst (-1), 1) := by decide +kernel
theorem dX9_makes_36 : decode cX9_makes 36 = .ok (.putfield 183, 3) := by decide +kernel
theorem dX9_makes_39 : decode cX9_makes 39 = .ok (.aload_n 0, 1) := by decide +kernel
theorem dX9_makes_40 : decode cX9_makes 40 = .ok (.iconst (-1), 1) := by decide +kernel
theorem dX9_makes_41 : decode cX9_makes 41 = .ok (.putfield 186, 3) := by decide +kernel
theorem dX9_makes_44 : decode cX9_makes 44 = .ok (.aload_n 0, 1) := by decide +kernel
theorem dX9_makes_45 : decode cX9_makes 45 = .ok (.iconst (-1), 1) := by decide +kernel
theorem dX9_makes_46 : decode cX9_makes 46 = .ok (.putfield 189, 3) := by decide +kernel
theorem dX9_makes_49 : decode cX9_makes 49 = .ok (.aload_n 0, 1) := by decide +kernel
theorem dX9_makes_50 : decode cX9_makes 50 = .ok (.getfield 57, 3) := by decide +kernel
theorem dX9_makes_53 : decode cX9_makes 53 = .ok (.iload_n 3, 1) := by decide +kernel
theorem dX9_makes_54 : decode cX9_makes 54 = .ok (.iaload, 1) := by decide +kernel
theorem dX9_makes_55 : decode cX9_makes 55 = .ok (.ifCond .ne 20, 3) := by decide +kernel
theorem dX9_makes_58 : decode cX9_makes 58 = .ok (.aload_n 0, 1) := by decide +kernel
theorem dX9_makes_59 : decode cX9_makes 59 = .ok (.iload_n 3, 1) := by decide +kernel
theorem dX9_makes_60 : decode cX9_makes 60 = .ok (.putfield 183, 3) := by decide +kernel
theorem dX9_makes_63 : decode cX9_makes 63 = .ok (.aload_n 0, 1) := by decide +kernel
theorem dX9_makes_64 : decode cX9_makes 64 = .ok (.iload_n 2, 1) := by decide +kernel
theorem dX9_makes_65 : decode cX9_makes 65 = .ok (.putfield 186, 3) := by decide +kernel
theorem dX9_makes_68 : decode cX9_makes 68 = .ok (.aload_n 0, 1) := by decide +kernel
theorem dX9_makes_69 : decode cX9_makes 69 = .ok (.iconst 1, 1) := by decide +kernel
theorem dX9_makes_70 : decode cX9_makes 70 = .ok (.putfield 189, 3) := by decide +kernel
theorem dX9_makes_73 : decode cX9_makes 73 = .ok (.iconst 0, 1) := by decide +kernel
theorem dX9_makes_74 : decode cX9_makes 74 = .ok (.ireturn, 1) := by decide +kernel
theorem dX9_makes_75 : decode cX9_makes 75 = .ok (.aload_n 0, 1) := by decide +kernel
theorem dX9_makes_76 : decode cX9_makes 76 = .ok (.aload_n 0, 1) := by decide +kernel
theorem dX9_makes_77 : decode cX9_makes 77 = .ok (.getfield 63, 3) := by decide +kernel
theorem dX9_makes_80 : decode cX9_makes 80 = .ok (.iload_n 3, 1) := by decide +kernel
theorem dX9_makes_81 : decode cX9_makes 81 = .ok (.iaload, 1) := by decide +kernel
theorem dX9_makes_82 : decode cX9_makes 82 = .ok (.putfield 125, 3) := by decide +kernel
theorem dX9_makes_85 : decode cX9_makes 85 = .ok (.iconst 0, 1) := by decide +kernel
theorem dX9_makes_86 : decode cX9_makes 86 = .ok (.istore 4, 2) := by decide +kernel
theorem dX9_makes_88 : decode cX9_makes 88 = .ok (.iload 4, 2) := by decide +kernel
theorem dX9_makes_90 : decode cX9_makes 90 = .ok (.aload_n 0, 1) := by decide +kernel
theorem dX9_makes_91 : decode cX9_makes 91 = .ok (.getfield 125, 3) := by decide +kernel
theorem dX9_makes_94 : decode cX9_makes 94 = .ok (.if_icmp .ge 28, 3) := by decide +kernel
theorem dX9_makes_97 : decode cX9_makes 97 = .ok (.aload_n 0, 1) := by decide +kernel
theorem dX9_makes_98 : decode cX9_makes 98 = .ok (.getfield 72, 3) := by decide +kernel
theorem dX9_makes_101 : decode cX9_makes 101 = .ok (.iload 4, 2) := by decide +kernel
theorem dX9_makes_103 : decode cX9_makes 103 = .ok (.aload_n 0, 1) := by decide +kernel
theorem dX9_makes_104 : decode cX9_makes 104 = .ok (.getfield 66, 3) := by decide +kernel
theorem dX9_makes_107 : decode cX9_makes 107 = .ok (.bipush 120, 2) := by decide +kernel
theorem dX9_makes_109 : decode cX9_makes 109 = .ok (.iload_n 3, 1) := by decide +kernel
theorem dX9_makes_110 : decode cX9_makes 110 = .ok (.imul, 1) := by decide +kernel
theorem dX9_makes_111 : decode cX9_makes 111 = .ok (.iload 4, 2) := by decide +kernel
theorem dX9_makes_113 : decode cX9_makes 113 = .ok (.iadd, 1) := by decide +kernel
theorem dX9_makes_114 : decode cX9_makes 114 = .ok (.iaload, 1) := by decide +kernel
theorem dX9_makes_115 : decode cX9_makes 115 = .ok (.iastore, 1) := by decide +kernel
theorem dX9_makes_116 : decode cX9_makes 116 = .ok (.iinc 4 1, 3) := by decide +kernel
theorem dX9_makes_119 : decode cX9_makes 119 = .ok (.goto (-31), 3) := by decide +kernel
theorem dX9_makes_122 : decode cX9_makes 122 = .ok (.iload_n 2, 1) := by decide +kernel
theorem dX9_makes_123 : decode cX9_makes 123 = .ok (.iconst 1, 1) := by decide +kernel
theorem dX9_makes_124 : decode cX9_makes 124 = .ok (.isub, 1) := by decide +kernel
theorem dX9_makes_125 : decode cX9_makes 125 = .ok (.istore 4, 2) := by decide +kernel
theorem dX9_makes_127 : decode cX9_makes 127 = .ok (.iload 4, 2) := by decide +kernel
theorem dX9_makes_129 : decode cX9_makes 129 = .ok (.ifCond .lt 62, 3) := by decide +kernel
theorem dX9_makes_132 : decode cX9_makes 132 = .ok (.aload_n 0, 1) := by decide +kernel
theorem dX9_makes_133 : decode cX9_makes 133 = .ok (.iconst 4, 1) := by decide +kernel
theorem dX9_makes_134 : decode cX9_makes 134 = .ok (.aload_n 0, 1) := by decide +kernel
theorem dX9_makes_135 : decode cX9_makes 135 = .ok (.getfield 69, 3) := by decide +kernel
theorem dX9_makes_138 : decode cX9_makes 138 = .ok (.iload 4, 2) := by decide +kernel
theorem dX9_makes_140 : decode cX9_makes 140 = .ok (.iaload, 1) := by decide +kernel
theorem dX9_makes_141 : decode cX9_makes 141 = .ok (.iadd, 1) := by decide +kernel
theorem dX9_makes_142 : decode cX9_makes 142 = .ok (.invokevirtual 171, 3) := by decide +kernel
theorem dX9_makes_145 : decode cX9_makes 145 = .ok (.ifCond .eq 27, 3) := by decide +kernel
theorem dX9_makes_148 : decode cX9_makes 148 = .ok (.aload_n 0, 1) := by decide +kernel
theorem dX9_makes_149 : decode cX9_makes 149 = .ok (.aload_n 0, 1) := by decide +kernel
theorem dX9_makes_150 : decode cX9_makes 150 = .ok (.getfield 69, 3) := by decide +kernel
theorem dX9_makes_153 : decode cX9_makes 153 = .ok (.iload 4, 2) := by decide +kernel
theorem dX9_makes_155 : decode cX9_makes 155 = .ok (.iaload, 1) := by decide +kernel
theorem dX9_makes_156 : decode cX9_makes 156 = .ok (.putfield 183, 3) := by decide +kernel
theorem dX9_makes_159 : decode cX9_makes 159 = .ok (.aload_n 0, 1) := by decide +kernel
theorem dX9_makes_160 : decode cX9_makes 160 = .ok (.iload 4, 2) := by decide +kernel
theorem dX9_makes_162 : decode cX9_makes 162 = .ok (.putfield 186, 3) := by decide +kernel
theorem dX9_makes_165 : decode cX9_makes 165 = .ok (.aload_n 0, 1) := by decide +kernel
theorem dX9_makes_166 : decode cX9_makes 166 = .ok (.iconst 2, 1) := by decide +kernel
theorem dX9_makes_167 : decode cX9_makes 167 = .ok (.putfield 189, 3) := by decide +kernel
theorem dX9_makes_170 : decode cX9_makes 170 = .ok (.iconst 0, 1) := by decide +kernel
theorem dX9_makes_171 : decode cX9_makes 171 = .ok (.ireturn, 1) := by decide +kernel
theorem dX9_makes_172 : decode cX9_makes 172 = .ok (.aload_n 0, 1) := by decide +kernel
theorem dX9_makes_173 : decode cX9_makes 173 = .ok (.iconst 4, 1) := by decide +kernel
theorem dX9_makes_174 : decode cX9_makes 174 = .ok (.aload_n 0, 1) := by decide +kernel
theorem dX9_makes_175 : decode cX9_makes 175 = .ok (.getfield 69, 3) := by decide +kernel
theorem dX9_makes_178 : decode cX9_makes 178 = .ok (.iload 4, 2) := by decide +kernel
theorem dX9_makes_180 : decode cX9_makes 180 = .ok (.iaload, 1) := by decide +kernel
theorem dX9_makes_181 : decode cX9_makes 181 = .ok (.iadd, 1) := by decide +kernel
theorem dX9_makes_182 : decode cX9_makes 182 = .ok (.invokevirtual 174, 3) := by decide +kernel
theorem dX9_makes_185 : decode cX9_makes 185 = .ok (.iinc 4 (-1), 3) := by decide +kernel
theorem dX9_makes_188 : decode cX9_makes 188 = .ok (.goto (-61), 3) := by decide +kernel
theorem dX9_makes_191 : decode cX9_makes 191 = .ok (.iconst 1, 1) := by decide +kernel
theorem dX9_makes_192 : decode cX9_makes 192 = .ok (.ireturn, 1) := by decide +kernel
theorem dX9_keep_0 : decode cX9_keep 0 = .ok (.aload_n 0, 1) := by decide +kernel
theorem dX9_keep_1 : decode cX9_keep 1 = .ok (.aload_n 0, 1) := by decide +kernel
theorem dX9_keep_2 : decode cX9_keep 2 = .ok (.iload_n 1, 1) := by decide +kernel
theorem dX9_keep_3 : decode cX9_keep 3 = .ok (.invokevirtual 114, 3) := by decide +kernel
theorem dX9_keep_6 : decode cX9_keep 6 = .ok (.aload_n 0, 1) := by decide +kernel
theorem dX9_keep_7 : decode cX9_keep 7 = .ok (.getfield 180, 3) := by decide +kernel
theorem dX9_keep_10 : decode cX9_keep 10 = .ok (.bipush 20, 2) := by decide +kernel
theorem dX9_keep_12 : decode cX9_keep 12 = .ok (.if_icmp .ge 7, 3) := by decide +kernel
theorem dX9_keep_15 : decode cX9_keep 15 = .ok (.iconst 1, 1) := by decide +kernel
theorem dX9_keep_16 : decode cX9_keep 16 = .ok (.goto 4, 3) := by decide +kernel
theorem dX9_keep_19 : decode cX9_keep 19 = .ok (.iconst 0, 1) := by decide +kernel
theorem dX9_keep_20 : decode cX9_keep 20 = .ok (.invokevirtual 121, 3) := by decide +kernel
theorem dX9_keep_23 : decode cX9_keep 23 = .ok (.ifCond .ne 5, 3) := by decide +kernel
theorem dX9_keep_26 : decode cX9_keep 26 = .ok (.iconst 0, 1) := by decide +kernel
theorem dX9_keep_27 : decode cX9_keep 27 = .ok (.ireturn, 1) := by decide +kernel
theorem dX9_keep_28 : decode cX9_keep 28 = .ok (.aload_n 0, 1) := by decide +kernel
theorem dX9_keep_29 : decode cX9_keep 29 = .ok (.aload_n 0, 1) := by decide +kernel
theorem dX9_keep_30 : decode cX9_keep 30 = .ok (.getfield 180, 3) := by decide +kernel
theorem dX9_keep_33 : decode cX9_keep 33 = .ok (.iload_n 1, 1) := by decide +kernel
theorem dX9_keep_34 : decode cX9_keep 34 = .ok (.invokevirtual 192, 3) := by decide +kernel
theorem dX9_keep_37 : decode cX9_keep 37 = .ok (.aload_n 0, 1) := by decide +kernel
theorem dX9_keep_38 : decode cX9_keep 38 = .ok (.dup, 1) := by decide +kernel
theorem dX9_keep_39 : decode cX9_keep 39 = .ok (.getfield 180, 3) := by decide +kernel
theorem dX9_keep_42 : decode cX9_keep 42 = .ok (.iconst 1, 1) := by decide +kernel
theorem dX9_keep_43 : decode cX9_keep 43 = .ok (.iadd, 1) := by decide +kernel
theorem dX9_keep_44 : decode cX9_keep 44 = .ok (.putfield 180, 3) := by decide +kernel
theorem dX9_keep_47 : decode cX9_keep 47 = .ok (.aload_n 0, 1) := by decide +kernel
theorem dX9_keep_48 : decode cX9_keep 48 = .ok (.getfield 180, 3) := by decide +kernel
theorem dX9_keep_51 : decode cX9_keep 51 = .ok (.iconst 1, 1) := by decide +kernel
theorem dX9_keep_52 : decode cX9_keep 52 = .ok (.isub, 1) := by decide +kernel
theorem dX9_keep_53 : decode cX9_keep 53 = .ok (.ireturn, 1) := by decide +kernel
theorem dX9_keepDelta_0 : decode cX9_keepDelta 0 = .ok (.aload_n 0, 1) := by decide +kernel
theorem dX9_keepDelta_1 : decode cX9_keepDelta 1 = .ok (.iload_n 1, 1) := by decide +kernel
theorem dX9_keepDelta_2 : decode cX9_keepDelta 2 = .ok (.invokevirtual 114, 3) := by decide +kernel
theorem dX9_keepDelta_5 : decode cX9_keepDelta 5 = .ok (.ifCond .eq 15, 3) := by decide +kernel
theorem dX9_keepDelta_8 : decode cX9_keepDelta 8 = .ok (.aload_n 0, 1) := by decide +kernel
theorem dX9_keepDelta_9 : decode cX9_keepDelta 9 = .ok (.iload_n 2, 1) := by decide +kernel
theorem dX9_keepDelta_10 : decode cX9_keepDelta 10 = .ok (.invokevirtual 196, 3) := by decide +kernel
theorem dX9_keepDelta_13 : decode cX9_keepDelta 13 = .ok (.ifCond .eq 7, 3) := by decide +kernel
theorem dX9_keepDelta_16 : decode cX9_keepDelta 16 = .ok (.iconst 1, 1) := by decide +kernel
theorem dX9_keepDelta_17 : decode cX9_keepDelta 17 = .ok (.goto 4, 3) := by decide +kernel
theorem dX9_keepDelta_20 : decode cX9_keepDelta 20 = .ok (.iconst 0, 1) := by decide +kernel
theorem dX9_keepDelta_21 : decode cX9_keepDelta 21 = .ok (.istore 4, 2) := by decide +kernel
theorem dX9_keepDelta_23 : decode cX9_keepDelta 23 = .ok (.iload_n 3, 1) := by decide +kernel
theorem dX9_keepDelta_24 : decode cX9_keepDelta 24 = .ok (.iconst 1, 1) := by decide +kernel
theorem dX9_keepDelta_25 : decode cX9_keepDelta 25 = .ok (.if_icmp .lt 13, 3) := by decide +kernel
theorem dX9_keepDelta_28 : decode cX9_keepDelta 28 = .ok (.iload_n 3, 1) := by decide +kernel
theorem dX9_keepDelta_29 : decode cX9_keepDelta 29 = .ok (.bipush 7, 2) := by decide +kernel
theorem dX9_keepDelta_31 : decode cX9_keepDelta 31 = .ok (.if_icmp .gt 7, 3) := by decide +kernel
theorem dX9_keepDelta_34 : decode cX9_keepDelta 34 = .ok (.iconst 1, 1) := by decide +kernel
theorem dX9_keepDelta_35 : decode cX9_keepDelta 35 = .ok (.goto 4, 3) := by decide +kernel
theorem dX9_keepDelta_38 : decode cX9_keepDelta 38 = .ok (.iconst 0, 1) := by decide +kernel
theorem dX9_keepDelta_39 : decode cX9_keepDelta 39 = .ok (.istore 5, 2) := by decide +kernel
theorem dX9_keepDelta_41 : decode cX9_keepDelta 41 = .ok (.aload_n 0, 1) := by decide +kernel
theorem dX9_keepDelta_42 : decode cX9_keepDelta 42 = .ok (.iload 4, 2) := by decide +kernel
theorem dX9_keepDelta_44 : decode cX9_keepDelta 44 = .ok (.iload 5, 2) := by decide +kernel
theorem dX9_keepDelta_46 : decode cX9_keepDelta 46 = .ok (.iload 4, 2) := by decide +kernel
theorem dX9_keepDelta_48 : decode cX9_keepDelta 48 = .ok (.ifCond .eq 24, 3) := by decide +kernel
theorem dX9_keepDelta_51 : decode cX9_keepDelta 51 = .ok (.aload_n 0, 1) := by decide +kernel
theorem dX9_keepDelta_52 : decode cX9_keepDelta 52 = .ok (.getfield 180, 3) := by decide +kernel
theorem dX9_keepDelta_55 : decode cX9_keepDelta 55 = .ok (.bipush 20, 2) := by decide +kernel
theorem dX9_keepDelta_57 : decode cX9_keepDelta 57 = .ok (.if_icmp .ge 15, 3) := by decide +kernel
theorem dX9_keepDelta_60 : decode cX9_keepDelta 60 = .ok (.aload_n 0, 1) := by decide +kernel
theorem dX9_keepDelta_61 : decode cX9_keepDelta 61 = .ok (.iload_n 2, 1) := by decide +kernel
theorem dX9_keepDelta_62 : decode cX9_keepDelta 62 = .ok (.invokevirtual 199, 3) := by decide +kernel
theorem dX9_keepDelta_65 : decode cX9_keepDelta 65 = .ok (.ifCond .eq 7, 3) := by decide +kernel
theorem dX9_keepDelta_68 : decode cX9_keepDelta 68 = .ok (.iconst 1, 1) := by decide +kernel
theorem dX9_keepDelta_69 : decode cX9_keepDelta 69 = .ok (.goto 4, 3) := by decide +kernel
theorem dX9_keepDelta_72 : decode cX9_keepDelta 72 = .ok (.iconst 0, 1) := by decide +kernel
theorem dX9_keepDelta_73 : decode cX9_keepDelta 73 = .ok (.invokevirtual 117, 3) := by decide +kernel
theorem dX9_keepDelta_76 : decode cX9_keepDelta 76 = .ok (.ifCond .ne 5, 3) := by decide +kernel
theorem dX9_keepDelta_79 : decode cX9_keepDelta 79 = .ok (.iconst 0, 1) := by decide +kernel
theorem dX9_keepDelta_80 : decode cX9_keepDelta 80 = .ok (.ireturn, 1) := by decide +kernel
theorem dX9_keepDelta_81 : decode cX9_keepDelta 81 = .ok (.aload_n 0, 1) := by decide +kernel
theorem dX9_keepDelta_82 : decode cX9_keepDelta 82 = .ok (.iconst 4, 1) := by decide +kernel
theorem dX9_keepDelta_83 : decode cX9_keepDelta 83 = .ok (.iload_n 3, 1) := by decide +kernel
theorem dX9_keepDelta_84 : decode cX9_keepDelta 84 = .ok (.sipush 256, 3) := by decide +kernel
theorem dX9_keepDelta_87 : decode cX9_keepDelta 87 = .ok (.invokevirtual 149, 3) := by decide +kernel
theorem dX9_keepDelta_90 : decode cX9_keepDelta 90 = .ok (.aload_n 0, 1) := by decide +kernel
theorem dX9_keepDelta_91 : decode cX9_keepDelta 91 = .ok (.getfield 180, 3) := by decide +kernel
theorem dX9_keepDelta_94 : decode cX9_keepDelta 94 = .ok (.istore 6, 2) := by decide +kernel
theorem dX9_keepDelta_96 : decode cX9_keepDelta 96 = .ok (.aload_n 0, 1) := by decide +kernel
theorem dX9_keepDelta_97 : decode cX9_keepDelta 97 = .ok (.getfield 57, 3) := by decide +kernel
theorem dX9_keepDelta_100 : decode cX9_keepDelta 100 = .ok (.iload 6, 2) := by decide +kernel
theorem dX9_keepDelta_102 : decode cX9_keepDelta 102 = .ok (.iconst 2, 1) := by decide +kernel
theorem dX9_keepDelta_103 : decode cX9_keepDelta 103 = .ok (.iastore, 1) := by decide +kernel
theorem dX9_keepDelta_104 : decode cX9_keepDelta 104 = .ok (.aload_n 0, 1) := by decide +kernel
theorem dX9_keepDelta_105 : decode cX9_keepDelta 105 = .ok (.getfield 60, 3) := by decide +kernel
theorem dX9_keepDelta_108 : decode cX9_keepDelta 108 = .ok (.iload 6, 2) := by decide +kernel
theorem dX9_keepDelta_110 : decode cX9_keepDelta 110 = .ok (.iload_n 2, 1) := by decide +kernel
theorem dX9_keepDelta_111 : decode cX9_keepDelta 111 = .ok (.iastore, 1) := by decide +kernel
theorem dX9_keepDelta_112 : decode cX9_keepDelta 112 = .ok (.aload_n 0, 1) := by decide +kernel
theorem dX9_keepDelta_113 : decode cX9_keepDelta 113 = .ok (.iconst 4, 1) := by decide +kernel
theorem dX9_keepDelta_114 : decode cX9_keepDelta 114 = .ok (.iload 6, 2) := by decide +kernel
theorem dX9_keepDelta_116 : decode cX9_keepDelta 116 = .ok (.iadd, 1) := by decide +kernel
theorem dX9_keepDelta_117 : decode cX9_keepDelta 117 = .ok (.iconst 4, 1) := by decide +kernel
theorem dX9_keepDelta_118 : decode cX9_keepDelta 118 = .ok (.iload_n 1, 1) := by decide +kernel
theorem dX9_keepDelta_119 : decode cX9_keepDelta 119 = .ok (.invokevirtual 161, 3) := by decide +kernel
theorem dX9_keepDelta_122 : decode cX9_keepDelta 122 = .ok (.aload_n 0, 1) := by decide +kernel
theorem dX9_keepDelta_123 : decode cX9_keepDelta 123 = .ok (.dup, 1) := by decide +kernel
theorem dX9_keepDelta_124 : decode cX9_keepDelta 124 = .ok (.getfield 180, 3) := by decide +kernel
theorem dX9_keepDelta_127 : decode cX9_keepDelta 127 = .ok (.iconst 1, 1) := by decide +kernel
theorem dX9_keepDelta_128 : decode cX9_keepDelta 128 = .ok (.iadd, 1) := by decide +kernel
theorem dX9_keepDelta_129 : decode cX9_keepDelta 129 = .ok (.putfield 180, 3) := by decide +kernel
theorem dX9_keepDelta_132 : decode cX9_keepDelta 132 = .ok (.iload 6, 2) := by decide +kernel
theorem dX9_keepDelta_134 : decode cX9_keepDelta 134 = .ok (.ireturn, 1) := by decide +kernel
theorem dX9_heldOf_0 : decode cX9_heldOf 0 = .ok (.aload_n 0, 1) := by decide +kernel
theorem dX9_heldOf_1 : decode cX9_heldOf 1 = .ok (.getfield 57, 3) := by decide +kernel
theorem dX9_heldOf_4 : decode cX9_heldOf 4 = .ok (.iload_n 1, 1) := by decide +kernel
theorem dX9_heldOf_5 : decode cX9_heldOf 5 = .ok (.iaload, 1) := by decide +kernel
theorem dX9_heldOf_6 : decode cX9_heldOf 6 = .ok (.ifCond .ne 7, 3) := by decide +kernel
theorem dX9_heldOf_9 : decode cX9_heldOf 9 = .ok (.iconst 0, 1) := by decide +kernel
theorem dX9_heldOf_10 : decode cX9_heldOf 10 = .ok (.goto 29, 3) := by decide +kernel
theorem dX9_heldOf_13 : decode cX9_heldOf 13 = .ok (.aload_n 0, 1) := by decide +kernel
theorem dX9_heldOf_14 : decode cX9_heldOf 14 = .ok (.getfield 57, 3) := by decide +kernel
theorem dX9_heldOf_17 : decode cX9_heldOf 17 = .ok (.iload_n 1, 1) := by decide +kernel
theorem dX9_heldOf_18 : decode cX9_heldOf 18 = .ok (.iaload, 1) := by decide +kernel
theorem dX9_heldOf_19 : decode cX9_heldOf 19 = .ok (.iconst 1, 1) := by decide +kernel
theorem dX9_heldOf_20 : decode cX9_heldOf 20 = .ok (.if_icmp .ne 12, 3) := by decide +kernel
theorem dX9_heldOf_23 : decode cX9_heldOf 23 = .ok (.aload_n 0, 1) := by decide +kernel
theorem dX9_heldOf_24 : decode cX9_heldOf 24 = .ok (.getfield 63, 3) := by decide +kernel
theorem dX9_heldOf_27 : decode cX9_heldOf 27 = .ok (.iload_n 1, 1) := by decide +kernel
theorem dX9_heldOf_28 : decode cX9_heldOf 28 = .ok (.iaload, 1) := by decide +kernel
theorem dX9_heldOf_29 : decode cX9_heldOf 29 = .ok (.goto 10, 3) := by decide +kernel
theorem dX9_heldOf_32 : decode cX9_heldOf 32 = .ok (.aload_n 0, 1) := by decide +kernel
theorem dX9_heldOf_33 : decode cX9_heldOf 33 = .ok (.iconst 4, 1) := by decide +kernel
theorem dX9_heldOf_34 : decode cX9_heldOf 34 = .ok (.iload_n 1, 1) := by decide +kernel
theorem dX9_heldOf_35 : decode cX9_heldOf 35 = .ok (.iadd, 1) := by decide +kernel
theorem dX9_heldOf_36 : decode cX9_heldOf 36 = .ok (.invokevirtual 167, 3) := by decide +kernel
theorem dX9_heldOf_39 : decode cX9_heldOf 39 = .ok (.ireturn, 1) := by decide +kernel
theorem dX9_lose_0 : decode cX9_lose 0 = .ok (.aload_n 0, 1) := by decide +kernel
theorem dX9_lose_1 : decode cX9_lose 1 = .ok (.aload_n 0, 1) := by decide +kernel
theorem dX9_lose_2 : decode cX9_lose 2 = .ok (.iload_n 1, 1) := by decide +kernel
theorem dX9_lose_3 : decode cX9_lose 3 = .ok (.invokevirtual 196, 3) := by decide +kernel
theorem dX9_lose_6 : decode cX9_lose 6 = .ok (.invokevirtual 106, 3) := by decide +kernel
theorem dX9_lose_9 : decode cX9_lose 9 = .ok (.ifCond .ne 5, 3) := by decide +kernel
theorem dX9_lose_12 : decode cX9_lose 12 = .ok (.iconst 0, 1) := by decide +kernel
theorem dX9_lose_13 : decode cX9_lose 13 = .ok (.ireturn, 1) := by decide +kernel
theorem dX9_lose_14 : decode cX9_lose 14 = .ok (.aload_n 0, 1) := by decide +kernel
theorem dX9_lose_15 : decode cX9_lose 15 = .ok (.iload_n 1, 1) := by decide +kernel
theorem dX9_lose_16 : decode cX9_lose 16 = .ok (.invokevirtual 202, 3) := by decide +kernel
theorem dX9_lose_19 : decode cX9_lose 19 = .ok (.istore_n 2, 1) := by decide +kernel
theorem dX9_lose_20 : decode cX9_lose 20 = .ok (.aload_n 0, 1) := by decide +kernel
theorem dX9_lose_21 : decode cX9_lose 21 = .ok (.getfield 57, 3) := by decide +kernel
theorem dX9_lose_24 : decode cX9_lose 24 = .ok (.iload_n 1, 1) := by decide +kernel
theorem dX9_lose_25 : decode cX9_lose 25 = .ok (.iconst 0, 1) := by decide +kernel
theorem dX9_lose_26 : decode cX9_lose 26 = .ok (.iastore, 1) := by decide +kernel
theorem dX9_lose_27 : decode cX9_lose 27 = .ok (.iload_n 2, 1) := by decide +kernel
theorem dX9_lose_28 : decode cX9_lose 28 = .ok (.ireturn, 1) := by decide +kernel
theorem dX9_replace_0 : decode cX9_replace 0 = .ok (.aload_n 0, 1) := by decide +kernel
theorem dX9_replace_1 : decode cX9_replace 1 = .ok (.aload_n 0, 1) := by decide +kernel
theorem dX9_replace_2 : decode cX9_replace 2 = .ok (.iload_n 1, 1) := by decide +kernel
theorem dX9_replace_3 : decode cX9_replace 3 = .ok (.invokevirtual 196, 3) := by decide +kernel
theorem dX9_replace_6 : decode cX9_replace 6 = .ok (.ifCond .eq 15, 3) := by decide +kernel
theorem dX9_replace_9 : decode cX9_replace 9 = .ok (.aload_n 0, 1) := by decide +kernel
theorem dX9_replace_10 : decode cX9_replace 10 = .ok (.iload_n 2, 1) := by decide +kernel
theorem dX9_replace_11 : decode cX9_replace 11 = .ok (.invokevirtual 114, 3) := by decide +kernel
theorem dX9_replace_14 : decode cX9_replace 14 = .ok (.ifCond .eq 7, 3) := by decide +kernel
theorem dX9_replace_17 : decode cX9_replace 17 = .ok (.iconst 1, 1) := by decide +kernel
theorem dX9_replace_18 : decode cX9_replace 18 = .ok (.goto 4, 3) := by decide +kernel
theorem dX9_replace_21 : decode cX9_replace 21 = .ok (.iconst 0, 1) := by decide +kernel
theorem dX9_replace_22 : decode cX9_replace 22 = .ok (.invokevirtual 106, 3) := by decide +kernel
theorem dX9_replace_25 : decode cX9_replace 25 = .ok (.ifCond .eq 9, 3) := by decide +kernel
theorem dX9_replace_28 : decode cX9_replace 28 = .ok (.aload_n 0, 1) := by decide +kernel
theorem dX9_replace_29 : decode cX9_replace 29 = .ok (.iload_n 1, 1) := by decide +kernel
theorem dX9_replace_30 : decode cX9_replace 30 = .ok (.iload_n 2, 1) := by decide +kernel
theorem dX9_replace_31 : decode cX9_replace 31 = .ok (.invokevirtual 192, 3) := by decide +kernel
theorem dX9_replace_34 : decode cX9_replace 34 = .ok (.return_, 1) := by decide +kernel
theorem dX9_rebuild_0 : decode cX9_rebuild 0 = .ok (.aload_n 0, 1) := by decide +kernel
theorem dX9_rebuild_1 : decode cX9_rebuild 1 = .ok (.iload_n 1, 1) := by decide +kernel
theorem dX9_rebuild_2 : decode cX9_rebuild 2 = .ok (.invokevirtual 196, 3) := by decide +kernel
theorem dX9_rebuild_5 : decode cX9_rebuild 5 = .ok (.ifCond .eq 15, 3) := by decide +kernel
theorem dX9_rebuild_8 : decode cX9_rebuild 8 = .ok (.aload_n 0, 1) := by decide +kernel
theorem dX9_rebuild_9 : decode cX9_rebuild 9 = .ok (.iload_n 2, 1) := by decide +kernel
theorem dX9_rebuild_10 : decode cX9_rebuild 10 = .ok (.invokevirtual 114, 3) := by decide +kernel
theorem dX9_rebuild_13 : decode cX9_rebuild 13 = .ok (.ifCond .eq 7, 3) := by decide +kernel
theorem dX9_rebuild_16 : decode cX9_rebuild 16 = .ok (.iconst 1, 1) := by decide +kernel
theorem dX9_rebuild_17 : decode cX9_rebuild 17 = .ok (.goto 4, 3) := by decide +kernel
theorem dX9_rebuild_20 : decode cX9_rebuild 20 = .ok (.iconst 0, 1) := by decide +kernel
theorem dX9_rebuild_21 : decode cX9_rebuild 21 = .ok (.istore_n 3, 1) := by decide +kernel
theorem dX9_rebuild_22 : decode cX9_rebuild 22 = .ok (.aload_n 0, 1) := by decide +kernel
theorem dX9_rebuild_23 : decode cX9_rebuild 23 = .ok (.iload_n 3, 1) := by decide +kernel
theorem dX9_rebuild_24 : decode cX9_rebuild 24 = .ok (.iload_n 3, 1) := by decide +kernel
theorem dX9_rebuild_25 : decode cX9_rebuild 25 = .ok (.ifCond .eq 15, 3) := by decide +kernel
theorem dX9_rebuild_28 : decode cX9_rebuild 28 = .ok (.aload_n 0, 1) := by decide +kernel
theorem dX9_rebuild_29 : decode cX9_rebuild 29 = .ok (.iload_n 1, 1) := by decide +kernel
theorem dX9_rebuild_30 : decode cX9_rebuild 30 = .ok (.invokevirtual 199, 3) := by decide +kernel
theorem dX9_rebuild_33 : decode cX9_rebuild 33 = .ok (.ifCond .eq 7, 3) := by decide +kernel
theorem dX9_rebuild_36 : decode cX9_rebuild 36 = .ok (.iconst 1, 1) := by decide +kernel
theorem dX9_rebuild_37 : decode cX9_rebuild 37 = .ok (.goto 4, 3) := by decide +kernel
theorem dX9_rebuild_40 : decode cX9_rebuild 40 = .ok (.iconst 0, 1) := by decide +kernel
theorem dX9_rebuild_41 : decode cX9_rebuild 41 = .ok (.invokevirtual 121, 3) := by decide +kernel
theorem dX9_rebuild_44 : decode cX9_rebuild 44 = .ok (.ifCond .eq 11, 3) := by decide +kernel
theorem dX9_rebuild_47 : decode cX9_rebuild 47 = .ok (.aload_n 0, 1) := by decide +kernel
theorem dX9_rebuild_48 : decode cX9_rebuild 48 = .ok (.iload_n 2, 1) := by decide +kernel
theorem dX9_rebuild_49 : decode cX9_rebuild 49 = .ok (.invokevirtual 177, 3) := by decide +kernel
theorem dX9_rebuild_52 : decode cX9_rebuild 52 = .ok (.goto 4, 3) := by decide +kernel
theorem dX9_rebuild_55 : decode cX9_rebuild 55 = .ok (.iconst 0, 1) := by decide +kernel
theorem dX9_rebuild_56 : decode cX9_rebuild 56 = .ok (.ireturn, 1) := by decide +kernel
theorem dX9_versions_0 : decode cX9_versions 0 = .ok (.aload_n 0, 1) := by decide +kernel
theorem dX9_versions_1 : decode cX9_versions 1 = .ok (.iconst 0, 1) := by decide +kernel
theorem dX9_versions_2 : decode cX9_versions 2 = .ok (.putfield 100, 3) := by decide +kernel
theorem dX9_versions_5 : decode cX9_versions 5 = .ok (.aload_n 0, 1) := by decide +kernel
theorem dX9_versions_6 : decode cX9_versions 6 = .ok (.getfield 180, 3) := by decide +kernel
theorem dX9_versions_9 : decode cX9_versions 9 = .ok (.ireturn, 1) := by decide +kernel
theorem dX9_brokenAt_0 : decode cX9_brokenAt 0 = .ok (.aload_n 0, 1) := by decide +kernel
theorem dX9_brokenAt_1 : decode cX9_brokenAt 1 = .ok (.aload_n 0, 1) := by decide +kernel
theorem dX9_brokenAt_2 : decode cX9_brokenAt 2 = .ok (.iload_n 1, 1) := by decide +kernel
theorem dX9_brokenAt_3 : decode cX9_brokenAt 3 = .ok (.invokevirtual 196, 3) := by decide +kernel
theorem dX9_brokenAt_6 : decode cX9_brokenAt 6 = .ok (.invokevirtual 106, 3) := by decide +kernel
theorem dX9_brokenAt_9 : decode cX9_brokenAt 9 = .ok (.ifCond .ne 5, 3) := by decide +kernel
theorem dX9_brokenAt_12 : decode cX9_brokenAt 12 = .ok (.iconst 0, 1) := by decide +kernel
theorem dX9_brokenAt_13 : decode cX9_brokenAt 13 = .ok (.ireturn, 1) := by decide +kernel
theorem dX9_brokenAt_14 : decode cX9_brokenAt 14 = .ok (.aload_n 0, 1) := by decide +kernel
theorem dX9_brokenAt_15 : decode cX9_brokenAt 15 = .ok (.iload_n 1, 1) := by decide +kernel
theorem dX9_brokenAt_16 : decode cX9_brokenAt 16 = .ok (.invokevirtual 199, 3) := by decide +kernel
theorem dX9_brokenAt_19 : decode cX9_brokenAt 19 = .ok (.pop, 1) := by decide +kernel
theorem dX9_brokenAt_20 : decode cX9_brokenAt 20 = .ok (.aload_n 0, 1) := by decide +kernel
theorem dX9_brokenAt_21 : decode cX9_brokenAt 21 = .ok (.getfield 183, 3) := by decide +kernel
theorem dX9_brokenAt_24 : decode cX9_brokenAt 24 = .ok (.ireturn, 1) := by decide +kernel
theorem dX9_brokenAfter_0 : decode cX9_brokenAfter 0 = .ok (.aload_n 0, 1) := by decide +kernel
theorem dX9_brokenAfter_1 : decode cX9_brokenAfter 1 = .ok (.aload_n 0, 1) := by decide +kernel
theorem dX9_brokenAfter_2 : decode cX9_brokenAfter 2 = .ok (.iload_n 1, 1) := by decide +kernel
theorem dX9_brokenAfter_3 : decode cX9_brokenAfter 3 = .ok (.invokevirtual 196, 3) := by decide +kernel
theorem dX9_brokenAfter_6 : decode cX9_brokenAfter 6 = .ok (.invokevirtual 106, 3) := by decide +kernel
theorem dX9_brokenAfter_9 : decode cX9_brokenAfter 9 = .ok (.ifCond .ne 5, 3) := by decide +kernel
theorem dX9_brokenAfter_12 : decode cX9_brokenAfter 12 = .ok (.iconst 0, 1) := by decide +kernel
theorem dX9_brokenAfter_13 : decode cX9_brokenAfter 13 = .ok (.ireturn, 1) := by decide +kernel
theorem dX9_brokenAfter_14 : decode cX9_brokenAfter 14 = .ok (.aload_n 0, 1) := by decide +kernel
theorem dX9_brokenAfter_15 : decode cX9_brokenAfter 15 = .ok (.iload_n 1, 1) := by decide +kernel
theorem dX9_brokenAfter_16 : decode cX9_brokenAfter 16 = .ok (.invokevirtual 199, 3) := by decide +kernel
theorem dX9_brokenAfter_19 : decode cX9_brokenAfter 19 = .ok (.pop, 1) := by decide +kernel
theorem dX9_brokenAfter_20 : decode cX9_brokenAfter 20 = .ok (.aload_n 0, 1) := by decide +kernel
theorem dX9_brokenAfter_21 : decode cX9_brokenAfter 21 = .ok (.getfield 186, 3) := by decide +kernel
theorem dX9_brokenAfter_24 : decode cX9_brokenAfter 24 = .ok (.ireturn, 1) := by decide +kernel
theorem dX9_reason_0 : decode cX9_reason 0 = .ok (.aload_n 0, 1) := by decide +kernel
theorem dX9_reason_1 : decode cX9_reason 1 = .ok (.aload_n 0, 1) := by decide +kernel
theorem dX9_reason_2 : decode cX9_reason 2 = .ok (.iload_n 1, 1) := by decide +kernel
theorem dX9_reason_3 : decode cX9_reason 3 = .ok (.invokevirtual 196, 3) := by decide +kernel
theorem dX9_reason_6 : decode cX9_reason 6 = .ok (.invokevirtual 106, 3) := by decide +kernel
theorem dX9_reason_9 : decode cX9_reason 9 = .ok (.ifCond .ne 5, 3) := by decide +kernel
theorem dX9_reason_12 : decode cX9_reason 12 = .ok (.iconst 0, 1) := by decide +kernel
theorem dX9_reason_13 : decode cX9_reason 13 = .ok (.ireturn, 1) := by decide +kernel
theorem dX9_reason_14 : decode cX9_reason 14 = .ok (.aload_n 0, 1) := by decide +kernel
theorem dX9_reason_15 : decode cX9_reason 15 = .ok (.iload_n 1, 1) := by decide +kernel
theorem dX9_reason_16 : decode cX9_reason 16 = .ok (.invokevirtual 199, 3) := by decide +kernel
theorem dX9_reason_19 : decode cX9_reason 19 = .ok (.pop, 1) := by decide +kernel
theorem dX9_reason_20 : decode cX9_reason 20 = .ok (.aload_n 0, 1) := by decide +kernel
theorem dX9_reason_21 : decode cX9_reason 21 = .ok (.getfield 189, 3) := by decide +kernel
theorem dX9_reason_24 : decode cX9_reason 24 = .ok (.ireturn, 1) := by decide +kernel
theorem dX9_heldBy_0 : decode cX9_heldBy 0 = .ok (.aload_n 0, 1) := by decide +kernel
theorem dX9_heldBy_1 : decode cX9_heldBy 1 = .ok (.aload_n 0, 1) := by decide +kernel
theorem dX9_heldBy_2 : decode cX9_heldBy 2 = .ok (.iload_n 1, 1) := by decide +kernel
theorem dX9_heldBy_3 : decode cX9_heldBy 3 = .ok (.invokevirtual 196, 3) := by decide +kernel
theorem dX9_heldBy_6 : decode cX9_heldBy 6 = .ok (.invokevirtual 106, 3) := by decide +kernel
theorem dX9_heldBy_9 : decode cX9_heldBy 9 = .ok (.ifCond .eq 11, 3) := by decide +kernel
theorem dX9_heldBy_12 : decode cX9_heldBy 12 = .ok (.aload_n 0, 1) := by decide +kernel
theorem dX9_heldBy_13 : decode cX9_heldBy 13 = .ok (.iload_n 1, 1) := by decide +kernel
theorem dX9_heldBy_14 : decode cX9_heldBy 14 = .ok (.invokevirtual 202, 3) := by decide +kernel
theorem dX9_heldBy_17 : decode cX9_heldBy 17 = .ok (.goto 4, 3) := by decide +kernel
theorem dX9_heldBy_20 : decode cX9_heldBy 20 = .ok (.iconst 0, 1) := by decide +kernel
theorem dX9_heldBy_21 : decode cX9_heldBy 21 = .ok (.ireturn, 1) := by decide +kernel
theorem dX9_cuts_0 : decode cX9_cuts 0 = .ok (.aload_n 0, 1) := by decide +kernel
theorem dX9_cuts_1 : decode cX9_cuts 1 = .ok (.iload_n 1, 1) := by decide +kernel
theorem dX9_cuts_2 : decode cX9_cuts 2 = .ok (.iconst 1, 1) := by decide +kernel
theorem dX9_cuts_3 : decode cX9_cuts 3 = .ok (.if_icmp .lt 35, 3) := by decide +kernel
theorem dX9_cuts_6 : decode cX9_cuts 6 = .ok (.iload_n 1, 1) := by decide +kernel
theorem dX9_cuts_7 : decode cX9_cuts 7 = .ok (.bipush 16, 2) := by decide +kernel
theorem dX9_cuts_9 : decode cX9_cuts 9 = .ok (.if_icmp .gt 29, 3) := by decide +kernel
theorem dX9_cuts_12 : decode cX9_cuts 12 = .ok (.iload_n 2, 1) := by decide +kernel
theorem dX9_cuts_13 : decode cX9_cuts 13 = .ok (.iload_n 1, 1) := by decide +kernel
theorem dX9_cuts_14 : decode cX9_cuts 14 = .ok (.if_icmp .lt 24, 3) := by decide +kernel
theorem dX9_cuts_17 : decode cX9_cuts 17 = .ok (.iload_n 2, 1) := by decide +kernel
theorem dX9_cuts_18 : decode cX9_cuts 18 = .ok (.bipush 40, 2) := by decide +kernel
theorem dX9_cuts_20 : decode cX9_cuts 20 = .ok (.if_icmp .gt 18, 3) := by decide +kernel
theorem dX9_cuts_23 : decode cX9_cuts 23 = .ok (.iload_n 3, 1) := by decide +kernel
theorem dX9_cuts_24 : decode cX9_cuts 24 = .ok (.iconst 1, 1) := by decide +kernel
theorem dX9_cuts_25 : decode cX9_cuts 25 = .ok (.if_icmp .lt 13, 3) := by decide +kernel
theorem dX9_cuts_28 : decode cX9_cuts 28 = .ok (.iload_n 3, 1) := by decide +kernel
theorem dX9_cuts_29 : decode cX9_cuts 29 = .ok (.bipush 64, 2) := by decide +kernel
theorem dX9_cuts_31 : decode cX9_cuts 31 = .ok (.if_icmp .gt 7, 3) := by decide +kernel
theorem dX9_cuts_34 : decode cX9_cuts 34 = .ok (.iconst 1, 1) := by decide +kernel
theorem dX9_cuts_35 : decode cX9_cuts 35 = .ok (.goto 4, 3) := by decide +kernel
theorem dX9_cuts_38 : decode cX9_cuts 38 = .ok (.iconst 0, 1) := by decide +kernel
theorem dX9_cuts_39 : decode cX9_cuts 39 = .ok (.invokevirtual 106, 3) := by decide +kernel
theorem dX9_cuts_42 : decode cX9_cuts 42 = .ok (.ifCond .eq 18, 3) := by decide +kernel
theorem dX9_cuts_45 : decode cX9_cuts 45 = .ok (.aload_n 0, 1) := by decide +kernel
theorem dX9_cuts_46 : decode cX9_cuts 46 = .ok (.iload_n 1, 1) := by decide +kernel
theorem dX9_cuts_47 : decode cX9_cuts 47 = .ok (.putfield 78, 3) := by decide +kernel
theorem dX9_cuts_50 : decode cX9_cuts 50 = .ok (.aload_n 0, 1) := by decide +kernel
theorem dX9_cuts_51 : decode cX9_cuts 51 = .ok (.iload_n 2, 1) := by decide +kernel
theorem dX9_cuts_52 : decode cX9_cuts 52 = .ok (.putfield 82, 3) := by decide +kernel
theorem dX9_cuts_55 : decode cX9_cuts 55 = .ok (.aload_n 0, 1) := by decide +kernel
theorem dX9_cuts_56 : decode cX9_cuts 56 = .ok (.iload_n 3, 1) := by decide +kernel
theorem dX9_cuts_57 : decode cX9_cuts 57 = .ok (.putfield 85, 3) := by decide +kernel
theorem dX9_cuts_60 : decode cX9_cuts 60 = .ok (.return_, 1) := by decide +kernel
theorem dX9_hash_0 : decode cX9_hash 0 = .ok (.iconst 0, 1) := by decide +kernel
theorem dX9_hash_1 : decode cX9_hash 1 = .ok (.istore_n 3, 1) := by decide +kernel
theorem dX9_hash_2 : decode cX9_hash 2 = .ok (.iconst 0, 1) := by decide +kernel
theorem dX9_hash_3 : decode cX9_hash 3 = .ok (.istore 4, 2) := by decide +kernel
theorem dX9_hash_5 : decode cX9_hash 5 = .ok (.iload 4, 2) := by decide +kernel
theorem dX9_hash_7 : decode cX9_hash 7 = .ok (.iconst 4, 1) := by decide +kernel
theorem dX9_hash_8 : decode cX9_hash 8 = .ok (.if_icmp .ge 37, 3) := by decide +kernel
theorem dX9_hash_11 : decode cX9_hash 11 = .ok (.iload 4, 2) := by decide +kernel
theorem dX9_hash_13 : decode cX9_hash 13 = .ok (.iload_n 2, 1) := by decide +kernel
theorem dX9_hash_14 : decode cX9_hash 14 = .ok (.if_icmp .gt 31, 3) := by decide +kernel
theorem dX9_hash_17 : decode cX9_hash 17 = .ok (.iload_n 3, 1) := by decide +kernel
theorem dX9_hash_18 : decode cX9_hash 18 = .ok (.iload 4, 2) := by decide +kernel
theorem dX9_hash_20 : decode cX9_hash 20 = .ok (.iconst 1, 1) := by decide +kernel
theorem dX9_hash_21 : decode cX9_hash 21 = .ok (.iadd, 1) := by decide +kernel
theorem dX9_hash_22 : decode cX9_hash 22 = .ok (.aload_n 0, 1) := by decide +kernel
theorem dX9_hash_23 : decode cX9_hash 23 = .ok (.getfield 13, 3) := by decide +kernel
theorem dX9_hash_26 : decode cX9_hash 26 = .ok (.bipush 120, 2) := by decide +kernel
theorem dX9_hash_28 : decode cX9_hash 28 = .ok (.iload_n 1, 1) := by decide +kernel
theorem dX9_hash_29 : decode cX9_hash 29 = .ok (.imul, 1) := by decide +kernel
theorem dX9_hash_30 : decode cX9_hash 30 = .ok (.iload_n 2, 1) := by decide +kernel
theorem dX9_hash_31 : decode cX9_hash 31 = .ok (.iadd, 1) := by decide +kernel
theorem dX9_hash_32 : decode cX9_hash 32 = .ok (.iload 4, 2) := by decide +kernel
theorem dX9_hash_34 : decode cX9_hash 34 = .ok (.isub, 1) := by decide +kernel
theorem dX9_hash_35 : decode cX9_hash 35 = .ok (.iaload, 1) := by decide +kernel
theorem dX9_hash_36 : decode cX9_hash 36 = .ok (.imul, 1) := by decide +kernel
theorem dX9_hash_37 : decode cX9_hash 37 = .ok (.iadd, 1) := by decide +kernel
theorem dX9_hash_38 : decode cX9_hash 38 = .ok (.istore_n 3, 1) := by decide +kernel
theorem dX9_hash_39 : decode cX9_hash 39 = .ok (.iinc 4 1, 3) := by decide +kernel
theorem dX9_hash_42 : decode cX9_hash 42 = .ok (.goto (-37), 3) := by decide +kernel
theorem dX9_hash_45 : decode cX9_hash 45 = .ok (.iload_n 3, 1) := by decide +kernel
theorem dX9_hash_46 : decode cX9_hash 46 = .ok (.ireturn, 1) := by decide +kernel
theorem dX9_store_0 : decode cX9_store 0 = .ok (.iconst 0, 1) := by decide +kernel
theorem dX9_store_1 : decode cX9_store 1 = .ok (.istore_n 2, 1) := by decide +kernel
theorem dX9_store_2 : decode cX9_store 2 = .ok (.iload_n 2, 1) := by decide +kernel
theorem dX9_store_3 : decode cX9_store 3 = .ok (.bipush 12, 2) := by decide +kernel
theorem dX9_store_5 : decode cX9_store 5 = .ok (.if_icmp .ge 18, 3) := by decide +kernel
theorem dX9_store_8 : decode cX9_store 8 = .ok (.aload_n 0, 1) := by decide +kernel
theorem dX9_store_9 : decode cX9_store 9 = .ok (.getfield 88, 3) := by decide +kernel
theorem dX9_store_12 : decode cX9_store 12 = .ok (.iload_n 2, 1) := by decide +kernel
theorem dX9_store_13 : decode cX9_store 13 = .ok (.baload, 1) := by decide +kernel
theorem dX9_store_14 : decode cX9_store 14 = .ok (.ifCond .eq 9, 3) := by decide +kernel
theorem dX9_store_17 : decode cX9_store 17 = .ok (.iinc 2 1, 3) := by decide +kernel
theorem dX9_store_20 : decode cX9_store 20 = .ok (.goto (-18), 3) := by decide +kernel
theorem dX9_store_23 : decode cX9_store 23 = .ok (.aload_n 0, 1) := by decide +kernel
theorem dX9_store_24 : decode cX9_store 24 = .ok (.aload_n 0, 1) := by decide +kernel
theorem dX9_store_25 : decode cX9_store 25 = .ok (.iload_n 1, 1) := by decide +kernel
theorem dX9_store_26 : decode cX9_store 26 = .ok (.invokevirtual 114, 3) := by decide +kernel
theorem dX9_store_29 : decode cX9_store 29 = .ok (.iload_n 2, 1) := by decide +kernel
theorem dX9_store_30 : decode cX9_store 30 = .ok (.bipush 12, 2) := by decide +kernel
theorem dX9_store_32 : decode cX9_store 32 = .ok (.if_icmp .ge 7, 3) := by decide +kernel
theorem dX9_store_35 : decode cX9_store 35 = .ok (.iconst 1, 1) := by decide +kernel
theorem dX9_store_36 : decode cX9_store 36 = .ok (.goto 4, 3) := by decide +kernel
theorem dX9_store_39 : decode cX9_store 39 = .ok (.iconst 0, 1) := by decide +kernel
theorem dX9_store_40 : decode cX9_store 40 = .ok (.invokevirtual 121, 3) := by decide +kernel
theorem dX9_store_43 : decode cX9_store 43 = .ok (.ifCond .ne 5, 3) := by decide +kernel
theorem dX9_store_46 : decode cX9_store 46 = .ok (.iconst 0, 1) := by decide +kernel
theorem dX9_store_47 : decode cX9_store 47 = .ok (.ireturn, 1) := by decide +kernel
theorem dX9_store_48 : decode cX9_store 48 = .ok (.aload_n 0, 1) := by decide +kernel
theorem dX9_store_49 : decode cX9_store 49 = .ok (.getfield 88, 3) := by decide +kernel
theorem dX9_store_52 : decode cX9_store 52 = .ok (.iload_n 2, 1) := by decide +kernel
theorem dX9_store_53 : decode cX9_store 53 = .ok (.iconst 1, 1) := by decide +kernel
theorem dX9_store_54 : decode cX9_store 54 = .ok (.bastore, 1) := by decide +kernel
theorem dX9_store_55 : decode cX9_store 55 = .ok (.aload_n 0, 1) := by decide +kernel
theorem dX9_store_56 : decode cX9_store 56 = .ok (.getfield 91, 3) := by decide +kernel
theorem dX9_store_59 : decode cX9_store 59 = .ok (.iload_n 2, 1) := by decide +kernel
theorem dX9_store_60 : decode cX9_store 60 = .ok (.iconst 0, 1) := by decide +kernel
theorem dX9_store_61 : decode cX9_store 61 = .ok (.iastore, 1) := by decide +kernel
theorem dX9_store_62 : decode cX9_store 62 = .ok (.iconst 0, 1) := by decide +kernel
theorem dX9_store_63 : decode cX9_store 63 = .ok (.istore_n 3, 1) := by decide +kernel
theorem dX9_store_64 : decode cX9_store 64 = .ok (.iconst 0, 1) := by decide +kernel
theorem dX9_store_65 : decode cX9_store 65 = .ok (.istore 4, 2) := by decide +kernel
theorem dX9_store_67 : decode cX9_store 67 = .ok (.iload 4, 2) := by decide +kernel
theorem dX9_store_69 : decode cX9_store 69 = .ok (.aload_n 0, 1) := by decide +kernel
theorem dX9_store_70 : decode cX9_store 70 = .ok (.getfield 7, 3) := by decide +kernel
theorem dX9_store_73 : decode cX9_store 73 = .ok (.iload_n 1, 1) := by decide +kernel
theorem dX9_store_74 : decode cX9_store 74 = .ok (.iaload, 1) := by decide +kernel
theorem dX9_store_75 : decode cX9_store 75 = .ok (.if_icmp .ge 115, 3) := by decide +kernel
theorem dX9_store_78 : decode cX9_store 78 = .ok (.aload_n 0, 1) := by decide +kernel
theorem dX9_store_79 : decode cX9_store 79 = .ok (.getfield 97, 3) := by decide +kernel
theorem dX9_store_82 : decode cX9_store 82 = .ok (.bipush 120, 2) := by decide +kernel
theorem dX9_store_84 : decode cX9_store 84 = .ok (.iload_n 2, 1) := by decide +kernel
theorem dX9_store_85 : decode cX9_store 85 = .ok (.imul, 1) := by decide +kernel
theorem dX9_store_86 : decode cX9_store 86 = .ok (.iload 4, 2) := by decide +kernel
theorem dX9_store_88 : decode cX9_store 88 = .ok (.iadd, 1) := by decide +kernel
theorem dX9_store_89 : decode cX9_store 89 = .ok (.aload_n 0, 1) := by decide +kernel
theorem dX9_store_90 : decode cX9_store 90 = .ok (.getfield 13, 3) := by decide +kernel
theorem dX9_store_93 : decode cX9_store 93 = .ok (.bipush 120, 2) := by decide +kernel
theorem dX9_store_95 : decode cX9_store 95 = .ok (.iload_n 1, 1) := by decide +kernel
theorem dX9_store_96 : decode cX9_store 96 = .ok (.imul, 1) := by decide +kernel
theorem dX9_store_97 : decode cX9_store 97 = .ok (.iload 4, 2) := by decide +kernel
theorem dX9_store_99 : decode cX9_store 99 = .ok (.iadd, 1) := by decide +kernel
theorem dX9_store_100 : decode cX9_store 100 = .ok (.iaload, 1) := by decide +kernel
theorem dX9_store_101 : decode cX9_store 101 = .ok (.iastore, 1) := by decide +kernel
theorem dX9_store_102 : decode cX9_store 102 = .ok (.iinc 3 1, 3) := by decide +kernel
theorem dX9_store_105 : decode cX9_store 105 = .ok (.iload_n 3, 1) := by decide +kernel
theorem dX9_store_106 : decode cX9_store 106 = .ok (.aload_n 0, 1) := by decide +kernel
theorem dX9_store_107 : decode cX9_store 107 = .ok (.getfield 82, 3) := by decide +kernel
theorem dX9_store_110 : decode cX9_store 110 = .ok (.if_icmp .eq 45, 3) := by decide +kernel
theorem dX9_store_113 : decode cX9_store 113 = .ok (.iload_n 3, 1) := by decide +kernel
theorem dX9_store_114 : decode cX9_store 114 = .ok (.aload_n 0, 1) := by decide +kernel
theorem dX9_store_115 : decode cX9_store 115 = .ok (.getfield 78, 3) := by decide +kernel
theorem dX9_store_118 : decode cX9_store 118 = .ok (.if_icmp .lt 24, 3) := by decide +kernel
theorem dX9_store_121 : decode cX9_store 121 = .ok (.aload_n 0, 1) := by decide +kernel
theorem dX9_store_122 : decode cX9_store 122 = .ok (.iload_n 1, 1) := by decide +kernel
theorem dX9_store_123 : decode cX9_store 123 = .ok (.iload 4, 2) := by decide +kernel
theorem dX9_store_125 : decode cX9_store 125 = .ok (.invokevirtual 205, 3) := by decide +kernel
theorem dX9_store_128 : decode cX9_store 128 = .ok (.aload_n 0, 1) := by decide +kernel
theorem dX9_store_129 : decode cX9_store 129 = .ok (.getfield 85, 3) := by decide +kernel
theorem dX9_store_132 : decode cX9_store 132 = .ok (.irem, 1) := by decide +kernel
theorem dX9_store_133 : decode cX9_store 133 = .ok (.aload_n 0, 1) := by decide +kernel
theorem dX9_store_134 : decode cX9_store 134 = .ok (.getfield 85, 3) := by decide +kernel
theorem dX9_store_137 : decode cX9_store 137 = .ok (.iconst 1, 1) := by decide +kernel
theorem dX9_store_138 : decode cX9_store 138 = .ok (.isub, 1) := by decide +kernel
theorem dX9_store_139 : decode cX9_store 139 = .ok (.if_icmp .eq 16, 3) := by decide +kernel
theorem dX9_store_142 : decode cX9_store 142 = .ok (.iload 4, 2) := by decide +kernel
theorem dX9_store_144 : decode cX9_store 144 = .ok (.aload_n 0, 1) := by decide +kernel
theorem dX9_store_145 : decode cX9_store 145 = .ok (.getfield 7, 3) := by decide +kernel
theorem dX9_store_148 : decode cX9_store 148 = .ok (.iload_n 1, 1) := by decide +kernel
theorem dX9_store_149 : decode cX9_store 149 = .ok (.iaload, 1) := by decide +kernel
theorem dX9_store_150 : decode cX9_store 150 = .ok (.iconst 1, 1) := by decide +kernel
theorem dX9_store_151 : decode cX9_store 151 = .ok (.isub, 1) := by decide +kernel
theorem dX9_store_152 : decode cX9_store 152 = .ok (.if_icmp .ne 32, 3) := by decide +kernel
theorem dX9_store_155 : decode cX9_store 155 = .ok (.aload_n 0, 1) := by decide +kernel
theorem dX9_store_156 : decode cX9_store 156 = .ok (.getfield 94, 3) := by decide +kernel
theorem dX9_store_159 : decode cX9_store 159 = .ok (.bipush 120, 2) := by decide +kernel
theorem dX9_store_161 : decode cX9_store 161 = .ok (.iload_n 2, 1) := by decide +kernel
theorem dX9_store_162 : decode cX9_store 162 = .ok (.imul, 1) := by decide +kernel
theorem dX9_store_163 : decode cX9_store 163 = .ok (.aload_n 0, 1) := by decide +kernel
theorem dX9_store_164 : decode cX9_store 164 = .ok (.getfield 91, 3) := by decide +kernel
theorem dX9_store_167 : decode cX9_store 167 = .ok (.iload_n 2, 1) := by decide +kernel
theorem dX9_store_168 : decode cX9_store 168 = .ok (.iaload, 1) := by decide +kernel
theorem dX9_store_169 : decode cX9_store 169 = .ok (.iadd, 1) := by decide +kernel
theorem dX9_store_170 : decode cX9_store 170 = .ok (.iload_n 3, 1) := by decide +kernel
theorem dX9_store_171 : decode cX9_store 171 = .ok (.iastore, 1) := by decide +kernel
theorem dX9_store_172 : decode cX9_store 172 = .ok (.aload_n 0, 1) := by decide +kernel
theorem dX9_store_173 : decode cX9_store 173 = .ok (.getfield 91, 3) := by decide +kernel
theorem dX9_store_176 : decode cX9_store 176 = .ok (.iload_n 2, 1) := by decide +kernel
theorem dX9_store_177 : decode cX9_store 177 = .ok (.dup2, 1) := by decide +kernel
theorem dX9_store_178 : decode cX9_store 178 = .ok (.iaload, 1) := by decide +kernel
theorem dX9_store_179 : decode cX9_store 179 = .ok (.iconst 1, 1) := by decide +kernel
theorem dX9_store_180 : decode cX9_store 180 = .ok (.iadd, 1) := by decide +kernel
theorem dX9_store_181 : decode cX9_store 181 = .ok (.iastore, 1) := by decide +kernel
theorem dX9_store_182 : decode cX9_store 182 = .ok (.iconst 0, 1) := by decide +kernel
theorem dX9_store_183 : decode cX9_store 183 = .ok (.istore_n 3, 1) := by decide +kernel
theorem dX9_store_184 : decode cX9_store 184 = .ok (.iinc 4 1, 3) := by decide +kernel
theorem dX9_store_187 : decode cX9_store 187 = .ok (.goto (-120), 3) := by decide +kernel
theorem dX9_store_190 : decode cX9_store 190 = .ok (.iload_n 2, 1) := by decide +kernel
theorem dX9_store_191 : decode cX9_store 191 = .ok (.ireturn, 1) := by decide +kernel
theorem dX9_isThere_0 : decode cX9_isThere 0 = .ok (.iload_n 1, 1) := by decide +kernel
theorem dX9_isThere_1 : decode cX9_isThere 1 = .ok (.ifCond .lt 22, 3) := by decide +kernel
theorem dX9_isThere_4 : decode cX9_isThere 4 = .ok (.iload_n 1, 1) := by decide +kernel
theorem dX9_isThere_5 : decode cX9_isThere 5 = .ok (.bipush 12, 2) := by decide +kernel
theorem dX9_isThere_7 : decode cX9_isThere 7 = .ok (.if_icmp .ge 16, 3) := by decide +kernel
theorem dX9_isThere_10 : decode cX9_isThere 10 = .ok (.aload_n 0, 1) := by decide +kernel
theorem dX9_isThere_11 : decode cX9_isThere 11 = .ok (.getfield 88, 3) := by decide +kernel
theorem dX9_isThere_14 : decode cX9_isThere 14 = .ok (.iload_n 1, 1) := by decide +kernel
theorem dX9_isThere_15 : decode cX9_isThere 15 = .ok (.baload, 1) := by decide +kernel
theorem dX9_isThere_16 : decode cX9_isThere 16 = .ok (.ifCond .eq 7, 3) := by decide +kernel
theorem dX9_isThere_19 : decode cX9_isThere 19 = .ok (.iconst 1, 1) := by decide +kernel
theorem dX9_isThere_20 : decode cX9_isThere 20 = .ok (.goto 4, 3) := by decide +kernel
theorem dX9_isThere_23 : decode cX9_isThere 23 = .ok (.iconst 0, 1) := by decide +kernel
theorem dX9_isThere_24 : decode cX9_isThere 24 = .ok (.ireturn, 1) := by decide +kernel
theorem dX9_begin_0 : decode cX9_begin 0 = .ok (.bipush 120, 2) := by decide +kernel
theorem dX9_begin_2 : decode cX9_begin 2 = .ok (.iload_n 1, 1) := by decide +kernel
theorem dX9_begin_3 : decode cX9_begin 3 = .ok (.imul, 1) := by decide +kernel
theorem dX9_begin_4 : decode cX9_begin 4 = .ok (.istore_n 3, 1) := by decide +kernel
theorem dX9_begin_5 : decode cX9_begin 5 = .ok (.iconst 0, 1) := by decide +kernel
theorem dX9_begin_6 : decode cX9_begin 6 = .ok (.istore 4, 2) := by decide +kernel
theorem dX9_begin_8 : decode cX9_begin 8 = .ok (.iload 4, 2) := by decide +kernel
theorem dX9_begin_10 : decode cX9_begin 10 = .ok (.iload_n 2, 1) := by decide +kernel
theorem dX9_begin_11 : decode cX9_begin 11 = .ok (.if_icmp .ge 24, 3) := by decide +kernel
theorem dX9_begin_14 : decode cX9_begin 14 = .ok (.iload_n 3, 1) := by decide +kernel
theorem dX9_begin_15 : decode cX9_begin 15 = .ok (.aload_n 0, 1) := by decide +kernel
theorem dX9_begin_16 : decode cX9_begin 16 = .ok (.getfield 94, 3) := by decide +kernel
theorem dX9_begin_19 : decode cX9_begin 19 = .ok (.bipush 120, 2) := by decide +kernel
theorem dX9_begin_21 : decode cX9_begin 21 = .ok (.iload_n 1, 1) := by decide +kernel
theorem dX9_begin_22 : decode cX9_begin 22 = .ok (.imul, 1) := by decide +kernel
theorem dX9_begin_23 : decode cX9_begin 23 = .ok (.iload 4, 2) := by decide +kernel
theorem dX9_begin_25 : decode cX9_begin 25 = .ok (.iadd, 1) := by decide +kernel
theorem dX9_begin_26 : decode cX9_begin 26 = .ok (.iaload, 1) := by decide +kernel
theorem dX9_begin_27 : decode cX9_begin 27 = .ok (.iadd, 1) := by decide +kernel
theorem dX9_begin_28 : decode cX9_begin 28 = .ok (.istore_n 3, 1) := by decide +kernel
theorem dX9_begin_29 : decode cX9_begin 29 = .ok (.iinc 4 1, 3) := by decide +kernel
theorem dX9_begin_32 : decode cX9_begin 32 = .ok (.goto (-24), 3) := by decide +kernel
theorem dX9_begin_35 : decode cX9_begin 35 = .ok (.iload_n 3, 1) := by decide +kernel
theorem dX9_begin_36 : decode cX9_begin 36 = .ok (.ireturn, 1) := by decide +kernel
theorem dX9_names_0 : decode cX9_names 0 = .ok (.iconst 0, 1) := by decide +kernel
theorem dX9_names_1 : decode cX9_names 1 = .ok (.istore 6, 2) := by decide +kernel
theorem dX9_names_3 : decode cX9_names 3 = .ok (.iconst 0, 1) := by decide +kernel
theorem dX9_names_4 : decode cX9_names 4 = .ok (.istore 7, 2) := by decide +kernel
theorem dX9_names_6 : decode cX9_names 6 = .ok (.iload 7, 2) := by decide +kernel
theorem dX9_names_8 : decode cX9_names 8 = .ok (.iload_n 3, 1) := by decide +kernel
theorem dX9_names_9 : decode cX9_names 9 = .ok (.if_icmp .gt 172, 3) := by decide +kernel
theorem dX9_names_12 : decode cX9_names 12 = .ok (.bipush 120, 2) := by decide +kernel
theorem dX9_names_14 : decode cX9_names 14 = .ok (.iload 7, 2) := by decide +kernel
theorem dX9_names_16 : decode cX9_names 16 = .ok (.imul, 1) := by decide +kernel
theorem dX9_names_17 : decode cX9_names 17 = .ok (.istore 8, 2) := by decide +kernel
theorem dX9_names_19 : decode cX9_names 19 = .ok (.aload_n 0, 1) := by decide +kernel
theorem dX9_names_20 : decode cX9_names 20 = .ok (.getfield 88, 3) := by decide +kernel
theorem dX9_names_23 : decode cX9_names 23 = .ok (.iload 7, 2) := by decide +kernel
theorem dX9_names_25 : decode cX9_names 25 = .ok (.baload, 1) := by decide +kernel
theorem dX9_names_26 : decode cX9_names 26 = .ok (.ifCond .eq 10, 3) := by decide +kernel
theorem dX9_names_29 : decode cX9_names 29 = .ok (.iload 7, 2) := by decide +kernel
theorem dX9_names_31 : decode cX9_names 31 = .ok (.iload 5, 2) := by decide +kernel
theorem dX9_names_33 : decode cX9_names 33 = .ok (.if_icmp .ne 7, 3) := by decide +kernel
theorem dX9_names_36 : decode cX9_names 36 = .ok (.iconst 0, 1) := by decide +kernel
theorem dX9_names_37 : decode cX9_names 37 = .ok (.goto 21, 3) := by decide +kernel
theorem dX9_names_40 : decode cX9_names 40 = .ok (.iload 7, 2) := by decide +kernel
theorem dX9_names_42 : decode cX9_names 42 = .ok (.iload_n 3, 1) := by decide +kernel
theorem dX9_names_43 : decode cX9_names 43 = .ok (.if_icmp .ne 8, 3) := by decide +kernel
theorem dX9_names_46 : decode cX9_names 46 = .ok (.iload 4, 2) := by decide +kernel
theorem dX9_names_48 : decode cX9_names 48 = .ok (.goto 10, 3) := by decide +kernel
theorem dX9_names_51 : decode cX9_names 51 = .ok (.aload_n 0, 1) := by decide +kernel
theorem dX9_names_52 : decode cX9_names 52 = .ok (.getfield 91, 3) := by decide +kernel
theorem dX9_names_55 : decode cX9_names 55 = .ok (.iload 7, 2) := by decide +kernel
theorem dX9_names_57 : decode cX9_names 57 = .ok (.iaload, 1) := by decide +kernel
theorem dX9_names_58 : decode cX9_names 58 = .ok (.istore 9, 2) := by decide +kernel
theorem dX9_names_60 : decode cX9_names 60 = .ok (.iconst 0, 1) := by decide +kernel
theorem dX9_names_61 : decode cX9_names 61 = .ok (.istore 10, 2) := by decide +kernel
theorem dX9_names_63 : decode cX9_names 63 = .ok (.iload 10, 2) := by decide +kernel
theorem dX9_names_65 : decode cX9_names 65 = .ok (.iload 9, 2) := by decide +kernel
theorem dX9_names_67 : decode cX9_names 67 = .ok (.if_icmp .ge 108, 3) := by decide +kernel
theorem dX9_names_70 : decode cX9_names 70 = .ok (.aload_n 0, 1) := by decide +kernel
theorem dX9_names_71 : decode cX9_names 71 = .ok (.getfield 94, 3) := by decide +kernel
theorem dX9_names_74 : decode cX9_names 74 = .ok (.bipush 120, 2) := by decide +kernel
theorem dX9_names_76 : decode cX9_names 76 = .ok (.iload 7, 2) := by decide +kernel
theorem dX9_names_78 : decode cX9_names 78 = .ok (.imul, 1) := by decide +kernel
theorem dX9_names_79 : decode cX9_names 79 = .ok (.iload 10, 2) := by decide +kernel
theorem dX9_names_81 : decode cX9_names 81 = .ok (.iadd, 1) := by decide +kernel
theorem dX9_names_82 : decode cX9_names 82 = .ok (.iaload, 1) := by decide +kernel
theorem dX9_names_83 : decode cX9_names 83 = .ok (.istore 11, 2) := by decide +kernel
theorem dX9_names_85 : decode cX9_names 85 = .ok (.iload 11, 2) := by decide +kernel
theorem dX9_names_87 : decode cX9_names 87 = .ok (.iload_n 2, 1) := by decide +kernel
theorem dX9_names_88 : decode cX9_names 88 = .ok (.if_icmp .ne 7, 3) := by decide +kernel
theorem dX9_names_91 : decode cX9_names 91 = .ok (.iconst 1, 1) := by decide +kernel
theorem dX9_names_92 : decode cX9_names 92 = .ok (.goto 4, 3) := by decide +kernel
theorem dX9_names_95 : decode cX9_names 95 = .ok (.iconst 0, 1) := by decide +kernel
theorem dX9_names_96 : decode cX9_names 96 = .ok (.istore 12, 2) := by decide +kernel
theorem dX9_names_98 : decode cX9_names 98 = .ok (.iconst 0, 1) := by decide +kernel
theorem dX9_names_99 : decode cX9_names 99 = .ok (.istore 13, 2) := by decide +kernel
theorem dX9_names_101 : decode cX9_names 101 = .ok (.iload 13, 2) := by decide +kernel
theorem dX9_names_103 : decode cX9_names 103 = .ok (.iload_n 2, 1) := by decide +kernel
theorem dX9_names_104 : decode cX9_names 104 = .ok (.if_icmp .ge 43, 3) := by decide +kernel
theorem dX9_names_107 : decode cX9_names 107 = .ok (.iload 12, 2) := by decide +kernel
theorem dX9_names_109 : decode cX9_names 109 = .ok (.ifCond .eq 38, 3) := by decide +kernel
theorem dX9_names_112 : decode cX9_names 112 = .ok (.aload_n 0, 1) := by decide +kernel
theorem dX9_names_113 : decode cX9_names 113 = .ok (.getfield 97, 3) := by decide +kernel
theorem dX9_names_116 : decode cX9_names 116 = .ok (.iload_n 1, 1) := by decide +kernel
theorem dX9_names_117 : decode cX9_names 117 = .ok (.iload 13, 2) := by decide +kernel
theorem dX9_names_119 : decode cX9_names 119 = .ok (.iadd, 1) := by decide +kernel
theorem dX9_names_120 : decode cX9_names 120 = .ok (.iaload, 1) := by decide +kernel
theorem dX9_names_121 : decode cX9_names 121 = .ok (.aload_n 0, 1) := by decide +kernel
theorem dX9_names_122 : decode cX9_names 122 = .ok (.getfield 97, 3) := by decide +kernel
theorem dX9_names_125 : decode cX9_names 125 = .ok (.iload 8, 2) := by decide +kernel
theorem dX9_names_127 : decode cX9_names 127 = .ok (.iload 13, 2) := by decide +kernel
theorem dX9_names_129 : decode cX9_names 129 = .ok (.iadd, 1) := by decide +kernel
theorem dX9_names_130 : decode cX9_names 130 = .ok (.iaload, 1) := by decide +kernel
theorem dX9_names_131 : decode cX9_names 131 = .ok (.if_icmp .ne 7, 3) := by decide +kernel
theorem dX9_names_134 : decode cX9_names 134 = .ok (.iconst 1, 1) := by decide +kernel
theorem dX9_names_135 : decode cX9_names 135 = .ok (.goto 4, 3) := by decide +kernel
theorem dX9_names_138 : decode cX9_names 138 = .ok (.iconst 0, 1) := by decide +kernel
theorem dX9_names_139 : decode cX9_names 139 = .ok (.istore 12, 2) := by decide +kernel
theorem dX9_names_141 : decode cX9_names 141 = .ok (.iinc 13 1, 3) := by decide +kernel
theorem dX9_names_144 : decode cX9_names 144 = .ok (.goto (-43), 3) := by decide +kernel
theorem dX9_names_147 : decode cX9_names 147 = .ok (.iload 6, 2) := by decide +kernel
theorem dX9_names_149 : decode cX9_names 149 = .ok (.iload 12, 2) := by decide +kernel
theorem dX9_names_151 : decode cX9_names 151 = .ok (.ifCond .eq 7, 3) := by decide +kernel
theorem dX9_names_154 : decode cX9_names 154 = .ok (.iconst 1, 1) := by decide +kernel
theorem dX9_names_155 : decode cX9_names 155 = .ok (.goto 4, 3) := by decide +kernel
theorem dX9_names_158 : decode cX9_names 158 = .ok (.iconst 0, 1) := by decide +kernel
theorem dX9_names_159 : decode cX9_names 159 = .ok (.iadd, 1) := by decide +kernel
theorem dX9_names_160 : decode cX9_names 160 = .ok (.istore 6, 2) := by decide +kernel
theorem dX9_names_162 : decode cX9_names 162 = .ok (.iload 8, 2) := by decide +kernel
theorem dX9_names_164 : decode cX9_names 164 = .ok (.iload 11, 2) := by decide +kernel
theorem dX9_names_166 : decode cX9_names 166 = .ok (.iadd, 1) := by decide +kernel
theorem dX9_names_167 : decode cX9_names 167 = .ok (.istore 8, 2) := by decide +kernel
theorem dX9_names_169 : decode cX9_names 169 = .ok (.iinc 10 1, 3) := by decide +kernel
theorem dX9_names_172 : decode cX9_names 172 = .ok (.goto (-109), 3) := by decide +kernel
theorem dX9_names_175 : decode cX9_names 175 = .ok (.iinc 7 1, 3) := by decide +kernel
theorem dX9_names_178 : decode cX9_names 178 = .ok (.goto (-172), 3) := by decide +kernel
theorem dX9_names_181 : decode cX9_names 181 = .ok (.iload 6, 2) := by decide +kernel
theorem dX9_names_183 : decode cX9_names 183 = .ok (.ireturn, 1) := by decide +kernel
theorem dX9_release_0 : decode cX9_release 0 = .ok (.aload_n 0, 1) := by decide +kernel
theorem dX9_release_1 : decode cX9_release 1 = .ok (.aload_n 0, 1) := by decide +kernel
theorem dX9_release_2 : decode cX9_release 2 = .ok (.iload_n 1, 1) := by decide +kernel
theorem dX9_release_3 : decode cX9_release 3 = .ok (.invokevirtual 208, 3) := by decide +kernel
theorem dX9_release_6 : decode cX9_release 6 = .ok (.invokevirtual 106, 3) := by decide +kernel
theorem dX9_release_9 : decode cX9_release 9 = .ok (.ifCond .ne 5, 3) := by decide +kernel
theorem dX9_release_12 : decode cX9_release 12 = .ok (.iconst 0, 1) := by decide +kernel
theorem dX9_release_13 : decode cX9_release 13 = .ok (.ireturn, 1) := by decide +kernel
theorem dX9_release_14 : decode cX9_release 14 = .ok (.iconst 0, 1) := by decide +kernel
theorem dX9_release_15 : decode cX9_release 15 = .ok (.istore_n 2, 1) := by decide +kernel
theorem dX9_release_16 : decode cX9_release 16 = .ok (.bipush 120, 2) := by decide +kernel
theorem dX9_release_18 : decode cX9_release 18 = .ok (.iload_n 1, 1) := by decide +kernel
theorem dX9_release_19 : decode cX9_release 19 = .ok (.imul, 1) := by decide +kernel
theorem dX9_release_20 : decode cX9_release 20 = .ok (.istore_n 3, 1) := by decide +kernel
theorem dX9_release_21 : decode cX9_release 21 = .ok (.iconst 0, 1) := by decide +kernel
theorem dX9_release_22 : decode cX9_release 22 = .ok (.istore 4, 2) := by decide +kernel
theorem dX9_release_24 : decode cX9_release 24 = .ok (.iload 4, 2) := by decide +kernel
theorem dX9_release_26 : decode cX9_release 26 = .ok (.aload_n 0, 1) := by decide +kernel
theorem dX9_release_27 : decode cX9_release 27 = .ok (.getfield 91, 3) := by decide +kernel
theorem dX9_release_30 : decode cX9_release 30 = .ok (.iload_n 1, 1) := by decide +kernel
theorem dX9_release_31 : decode cX9_release 31 = .ok (.iaload, 1) := by decide +kernel
theorem dX9_release_32 : decode cX9_release 32 = .ok (.if_icmp .ge 92, 3) := by decide +kernel
theorem dX9_release_35 : decode cX9_release 35 = .ok (.aload_n 0, 1) := by decide +kernel
theorem dX9_release_36 : decode cX9_release 36 = .ok (.getfield 94, 3) := by decide +kernel
theorem dX9_release_39 : decode cX9_release 39 = .ok (.bipush 120, 2) := by decide +kernel
theorem dX9_release_41 : decode cX9_release 41 = .ok (.iload_n 1, 1) := by decide +kernel
theorem dX9_release_42 : decode cX9_release 42 = .ok (.imul, 1) := by decide +kernel
theorem dX9_release_43 : decode cX9_release 43 = .ok (.iload 4, 2) := by decide +kernel
theorem dX9_release_45 : decode cX9_release 45 = .ok (.iadd, 1) := by decide +kernel
theorem dX9_release_46 : decode cX9_release 46 = .ok (.iaload, 1) := by decide +kernel
theorem dX9_release_47 : decode cX9_release 47 = .ok (.istore 5, 2) := by decide +kernel
theorem dX9_release_49 : decode cX9_release 49 = .ok (.aload_n 0, 1) := by decide +kernel
theorem dX9_release_50 : decode cX9_release 50 = .ok (.iload_n 3, 1) := by decide +kernel
theorem dX9_release_51 : decode cX9_release 51 = .ok (.iload 5, 2) := by decide +kernel
theorem dX9_release_53 : decode cX9_release 53 = .ok (.iload_n 1, 1) := by decide +kernel
theorem dX9_release_54 : decode cX9_release 54 = .ok (.iload 4, 2) := by decide +kernel
theorem dX9_release_56 : decode cX9_release 56 = .ok (.iconst (-1), 1) := by decide +kernel
theorem dX9_release_57 : decode cX9_release 57 = .ok (.invokevirtual 211, 3) := by decide +kernel
theorem dX9_release_60 : decode cX9_release 60 = .ok (.aload_n 0, 1) := by decide +kernel
theorem dX9_release_61 : decode cX9_release 61 = .ok (.iload_n 3, 1) := by decide +kernel
theorem dX9_release_62 : decode cX9_release 62 = .ok (.iload 5, 2) := by decide +kernel
theorem dX9_release_64 : decode cX9_release 64 = .ok (.iload_n 1, 1) := by decide +kernel
theorem dX9_release_65 : decode cX9_release 65 = .ok (.iconst 0, 1) := by decide +kernel
theorem dX9_release_66 : decode cX9_release 66 = .ok (.iconst (-1), 1) := by decide +kernel
theorem dX9_release_67 : decode cX9_release 67 = .ok (.invokevirtual 211, 3) := by decide +kernel
theorem dX9_release_70 : decode cX9_release 70 = .ok (.if_icmp .ne 7, 3) := by decide +kernel
theorem dX9_release_73 : decode cX9_release 73 = .ok (.iconst 1, 1) := by decide +kernel
theorem dX9_release_74 : decode cX9_release 74 = .ok (.goto 4, 3) := by decide +kernel
theorem dX9_release_77 : decode cX9_release 77 = .ok (.iconst 0, 1) := by decide +kernel
theorem dX9_release_78 : decode cX9_release 78 = .ok (.istore 6, 2) := by decide +kernel
theorem dX9_release_80 : decode cX9_release 80 = .ok (.iload_n 2, 1) := by decide +kernel
theorem dX9_release_81 : decode cX9_release 81 = .ok (.iload 6, 2) := by decide +kernel
theorem dX9_release_83 : decode cX9_release 83 = .ok (.ifCond .eq 27, 3) := by decide +kernel
theorem dX9_release_86 : decode cX9_release 86 = .ok (.aload_n 0, 1) := by decide +kernel
theorem dX9_release_87 : decode cX9_release 87 = .ok (.iload_n 3, 1) := by decide +kernel
theorem dX9_release_88 : decode cX9_release 88 = .ok (.iload 5, 2) := by decide +kernel
theorem dX9_release_90 : decode cX9_release 90 = .ok (.bipush 11, 2) := by decide +kernel
theorem dX9_release_92 : decode cX9_release 92 = .ok (.aload_n 0, 1) := by decide +kernel
theorem dX9_release_93 : decode cX9_release 93 = .ok (.getfield 91, 3) := by decide +kernel
theorem dX9_release_96 : decode cX9_release 96 = .ok (.bipush 11, 2) := by decide +kernel
theorem dX9_release_98 : decode cX9_release 98 = .ok (.iaload, 1) := by decide +kernel
theorem dX9_release_99 : decode cX9_release 99 = .ok (.iload_n 1, 1) := by decide +kernel
theorem dX9_release_100 : decode cX9_release 100 = .ok (.invokevirtual 211, 3) := by decide +kernel
theorem dX9_release_103 : decode cX9_release 103 = .ok (.ifCond .ne 7, 3) := by decide +kernel
theorem dX9_release_106 : decode cX9_release 106 = .ok (.iconst 1, 1) := by decide +kernel
theorem dX9_release_107 : decode cX9_release 107 = .ok (.goto 4, 3) := by decide +kernel
theorem dX9_release_110 : decode cX9_release 110 = .ok (.iconst 0, 1) := by decide +kernel
theorem dX9_release_111 : decode cX9_release 111 = .ok (.iadd, 1) := by decide +kernel
theorem dX9_release_112 : decode cX9_release 112 = .ok (.istore_n 2, 1) := by decide +kernel
theorem dX9_release_113 : decode cX9_release 113 = .ok (.iload_n 3, 1) := by decide +kernel
theorem dX9_release_114 : decode cX9_release 114 = .ok (.iload 5, 2) := by decide +kernel
theorem dX9_release_116 : decode cX9_release 116 = .ok (.iadd, 1) := by decide +kernel
theorem dX9_release_117 : decode cX9_release 117 = .ok (.istore_n 3, 1) := by decide +kernel
theorem dX9_release_118 : decode cX9_release 118 = .ok (.iinc 4 1, 3) := by decide +kernel
theorem dX9_release_121 : decode cX9_release 121 = .ok (.goto (-97), 3) := by decide +kernel
theorem dX9_release_124 : decode cX9_release 124 = .ok (.aload_n 0, 1) := by decide +kernel
theorem dX9_release_125 : decode cX9_release 125 = .ok (.getfield 88, 3) := by decide +kernel
theorem dX9_release_128 : decode cX9_release 128 = .ok (.iload_n 1, 1) := by decide +kernel
theorem dX9_release_129 : decode cX9_release 129 = .ok (.iconst 0, 1) := by decide +kernel
theorem dX9_release_130 : decode cX9_release 130 = .ok (.bastore, 1) := by decide +kernel
theorem dX9_release_131 : decode cX9_release 131 = .ok (.iload_n 2, 1) := by decide +kernel
theorem dX9_release_132 : decode cX9_release 132 = .ok (.ireturn, 1) := by decide +kernel
theorem dX9_fetch_0 : decode cX9_fetch 0 = .ok (.aload_n 0, 1) := by decide +kernel
theorem dX9_fetch_1 : decode cX9_fetch 1 = .ok (.aload_n 0, 1) := by decide +kernel
theorem dX9_fetch_2 : decode cX9_fetch 2 = .ok (.iload_n 1, 1) := by decide +kernel
theorem dX9_fetch_3 : decode cX9_fetch 3 = .ok (.invokevirtual 208, 3) := by decide +kernel
theorem dX9_fetch_6 : decode cX9_fetch 6 = .ok (.ifCond .eq 15, 3) := by decide +kernel
theorem dX9_fetch_9 : decode cX9_fetch 9 = .ok (.aload_n 0, 1) := by decide +kernel
theorem dX9_fetch_10 : decode cX9_fetch 10 = .ok (.iload_n 2, 1) := by decide +kernel
theorem dX9_fetch_11 : decode cX9_fetch 11 = .ok (.invokevirtual 114, 3) := by decide +kernel
theorem dX9_fetch_14 : decode cX9_fetch 14 = .ok (.ifCond .eq 7, 3) := by decide +kernel
theorem dX9_fetch_17 : decode cX9_fetch 17 = .ok (.iconst 1, 1) := by decide +kernel
theorem dX9_fetch_18 : decode cX9_fetch 18 = .ok (.goto 4, 3) := by decide +kernel
theorem dX9_fetch_21 : decode cX9_fetch 21 = .ok (.iconst 0, 1) := by decide +kernel
theorem dX9_fetch_22 : decode cX9_fetch 22 = .ok (.invokevirtual 106, 3) := by decide +kernel
theorem dX9_fetch_25 : decode cX9_fetch 25 = .ok (.ifCond .ne 5, 3) := by decide +kernel
theorem dX9_fetch_28 : decode cX9_fetch 28 = .ok (.iconst 0, 1) := by decide +kernel
theorem dX9_fetch_29 : decode cX9_fetch 29 = .ok (.ireturn, 1) := by decide +kernel
theorem dX9_fetch_30 : decode cX9_fetch 30 = .ok (.aload_n 0, 1) := by decide +kernel
theorem dX9_fetch_31 : decode cX9_fetch 31 = .ok (.aload_n 0, 1) := by decide +kernel
theorem dX9_fetch_32 : decode cX9_fetch 32 = .ok (.iload_n 1, 1) := by decide +kernel
theorem dX9_fetch_33 : decode cX9_fetch 33 = .ok (.aload_n 0, 1) := by decide +kernel
theorem dX9_fetch_34 : decode cX9_fetch 34 = .ok (.getfield 91, 3) := by decide +kernel
theorem dX9_fetch_37 : decode cX9_fetch 37 = .ok (.iload_n 1, 1) := by decide +kernel
theorem dX9_fetch_38 : decode cX9_fetch 38 = .ok (.iaload, 1) := by decide +kernel
theorem dX9_fetch_39 : decode cX9_fetch 39 = .ok (.invokevirtual 215, 3) := by decide +kernel
theorem dX9_fetch_42 : decode cX9_fetch 42 = .ok (.bipush 120, 2) := by decide +kernel
theorem dX9_fetch_44 : decode cX9_fetch 44 = .ok (.iload_n 1, 1) := by decide +kernel
theorem dX9_fetch_45 : decode cX9_fetch 45 = .ok (.imul, 1) := by decide +kernel
theorem dX9_fetch_46 : decode cX9_fetch 46 = .ok (.isub, 1) := by decide +kernel
theorem dX9_fetch_47 : decode cX9_fetch 47 = .ok (.putfield 125, 3) := by decide +kernel
theorem dX9_fetch_50 : decode cX9_fetch 50 = .ok (.iconst 0, 1) := by decide +kernel
theorem dX9_fetch_51 : decode cX9_fetch 51 = .ok (.istore_n 3, 1) := by decide +kernel
theorem dX9_fetch_52 : decode cX9_fetch 52 = .ok (.iload_n 3, 1) := by decide +kernel
theorem dX9_fetch_53 : decode cX9_fetch 53 = .ok (.aload_n 0, 1) := by decide +kernel
theorem dX9_fetch_54 : decode cX9_fetch 54 = .ok (.getfield 125, 3) := by decide +kernel
theorem dX9_fetch_57 : decode cX9_fetch 57 = .ok (.if_icmp .ge 26, 3) := by decide +kernel
theorem dX9_fetch_60 : decode cX9_fetch 60 = .ok (.aload_n 0, 1) := by decide +kernel
theorem dX9_fetch_61 : decode cX9_fetch 61 = .ok (.getfield 72, 3) := by decide +kernel
theorem dX9_fetch_64 : decode cX9_fetch 64 = .ok (.iload_n 3, 1) := by decide +kernel
theorem dX9_fetch_65 : decode cX9_fetch 65 = .ok (.aload_n 0, 1) := by decide +kernel
theorem dX9_fetch_66 : decode cX9_fetch 66 = .ok (.getfield 97, 3) := by decide +kernel
theorem dX9_fetch_69 : decode cX9_fetch 69 = .ok (.bipush 120, 2) := by decide +kernel
theorem dX9_fetch_71 : decode cX9_fetch 71 = .ok (.iload_n 1, 1) := by decide +kernel
theorem dX9_fetch_72 : decode cX9_fetch 72 = .ok (.imul, 1) := by decide +kernel
theorem dX9_fetch_73 : decode cX9_fetch 73 = .ok (.iload_n 3, 1) := by decide +kernel
theorem dX9_fetch_74 : decode cX9_fetch 74 = .ok (.iadd, 1) := by decide +kernel
theorem dX9_fetch_75 : decode cX9_fetch 75 = .ok (.iaload, 1) := by decide +kernel
theorem dX9_fetch_76 : decode cX9_fetch 76 = .ok (.iastore, 1) := by decide +kernel
theorem dX9_fetch_77 : decode cX9_fetch 77 = .ok (.iinc 3 1, 3) := by decide +kernel
theorem dX9_fetch_80 : decode cX9_fetch 80 = .ok (.goto (-28), 3) := by decide +kernel
theorem dX9_fetch_83 : decode cX9_fetch 83 = .ok (.aload_n 0, 1) := by decide +kernel
theorem dX9_fetch_84 : decode cX9_fetch 84 = .ok (.iload_n 2, 1) := by decide +kernel
theorem dX9_fetch_85 : decode cX9_fetch 85 = .ok (.invokevirtual 177, 3) := by decide +kernel
theorem dX9_fetch_88 : decode cX9_fetch 88 = .ok (.ireturn, 1) := by decide +kernel
theorem dX9_papers_0 : decode cX9_papers 0 = .ok (.aload_n 0, 1) := by decide +kernel
theorem dX9_papers_1 : decode cX9_papers 1 = .ok (.iconst 0, 1) := by decide +kernel
theorem dX9_papers_2 : decode cX9_papers 2 = .ok (.putfield 100, 3) := by decide +kernel
theorem dX9_papers_5 : decode cX9_papers 5 = .ok (.iconst 0, 1) := by decide +kernel
theorem dX9_papers_6 : decode cX9_papers 6 = .ok (.istore_n 1, 1) := by decide +kernel
theorem dX9_papers_7 : decode cX9_papers 7 = .ok (.iconst 0, 1) := by decide +kernel
theorem dX9_papers_8 : decode cX9_papers 8 = .ok (.istore_n 2, 1) := by decide +kernel
theorem dX9_papers_9 : decode cX9_papers 9 = .ok (.iload_n 2, 1) := by decide +kernel
theorem dX9_papers_10 : decode cX9_papers 10 = .ok (.bipush 12, 2) := by decide +kernel
theorem dX9_papers_12 : decode cX9_papers 12 = .ok (.if_icmp .ge 26, 3) := by decide +kernel
theorem dX9_papers_15 : decode cX9_papers 15 = .ok (.iload_n 1, 1) := by decide +kernel
theorem dX9_papers_16 : decode cX9_papers 16 = .ok (.aload_n 0, 1) := by decide +kernel
theorem dX9_papers_17 : decode cX9_papers 17 = .ok (.getfield 88, 3) := by decide +kernel
theorem dX9_papers_20 : decode cX9_papers 20 = .ok (.iload_n 2, 1) := by decide +kernel
theorem dX9_papers_21 : decode cX9_papers 21 = .ok (.baload, 1) := by decide +kernel
theorem dX9_papers_22 : decode cX9_papers 22 = .ok (.ifCond .eq 7, 3) := by decide +kernel
theorem dX9_papers_25 : decode cX9_papers 25 = .ok (.iconst 1, 1) := by decide +kernel
theorem dX9_papers_26 : decode cX9_papers 26 = .ok (.goto 4, 3) := by decide +kernel
theorem dX9_papers_29 : decode cX9_papers 29 = .ok (.iconst 0, 1) := by decide +kernel
theorem dX9_papers_30 : decode cX9_papers 30 = .ok (.iadd, 1) := by decide +kernel
theorem dX9_papers_31 : decode cX9_papers 31 = .ok (.istore_n 1, 1) := by decide +kernel
theorem dX9_papers_32 : decode cX9_papers 32 = .ok (.iinc 2 1, 3) := by decide +kernel
theorem dX9_papers_35 : decode cX9_papers 35 = .ok (.goto (-26), 3) := by decide +kernel
theorem dX9_papers_38 : decode cX9_papers 38 = .ok (.iload_n 1, 1) := by decide +kernel
theorem dX9_papers_39 : decode cX9_papers 39 = .ok (.ireturn, 1) := by decide +kernel
theorem dX9_held_0 : decode cX9_held 0 = .ok (.iconst 0, 1) := by decide +kernel
theorem dX9_held_1 : decode cX9_held 1 = .ok (.istore_n 2, 1) := by decide +kernel
theorem dX9_held_2 : decode cX9_held 2 = .ok (.iconst 0, 1) := by decide +kernel
theorem dX9_held_3 : decode cX9_held 3 = .ok (.istore_n 3, 1) := by decide +kernel
theorem dX9_held_4 : decode cX9_held 4 = .ok (.iload_n 3, 1) := by decide +kernel
theorem dX9_held_5 : decode cX9_held 5 = .ok (.bipush 12, 2) := by decide +kernel
theorem dX9_held_7 : decode cX9_held 7 = .ok (.if_icmp .ge 93, 3) := by decide +kernel
theorem dX9_held_10 : decode cX9_held 10 = .ok (.bipush 120, 2) := by decide +kernel
theorem dX9_held_12 : decode cX9_held 12 = .ok (.iload_n 3, 1) := by decide +kernel
theorem dX9_held_13 : decode cX9_held 13 = .ok (.imul, 1) := by decide +kernel
theorem dX9_held_14 : decode cX9_held 14 = .ok (.istore 4, 2) := by decide +kernel
theorem dX9_held_16 : decode cX9_held 16 = .ok (.iconst 0, 1) := by decide +kernel
theorem dX9_held_17 : decode cX9_held 17 = .ok (.istore 5, 2) := by decide +kernel
theorem dX9_held_19 : decode cX9_held 19 = .ok (.iload 5, 2) := by decide +kernel
theorem dX9_held_21 : decode cX9_held 21 = .ok (.aload_n 0, 1) := by decide +kernel
theorem dX9_held_22 : decode cX9_held 22 = .ok (.getfield 91, 3) := by decide +kernel
theorem dX9_held_25 : decode cX9_held 25 = .ok (.iload_n 3, 1) := by decide +kernel
theorem dX9_held_26 : decode cX9_held 26 = .ok (.iaload, 1) := by decide +kernel
theorem dX9_held_27 : decode cX9_held 27 = .ok (.if_icmp .ge 67, 3) := by decide +kernel
theorem dX9_held_30 : decode cX9_held 30 = .ok (.aload_n 0, 1) := by decide +kernel
theorem dX9_held_31 : decode cX9_held 31 = .ok (.getfield 88, 3) := by decide +kernel
theorem dX9_held_34 : decode cX9_held 34 = .ok (.iload_n 3, 1) := by decide +kernel
theorem dX9_held_35 : decode cX9_held 35 = .ok (.baload, 1) := by decide +kernel
theorem dX9_held_36 : decode cX9_held 36 = .ok (.ifCond .eq 58, 3) := by decide +kernel
theorem dX9_held_39 : decode cX9_held 39 = .ok (.aload_n 0, 1) := by decide +kernel
theorem dX9_held_40 : decode cX9_held 40 = .ok (.getfield 94, 3) := by decide +kernel
theorem dX9_held_43 : decode cX9_held 43 = .ok (.bipush 120, 2) := by decide +kernel
theorem dX9_held_45 : decode cX9_held 45 = .ok (.iload_n 3, 1) := by decide +kernel
theorem dX9_held_46 : decode cX9_held 46 = .ok (.imul, 1) := by decide +kernel
theorem dX9_held_47 : decode cX9_held 47 = .ok (.iload 5, 2) := by decide +kernel
theorem dX9_held_49 : decode cX9_held 49 = .ok (.iadd, 1) := by decide +kernel
theorem dX9_held_50 : decode cX9_held 50 = .ok (.iaload, 1) := by decide +kernel
theorem dX9_held_51 : decode cX9_held 51 = .ok (.istore 6, 2) := by decide +kernel
theorem dX9_held_53 : decode cX9_held 53 = .ok (.aload_n 0, 1) := by decide +kernel
theorem dX9_held_54 : decode cX9_held 54 = .ok (.iload 4, 2) := by decide +kernel
theorem dX9_held_56 : decode cX9_held 56 = .ok (.iload 6, 2) := by decide +kernel
theorem dX9_held_58 : decode cX9_held 58 = .ok (.iload_n 3, 1) := by decide +kernel
theorem dX9_held_59 : decode cX9_held 59 = .ok (.iload 5, 2) := by decide +kernel
theorem dX9_held_61 : decode cX9_held 61 = .ok (.iconst (-1), 1) := by decide +kernel
theorem dX9_held_62 : decode cX9_held 62 = .ok (.invokevirtual 211, 3) := by decide +kernel
theorem dX9_held_65 : decode cX9_held 65 = .ok (.ifCond .ne 16, 3) := by decide +kernel
theorem dX9_held_68 : decode cX9_held 68 = .ok (.iload_n 2, 1) := by decide +kernel
theorem dX9_held_69 : decode cX9_held 69 = .ok (.iload_n 1, 1) := by decide +kernel
theorem dX9_held_70 : decode cX9_held 70 = .ok (.ifCond .eq 8, 3) := by decide +kernel
theorem dX9_held_73 : decode cX9_held 73 = .ok (.iload 6, 2) := by decide +kernel
theorem dX9_held_75 : decode cX9_held 75 = .ok (.goto 4, 3) := by decide +kernel
theorem dX9_held_78 : decode cX9_held 78 = .ok (.iconst 1, 1) := by decide +kernel
theorem dX9_held_79 : decode cX9_held 79 = .ok (.iadd, 1) := by decide +kernel
theorem dX9_held_80 : decode cX9_held 80 = .ok (.istore_n 2, 1) := by decide +kernel
theorem dX9_held_81 : decode cX9_held 81 = .ok (.iload 4, 2) := by decide +kernel
theorem dX9_held_83 : decode cX9_held 83 = .ok (.iload 6, 2) := by decide +kernel
theorem dX9_held_85 : decode cX9_held 85 = .ok (.iadd, 1) := by decide +kernel
theorem dX9_held_86 : decode cX9_held 86 = .ok (.istore 4, 2) := by decide +kernel
theorem dX9_held_88 : decode cX9_held 88 = .ok (.iinc 5 1, 3) := by decide +kernel
theorem dX9_held_91 : decode cX9_held 91 = .ok (.goto (-72), 3) := by decide +kernel
theorem dX9_held_94 : decode cX9_held 94 = .ok (.iinc 3 1, 3) := by decide +kernel
theorem dX9_held_97 : decode cX9_held 97 = .ok (.goto (-93), 3) := by decide +kernel
theorem dX9_held_100 : decode cX9_held 100 = .ok (.iload_n 2, 1) := by decide +kernel
theorem dX9_held_101 : decode cX9_held 101 = .ok (.ireturn, 1) := by decide +kernel
theorem dX9_chunks_0 : decode cX9_chunks 0 = .ok (.aload_n 0, 1) := by decide +kernel
theorem dX9_chunks_1 : decode cX9_chunks 1 = .ok (.iconst 0, 1) := by decide +kernel
theorem dX9_chunks_2 : decode cX9_chunks 2 = .ok (.putfield 100, 3) := by decide +kernel
theorem dX9_chunks_5 : decode cX9_chunks 5 = .ok (.aload_n 0, 1) := by decide +kernel
theorem dX9_chunks_6 : decode cX9_chunks 6 = .ok (.iconst 0, 1) := by decide +kernel
theorem dX9_chunks_7 : decode cX9_chunks 7 = .ok (.invokevirtual 218, 3) := by decide +kernel
theorem dX9_chunks_10 : decode cX9_chunks 10 = .ok (.ireturn, 1) := by decide +kernel
theorem dX9_heldBytes_0 : decode cX9_heldBytes 0 = .ok (.aload_n 0, 1) := by decide +kernel
theorem dX9_heldBytes_1 : decode cX9_heldBytes 1 = .ok (.iconst 0, 1) := by decide +kernel
theorem dX9_heldBytes_2 : decode cX9_heldBytes 2 = .ok (.putfield 100, 3) := by decide +kernel
theorem dX9_heldBytes_5 : decode cX9_heldBytes 5 = .ok (.aload_n 0, 1) := by decide +kernel
theorem dX9_heldBytes_6 : decode cX9_heldBytes 6 = .ok (.iconst 1, 1) := by decide +kernel
theorem dX9_heldBytes_7 : decode cX9_heldBytes 7 = .ok (.invokevirtual 218, 3) := by decide +kernel
theorem dX9_heldBytes_10 : decode cX9_heldBytes 10 = .ok (.ireturn, 1) := by decide +kernel
theorem dX9_parts_0 : decode cX9_parts 0 = .ok (.aload_n 0, 1) := by decide +kernel
theorem dX9_parts_1 : decode cX9_parts 1 = .ok (.aload_n 0, 1) := by decide +kernel
theorem dX9_parts_2 : decode cX9_parts 2 = .ok (.iload_n 1, 1) := by decide +kernel
theorem dX9_parts_3 : decode cX9_parts 3 = .ok (.invokevirtual 208, 3) := by decide +kernel
theorem dX9_parts_6 : decode cX9_parts 6 = .ok (.invokevirtual 106, 3) := by decide +kernel
theorem dX9_parts_9 : decode cX9_parts 9 = .ok (.ifCond .eq 12, 3) := by decide +kernel
theorem dX9_parts_12 : decode cX9_parts 12 = .ok (.aload_n 0, 1) := by decide +kernel
theorem dX9_parts_13 : decode cX9_parts 13 = .ok (.getfield 91, 3) := by decide +kernel
theorem dX9_parts_16 : decode cX9_parts 16 = .ok (.iload_n 1, 1) := by decide +kernel
theorem dX9_parts_17 : decode cX9_parts 17 = .ok (.iaload, 1) := by decide +kernel
theorem dX9_parts_18 : decode cX9_parts 18 = .ok (.goto 4, 3) := by decide +kernel
theorem dX9_parts_21 : decode cX9_parts 21 = .ok (.iconst 0, 1) := by decide +kernel
theorem dX9_parts_22 : decode cX9_parts 22 = .ok (.ireturn, 1) := by decide +kernel
theorem dX9_isPart_0 : decode cX9_isPart 0 = .ok (.aload_n 0, 1) := by decide +kernel
theorem dX9_isPart_1 : decode cX9_isPart 1 = .ok (.iload_n 1, 1) := by decide +kernel
theorem dX9_isPart_2 : decode cX9_isPart 2 = .ok (.invokevirtual 208, 3) := by decide +kernel
theorem dX9_isPart_5 : decode cX9_isPart 5 = .ok (.ifCond .eq 21, 3) := by decide +kernel
theorem dX9_isPart_8 : decode cX9_isPart 8 = .ok (.iload_n 2, 1) := by decide +kernel
theorem dX9_isPart_9 : decode cX9_isPart 9 = .ok (.ifCond .lt 17, 3) := by decide +kernel
theorem dX9_isPart_12 : decode cX9_isPart 12 = .ok (.iload_n 2, 1) := by decide +kernel
theorem dX9_isPart_13 : decode cX9_isPart 13 = .ok (.aload_n 0, 1) := by decide +kernel
theorem dX9_isPart_14 : decode cX9_isPart 14 = .ok (.getfield 91, 3) := by decide +kernel
theorem dX9_isPart_17 : decode cX9_isPart 17 = .ok (.iload_n 1, 1) := by decide +kernel
theorem dX9_isPart_18 : decode cX9_isPart 18 = .ok (.iaload, 1) := by decide +kernel
theorem dX9_isPart_19 : decode cX9_isPart 19 = .ok (.if_icmp .ge 7, 3) := by decide +kernel
theorem dX9_isPart_22 : decode cX9_isPart 22 = .ok (.iconst 1, 1) := by decide +kernel
theorem dX9_isPart_23 : decode cX9_isPart 23 = .ok (.goto 4, 3) := by decide +kernel
theorem dX9_isPart_26 : decode cX9_isPart 26 = .ok (.iconst 0, 1) := by decide +kernel
theorem dX9_isPart_27 : decode cX9_isPart 27 = .ok (.ireturn, 1) := by decide +kernel
theorem dX9_partLength_0 : decode cX9_partLength 0 = .ok (.aload_n 0, 1) := by decide +kernel
theorem dX9_partLength_1 : decode cX9_partLength 1 = .ok (.aload_n 0, 1) := by decide +kernel
theorem dX9_partLength_2 : decode cX9_partLength 2 = .ok (.iload_n 1, 1) := by decide +kernel
theorem dX9_partLength_3 : decode cX9_partLength 3 = .ok (.iload_n 2, 1) := by decide +kernel
theorem dX9_partLength_4 : decode cX9_partLength 4 = .ok (.invokevirtual 222, 3) := by decide +kernel
theorem dX9_partLength_7 : decode cX9_partLength 7 = .ok (.invokevirtual 106, 3) := by decide +kernel
theorem dX9_partLength_10 : decode cX9_partLength 10 = .ok (.ifCond .eq 17, 3) := by decide +kernel
theorem dX9_partLength_13 : decode cX9_partLength 13 = .ok (.aload_n 0, 1) := by decide +kernel
theorem dX9_partLength_14 : decode cX9_partLength 14 = .ok (.getfield 94, 3) := by decide +kernel
theorem dX9_partLength_17 : decode cX9_partLength 17 = .ok (.bipush 120, 2) := by decide +kernel
theorem dX9_partLength_19 : decode cX9_partLength 19 = .ok (.iload_n 1, 1) := by decide +kernel
theorem dX9_partLength_20 : decode cX9_partLength 20 = .ok (.imul, 1) := by decide +kernel
theorem dX9_partLength_21 : decode cX9_partLength 21 = .ok (.iload_n 2, 1) := by decide +kernel
theorem dX9_partLength_22 : decode cX9_partLength 22 = .ok (.iadd, 1) := by decide +kernel
theorem dX9_partLength_23 : decode cX9_partLength 23 = .ok (.iaload, 1) := by decide +kernel
theorem dX9_partLength_24 : decode cX9_partLength 24 = .ok (.goto 4, 3) := by decide +kernel
theorem dX9_partLength_27 : decode cX9_partLength 27 = .ok (.iconst 0, 1) := by decide +kernel
theorem dX9_partLength_28 : decode cX9_partLength 28 = .ok (.ireturn, 1) := by decide +kernel
theorem dX9_shared_0 : decode cX9_shared 0 = .ok (.aload_n 0, 1) := by decide +kernel
theorem dX9_shared_1 : decode cX9_shared 1 = .ok (.aload_n 0, 1) := by decide +kernel
theorem dX9_shared_2 : decode cX9_shared 2 = .ok (.iload_n 1, 1) := by decide +kernel
theorem dX9_shared_3 : decode cX9_shared 3 = .ok (.iload_n 2, 1) := by decide +kernel
theorem dX9_shared_4 : decode cX9_shared 4 = .ok (.invokevirtual 222, 3) := by decide +kernel
theorem dX9_shared_7 : decode cX9_shared 7 = .ok (.invokevirtual 106, 3) := by decide +kernel
theorem dX9_shared_10 : decode cX9_shared 10 = .ok (.ifCond .eq 37, 3) := by decide +kernel
theorem dX9_shared_13 : decode cX9_shared 13 = .ok (.aload_n 0, 1) := by decide +kernel
theorem dX9_shared_14 : decode cX9_shared 14 = .ok (.aload_n 0, 1) := by decide +kernel
theorem dX9_shared_15 : decode cX9_shared 15 = .ok (.iload_n 1, 1) := by decide +kernel
theorem dX9_shared_16 : decode cX9_shared 16 = .ok (.iload_n 2, 1) := by decide +kernel
theorem dX9_shared_17 : decode cX9_shared 17 = .ok (.invokevirtual 215, 3) := by decide +kernel
theorem dX9_shared_20 : decode cX9_shared 20 = .ok (.aload_n 0, 1) := by decide +kernel
theorem dX9_shared_21 : decode cX9_shared 21 = .ok (.getfield 94, 3) := by decide +kernel
theorem dX9_shared_24 : decode cX9_shared 24 = .ok (.bipush 120, 2) := by decide +kernel
theorem dX9_shared_26 : decode cX9_shared 26 = .ok (.iload_n 1, 1) := by decide +kernel
theorem dX9_shared_27 : decode cX9_shared 27 = .ok (.imul, 1) := by decide +kernel
theorem dX9_shared_28 : decode cX9_shared 28 = .ok (.iload_n 2, 1) := by decide +kernel
theorem dX9_shared_29 : decode cX9_shared 29 = .ok (.iadd, 1) := by decide +kernel
theorem dX9_shared_30 : decode cX9_shared 30 = .ok (.iaload, 1) := by decide +kernel
theorem dX9_shared_31 : decode cX9_shared 31 = .ok (.bipush 11, 2) := by decide +kernel
theorem dX9_shared_33 : decode cX9_shared 33 = .ok (.aload_n 0, 1) := by decide +kernel
theorem dX9_shared_34 : decode cX9_shared 34 = .ok (.getfield 91, 3) := by decide +kernel
theorem dX9_shared_37 : decode cX9_shared 37 = .ok (.bipush 11, 2) := by decide +kernel
theorem dX9_shared_39 : decode cX9_shared 39 = .ok (.iaload, 1) := by decide +kernel
theorem dX9_shared_40 : decode cX9_shared 40 = .ok (.iconst (-1), 1) := by decide +kernel
theorem dX9_shared_41 : decode cX9_shared 41 = .ok (.invokevirtual 211, 3) := by decide +kernel
theorem dX9_shared_44 : decode cX9_shared 44 = .ok (.goto 4, 3) := by decide +kernel
theorem dX9_shared_47 : decode cX9_shared 47 = .ok (.iconst 0, 1) := by decide +kernel
theorem dX9_shared_48 : decode cX9_shared 48 = .ok (.ireturn, 1) := by decide +kernel
theorem dJ9_max_7cf53_0 : decode cJ9_max_7cf53 0 = .ok (.iload_n 0, 1) := by decide +kernel
theorem dJ9_max_7cf53_1 : decode cJ9_max_7cf53 1 = .ok (.iload_n 1, 1) := by decide +kernel
theorem dJ9_max_7cf53_2 : decode cJ9_max_7cf53 2 = .ok (.if_icmp .lt 7, 3) := by decide +kernel
theorem dJ9_max_7cf53_5 : decode cJ9_max_7cf53 5 = .ok (.iload_n 0, 1) := by decide +kernel
theorem dJ9_max_7cf53_6 : decode cJ9_max_7cf53 6 = .ok (.goto 4, 3) := by decide +kernel
theorem dJ9_max_7cf53_9 : decode cJ9_max_7cf53 9 = .ok (.iload_n 1, 1) := by decide +kernel
theorem dJ9_max_7cf53_10 : decode cJ9_max_7cf53 10 = .ok (.ireturn, 1) := by decide +kernel
theorem dJ9_min_7cf53_0 : decode cJ9_min_7cf53 0 = .ok (.iload_n 0, 1) := by decide +kernel
theorem dJ9_min_7cf53_1 : decode cJ9_min_7cf53 1 = .ok (.iload_n 1, 1) := by decide +kernel
theorem dJ9_min_7cf53_2 : decode cJ9_min_7cf53 2 = .ok (.if_icmp .gt 7, 3) := by decide +kernel
theorem dJ9_min_7cf53_5 : decode cJ9_min_7cf53 5 = .ok (.iload_n 0, 1) := by decide +kernel
theorem dJ9_min_7cf53_6 : decode cJ9_min_7cf53 6 = .ok (.goto 4, 3) := by decide +kernel
theorem dJ9_min_7cf53_9 : decode cJ9_min_7cf53 9 = .ok (.iload_n 1, 1) := by decide +kernel
theorem dJ9_min_7cf53_10 : decode cJ9_min_7cf53 10 = .ok (.ireturn, 1) := by decide +kernel
theorem dJxa1e45_init_da8c8_0 : decode cJxa1e45_init_da8c8 0 = .ok (.aload_n 0, 1) := by decide +kernel
theorem dJxa1e45_init_da8c8_1 : decode cJxa1e45_init_da8c8 1 = .ok (.invokespecial 1, 3) := by decide +kernel
theorem dJxa1e45_init_da8c8_4 : decode cJxa1e45_init_da8c8 4 = .ok (.return_, 1) := by decide +kernel
theorem dJxc12de_init_da8c8_0 : decode cJxc12de_init_da8c8 0 = .ok (.aload_n 0, 1) := by decide +kernel
theorem dJxc12de_init_da8c8_1 : decode cJxc12de_init_da8c8 1 = .ok (.invokespecial 1, 3) := by decide +kernel
theorem dJxc12de_init_da8c8_4 : decode cJxc12de_init_da8c8 4 = .ok (.aload_n 0, 1) := by decide +kernel
theorem dJxc12de_init_da8c8_5 : decode cJxc12de_init_da8c8 5 = .ok (.iconst 0, 1) := by decide +kernel
theorem dJxc12de_init_da8c8_6 : decode cJxc12de_init_da8c8 6 = .ok (.putfield 7, 3) := by decide +kernel
theorem dJxc12de_init_da8c8_9 : decode cJxc12de_init_da8c8 9 = .ok (.return_, 1) := by decide +kernel
theorem dJx4a65c_init_da8c8_0 : decode cJx4a65c_init_da8c8 0 = .ok (.aload_n 0, 1) := by decide +kernel
theorem dJx4a65c_init_da8c8_1 : decode cJx4a65c_init_da8c8 1 = .ok (.invokespecial 1, 3) := by decide +kernel
theorem dJx4a65c_init_da8c8_4 : decode cJx4a65c_init_da8c8 4 = .ok (.aload_n 0, 1) := by decide +kernel
theorem dJx4a65c_init_da8c8_5 : decode cJx4a65c_init_da8c8 5 = .ok (.getstatic 39, 3) := by decide +kernel
theorem dJx4a65c_init_da8c8_8 : decode cJx4a65c_init_da8c8 8 = .ok (.putfield 9, 3) := by decide +kernel
theorem dJx4a65c_init_da8c8_11 : decode cJx4a65c_init_da8c8 11 = .ok (.return_, 1) := by decide +kernel
theorem dJx4a65c_grow_92f84_0 : decode cJx4a65c_grow_92f84 0 = .ok (.aload_n 0, 1) := by decide +kernel
theorem dJx4a65c_grow_92f84_1 : decode cJx4a65c_grow_92f84 1 = .ok (.getfield 9, 3) := by decide +kernel
theorem dJx4a65c_grow_92f84_4 : decode cJx4a65c_grow_92f84 4 = .ok (.arraylength, 1) := by decide +kernel
theorem dJx4a65c_grow_92f84_5 : decode cJx4a65c_grow_92f84 5 = .ok (.istore_n 2, 1) := by decide +kernel
theorem dJx4a65c_grow_92f84_6 : decode cJx4a65c_grow_92f84 6 = .ok (.iload_n 2, 1) := by decide +kernel
theorem dJx4a65c_grow_92f84_7 : decode cJx4a65c_grow_92f84 7 = .ok (.ifCond .gt 13, 3) := by decide +kernel
theorem dJx4a65c_grow_92f84_10 : decode cJx4a65c_grow_92f84 10 = .ok (.aload_n 0, 1) := by decide +kernel
theorem dJx4a65c_grow_92f84_11 : decode cJx4a65c_grow_92f84 11 = .ok (.getfield 9, 3) := by decide +kernel
theorem dJx4a65c_grow_92f84_14 : decode cJx4a65c_grow_92f84 14 = .ok (.getstatic 39, 3) := by decide +kernel
theorem dJx4a65c_grow_92f84_17 : decode cJx4a65c_grow_92f84 17 = .ok (.if_acmp .eq 28, 3) := by decide +kernel
theorem dJx4a65c_grow_92f84_20 : decode cJx4a65c_grow_92f84 20 = .ok (.iload_n 2, 1) := by decide +kernel
theorem dJx4a65c_grow_92f84_21 : decode cJx4a65c_grow_92f84 21 = .ok (.iload_n 1, 1) := by decide +kernel
theorem dJx4a65c_grow_92f84_22 : decode cJx4a65c_grow_92f84 22 = .ok (.iload_n 2, 1) := by decide +kernel
theorem dJx4a65c_grow_92f84_23 : decode cJx4a65c_grow_92f84 23 = .ok (.isub, 1) := by decide +kernel
theorem dJx4a65c_grow_92f84_24 : decode cJx4a65c_grow_92f84 24 = .ok (.iload_n 2, 1) := by decide +kernel
theorem dJx4a65c_grow_92f84_25 : decode cJx4a65c_grow_92f84 25 = .ok (.iconst 1, 1) := by decide +kernel
theorem dJx4a65c_grow_92f84_26 : decode cJx4a65c_grow_92f84 26 = .ok (.ishr, 1) := by decide +kernel
theorem dJx4a65c_grow_92f84_27 : decode cJx4a65c_grow_92f84 27 = .ok (.invokestatic 73, 3) := by decide +kernel
theorem dJx4a65c_grow_92f84_30 : decode cJx4a65c_grow_92f84 30 = .ok (.istore_n 3, 1) := by decide +kernel
theorem dJx4a65c_grow_92f84_31 : decode cJx4a65c_grow_92f84 31 = .ok (.aload_n 0, 1) := by decide +kernel
theorem dJx4a65c_grow_92f84_32 : decode cJx4a65c_grow_92f84 32 = .ok (.aload_n 0, 1) := by decide +kernel
theorem dJx4a65c_grow_92f84_33 : decode cJx4a65c_grow_92f84 33 = .ok (.getfield 9, 3) := by decide +kernel
theorem dJx4a65c_grow_92f84_36 : decode cJx4a65c_grow_92f84 36 = .ok (.iload_n 3, 1) := by decide +kernel
theorem dJx4a65c_grow_92f84_37 : decode cJx4a65c_grow_92f84 37 = .ok (.invokestatic 66, 3) := by decide +kernel
theorem dJx4a65c_grow_92f84_40 : decode cJx4a65c_grow_92f84 40 = .ok (.dup_x1, 1) := by decide +kernel
theorem dJx4a65c_grow_92f84_41 : decode cJx4a65c_grow_92f84 41 = .ok (.putfield 9, 3) := by decide +kernel
theorem dJx4a65c_grow_92f84_44 : decode cJx4a65c_grow_92f84 44 = .ok (.areturn, 1) := by decide +kernel
theorem dJx4a65c_grow_92f84_45 : decode cJx4a65c_grow_92f84 45 = .ok (.aload_n 0, 1) := by decide +kernel
theorem dJx4a65c_grow_92f84_46 : decode cJx4a65c_grow_92f84 46 = .ok (.bipush 10, 2) := by decide +kernel
theorem dJx4a65c_grow_92f84_48 : decode cJx4a65c_grow_92f84 48 = .ok (.iload_n 1, 1) := by decide +kernel
theorem dJx4a65c_grow_92f84_49 : decode cJx4a65c_grow_92f84 49 = .ok (.invokestatic 79, 3) := by decide +kernel
theorem dJx4a65c_grow_92f84_52 : decode cJx4a65c_grow_92f84 52 = .ok (.anewarray 7, 3) := by decide +kernel
theorem dJx4a65c_grow_92f84_55 : decode cJx4a65c_grow_92f84 55 = .ok (.dup_x1, 1) := by decide +kernel
theorem dJx4a65c_grow_92f84_56 : decode cJx4a65c_grow_92f84 56 = .ok (.putfield 9, 3) := by decide +kernel
theorem dJx4a65c_grow_92f84_59 : decode cJx4a65c_grow_92f84 59 = .ok (.areturn, 1) := by decide +kernel
theorem dJx4a65c_grow_d5877_0 : decode cJx4a65c_grow_d5877 0 = .ok (.aload_n 0, 1) := by decide +kernel
theorem dJx4a65c_grow_d5877_1 : decode cJx4a65c_grow_d5877 1 = .ok (.aload_n 0, 1) := by decide +kernel
theorem dJx4a65c_grow_d5877_2 : decode cJx4a65c_grow_d5877 2 = .ok (.getfield 48, 3) := by decide +kernel
theorem dJx4a65c_grow_d5877_5 : decode cJx4a65c_grow_d5877 5 = .ok (.iconst 1, 1) := by decide +kernel
theorem dJx4a65c_grow_d5877_6 : decode cJx4a65c_grow_d5877 6 = .ok (.iadd, 1) := by decide +kernel
theorem dJx4a65c_grow_d5877_7 : decode cJx4a65c_grow_d5877 7 = .ok (.invokevirtual 69, 3) := by decide +kernel
theorem dJx4a65c_grow_d5877_10 : decode cJx4a65c_grow_d5877 10 = .ok (.areturn, 1) := by decide +kernel
theorem dJx4a65c_size_8abf5_0 : decode cJx4a65c_size_8abf5 0 = .ok (.aload_n 0, 1) := by decide +kernel
theorem dJx4a65c_size_8abf5_1 : decode cJx4a65c_size_8abf5 1 = .ok (.getfield 48, 3) := by decide +kernel
theorem dJx4a65c_size_8abf5_4 : decode cJx4a65c_size_8abf5 4 = .ok (.ireturn, 1) := by decide +kernel
theorem dJx4a65c_elementData_915e3_0 : decode cJx4a65c_elementData_915e3 0 = .ok (.aload_n 0, 1) := by decide +kernel
theorem dJx4a65c_elementData_915e3_1 : decode cJx4a65c_elementData_915e3 1 = .ok (.getfield 9, 3) := by decide +kernel
theorem dJx4a65c_elementData_915e3_4 : decode cJx4a65c_elementData_915e3 4 = .ok (.iload_n 1, 1) := by decide +kernel
theorem dJx4a65c_elementData_915e3_5 : decode cJx4a65c_elementData_915e3 5 = .ok (.aaload, 1) := by decide +kernel
theorem dJx4a65c_elementData_915e3_6 : decode cJx4a65c_elementData_915e3 6 = .ok (.areturn, 1) := by decide +kernel
theorem dJx4a65c_get_915e3_0 : decode cJx4a65c_get_915e3 0 = .ok (.iload_n 1, 1) := by decide +kernel
theorem dJx4a65c_get_915e3_1 : decode cJx4a65c_get_915e3 1 = .ok (.aload_n 0, 1) := by decide +kernel
theorem dJx4a65c_get_915e3_2 : decode cJx4a65c_get_915e3 2 = .ok (.getfield 48, 3) := by decide +kernel
theorem dJx4a65c_get_915e3_5 : decode cJx4a65c_get_915e3 5 = .ok (.invokestatic 118, 3) := by decide +kernel
theorem dJx4a65c_get_915e3_8 : decode cJx4a65c_get_915e3 8 = .ok (.pop, 1) := by decide +kernel
theorem dJx4a65c_get_915e3_9 : decode cJx4a65c_get_915e3 9 = .ok (.aload_n 0, 1) := by decide +kernel
theorem dJx4a65c_get_915e3_10 : decode cJx4a65c_get_915e3 10 = .ok (.iload_n 1, 1) := by decide +kernel
theorem dJx4a65c_get_915e3_11 : decode cJx4a65c_get_915e3 11 = .ok (.invokevirtual 123, 3) := by decide +kernel
theorem dJx4a65c_get_915e3_14 : decode cJx4a65c_get_915e3 14 = .ok (.areturn, 1) := by decide +kernel
theorem dJx4a65c_add_72be8_0 : decode cJx4a65c_add_72be8 0 = .ok (.iload_n 3, 1) := by decide +kernel
theorem dJx4a65c_add_72be8_1 : decode cJx4a65c_add_72be8 1 = .ok (.aload_n 2, 1) := by decide +kernel
theorem dJx4a65c_add_72be8_2 : decode cJx4a65c_add_72be8 2 = .ok (.arraylength, 1) := by decide +kernel
theorem dJx4a65c_add_72be8_3 : decode cJx4a65c_add_72be8 3 = .ok (.if_icmp .ne 8, 3) := by decide +kernel
theorem dJx4a65c_add_72be8_6 : decode cJx4a65c_add_72be8 6 = .ok (.aload_n 0, 1) := by decide +kernel
theorem dJx4a65c_add_72be8_7 : decode cJx4a65c_add_72be8 7 = .ok (.invokevirtual 129, 3) := by decide +kernel
theorem dJx4a65c_add_72be8_10 : decode cJx4a65c_add_72be8 10 = .ok (.astore_n 2, 1) := by decide +kernel
theorem dJx4a65c_add_72be8_11 : decode cJx4a65c_add_72be8 11 = .ok (.aload_n 2, 1) := by decide +kernel
theorem dJx4a65c_add_72be8_12 : decode cJx4a65c_add_72be8 12 = .ok (.iload_n 3, 1) := by decide +kernel
theorem dJx4a65c_add_72be8_13 : decode cJx4a65c_add_72be8 13 = .ok (.aload_n 1, 1) := by decide +kernel
theorem dJx4a65c_add_72be8_14 : decode cJx4a65c_add_72be8 14 = .ok (.aastore, 1) := by decide +kernel
theorem dJx4a65c_add_72be8_15 : decode cJx4a65c_add_72be8 15 = .ok (.aload_n 0, 1) := by decide +kernel
theorem dJx4a65c_add_72be8_16 : decode cJx4a65c_add_72be8 16 = .ok (.iload_n 3, 1) := by decide +kernel
theorem dJx4a65c_add_72be8_17 : decode cJx4a65c_add_72be8 17 = .ok (.iconst 1, 1) := by decide +kernel
theorem dJx4a65c_add_72be8_18 : decode cJx4a65c_add_72be8 18 = .ok (.iadd, 1) := by decide +kernel
theorem dJx4a65c_add_72be8_19 : decode cJx4a65c_add_72be8 19 = .ok (.putfield 48, 3) := by decide +kernel
theorem dJx4a65c_add_72be8_22 : decode cJx4a65c_add_72be8 22 = .ok (.return_, 1) := by decide +kernel
theorem dJx4a65c_add_9ea2d_0 : decode cJx4a65c_add_9ea2d 0 = .ok (.aload_n 0, 1) := by decide +kernel
theorem dJx4a65c_add_9ea2d_1 : decode cJx4a65c_add_9ea2d 1 = .ok (.dup, 1) := by decide +kernel
theorem dJx4a65c_add_9ea2d_2 : decode cJx4a65c_add_9ea2d 2 = .ok (.getfield 63, 3) := by decide +kernel
theorem dJx4a65c_add_9ea2d_5 : decode cJx4a65c_add_9ea2d 5 = .ok (.iconst 1, 1) := by decide +kernel
theorem dJx4a65c_add_9ea2d_6 : decode cJx4a65c_add_9ea2d 6 = .ok (.iadd, 1) := by decide +kernel
theorem dJx4a65c_add_9ea2d_7 : decode cJx4a65c_add_9ea2d 7 = .ok (.putfield 63, 3) := by decide +kernel
theorem dJx4a65c_add_9ea2d_10 : decode cJx4a65c_add_9ea2d 10 = .ok (.aload_n 0, 1) := by decide +kernel
theorem dJx4a65c_add_9ea2d_11 : decode cJx4a65c_add_9ea2d 11 = .ok (.aload_n 1, 1) := by decide +kernel
theorem dJx4a65c_add_9ea2d_12 : decode cJx4a65c_add_9ea2d 12 = .ok (.aload_n 0, 1) := by decide +kernel
theorem dJx4a65c_add_9ea2d_13 : decode cJx4a65c_add_9ea2d 13 = .ok (.getfield 9, 3) := by decide +kernel
theorem dJx4a65c_add_9ea2d_16 : decode cJx4a65c_add_9ea2d 16 = .ok (.aload_n 0, 1) := by decide +kernel
theorem dJx4a65c_add_9ea2d_17 : decode cJx4a65c_add_9ea2d 17 = .ok (.getfield 48, 3) := by decide +kernel
theorem dJx4a65c_add_9ea2d_20 : decode cJx4a65c_add_9ea2d 20 = .ok (.invokevirtual 131, 3) := by decide +kernel
theorem dJx4a65c_add_9ea2d_23 : decode cJx4a65c_add_9ea2d 23 = .ok (.iconst 1, 1) := by decide +kernel
theorem dJx4a65c_add_9ea2d_24 : decode cJx4a65c_add_9ea2d 24 = .ok (.ireturn, 1) := by decide +kernel
theorem dJx4a65c_clear_da8c8_0 : decode cJx4a65c_clear_da8c8 0 = .ok (.aload_n 0, 1) := by decide +kernel
theorem dJx4a65c_clear_da8c8_1 : decode cJx4a65c_clear_da8c8 1 = .ok (.dup, 1) := by decide +kernel
theorem dJx4a65c_clear_da8c8_2 : decode cJx4a65c_clear_da8c8 2 = .ok (.getfield 63, 3) := by decide +kernel
theorem dJx4a65c_clear_da8c8_5 : decode cJx4a65c_clear_da8c8 5 = .ok (.iconst 1, 1) := by decide +kernel
theorem dJx4a65c_clear_da8c8_6 : decode cJx4a65c_clear_da8c8 6 = .ok (.iadd, 1) := by decide +kernel
theorem dJx4a65c_clear_da8c8_7 : decode cJx4a65c_clear_da8c8 7 = .ok (.putfield 63, 3) := by decide +kernel
theorem dJx4a65c_clear_da8c8_10 : decode cJx4a65c_clear_da8c8 10 = .ok (.aload_n 0, 1) := by decide +kernel
theorem dJx4a65c_clear_da8c8_11 : decode cJx4a65c_clear_da8c8 11 = .ok (.getfield 9, 3) := by decide +kernel
theorem dJx4a65c_clear_da8c8_14 : decode cJx4a65c_clear_da8c8 14 = .ok (.astore_n 1, 1) := by decide +kernel
theorem dJx4a65c_clear_da8c8_15 : decode cJx4a65c_clear_da8c8 15 = .ok (.aload_n 0, 1) := by decide +kernel
theorem dJx4a65c_clear_da8c8_16 : decode cJx4a65c_clear_da8c8 16 = .ok (.getfield 48, 3) := by decide +kernel
theorem dJx4a65c_clear_da8c8_19 : decode cJx4a65c_clear_da8c8 19 = .ok (.istore_n 2, 1) := by decide +kernel
theorem dJx4a65c_clear_da8c8_20 : decode cJx4a65c_clear_da8c8 20 = .ok (.aload_n 0, 1) := by decide +kernel
theorem dJx4a65c_clear_da8c8_21 : decode cJx4a65c_clear_da8c8 21 = .ok (.iconst 0, 1) := by decide +kernel
theorem dJx4a65c_clear_da8c8_22 : decode cJx4a65c_clear_da8c8 22 = .ok (.dup_x1, 1) := by decide +kernel
theorem dJx4a65c_clear_da8c8_23 : decode cJx4a65c_clear_da8c8 23 = .ok (.putfield 48, 3) := by decide +kernel
theorem dJx4a65c_clear_da8c8_26 : decode cJx4a65c_clear_da8c8 26 = .ok (.istore_n 3, 1) := by decide +kernel
theorem dJx4a65c_clear_da8c8_27 : decode cJx4a65c_clear_da8c8 27 = .ok (.iload_n 3, 1) := by decide +kernel
theorem dJx4a65c_clear_da8c8_28 : decode cJx4a65c_clear_da8c8 28 = .ok (.iload_n 2, 1) := by decide +kernel
theorem dJx4a65c_clear_da8c8_29 : decode cJx4a65c_clear_da8c8 29 = .ok (.if_icmp .ge 13, 3) := by decide +kernel
theorem dJx4a65c_clear_da8c8_32 : decode cJx4a65c_clear_da8c8 32 = .ok (.aload_n 1, 1) := by decide +kernel
theorem dJx4a65c_clear_da8c8_33 : decode cJx4a65c_clear_da8c8 33 = .ok (.iload_n 3, 1) := by decide +kernel
theorem dJx4a65c_clear_da8c8_34 : decode cJx4a65c_clear_da8c8 34 = .ok (.aconst_null, 1) := by decide +kernel
theorem dJx4a65c_clear_da8c8_35 : decode cJx4a65c_clear_da8c8 35 = .ok (.aastore, 1) := by decide +kernel
theorem dJx4a65c_clear_da8c8_36 : decode cJx4a65c_clear_da8c8 36 = .ok (.iinc 3 1, 3) := by decide +kernel
theorem dJx4a65c_clear_da8c8_39 : decode cJx4a65c_clear_da8c8 39 = .ok (.goto (-12), 3) := by decide +kernel
theorem dJx4a65c_clear_da8c8_42 : decode cJx4a65c_clear_da8c8 42 = .ok (.return_, 1) := by decide +kernel
theorem dJ7_copyOf_1904c_0 : decode cJ7_copyOf_1904c 0 = .ok (.aload_n 0, 1) := by decide +kernel
theorem dJ7_copyOf_1904c_1 : decode cJ7_copyOf_1904c 1 = .ok (.iload_n 1, 1) := by decide +kernel
theorem dJ7_copyOf_1904c_2 : decode cJ7_copyOf_1904c 2 = .ok (.aload_n 0, 1) := by decide +kernel
theorem dJ7_copyOf_1904c_3 : decode cJ7_copyOf_1904c 3 = .ok (.invokevirtual 86, 3) := by decide +kernel
theorem dJ7_copyOf_1904c_6 : decode cJ7_copyOf_1904c 6 = .ok (.invokestatic 300, 3) := by decide +kernel
theorem dJ7_copyOf_1904c_9 : decode cJ7_copyOf_1904c 9 = .ok (.areturn, 1) := by decide +kernel
theorem dJ7_copyOf_6403c_0 : decode cJ7_copyOf_6403c 0 = .ok (.aload_n 2, 1) := by decide +kernel
theorem dJ7_copyOf_6403c_1 : decode cJ7_copyOf_6403c 1 = .ok (.ldc 110, 2) := by decide +kernel
theorem dJ7_copyOf_6403c_3 : decode cJ7_copyOf_6403c 3 = .ok (.if_acmp .ne 10, 3) := by decide +kernel
theorem dJ7_copyOf_6403c_6 : decode cJ7_copyOf_6403c 6 = .ok (.iload_n 1, 1) := by decide +kernel
theorem dJ7_copyOf_6403c_7 : decode cJ7_copyOf_6403c 7 = .ok (.anewarray 2, 3) := by decide +kernel
theorem dJ7_copyOf_6403c_10 : decode cJ7_copyOf_6403c 10 = .ok (.goto 14, 3) := by decide +kernel
theorem dJ7_copyOf_6403c_13 : decode cJ7_copyOf_6403c 13 = .ok (.aload_n 2, 1) := by decide +kernel
theorem dJ7_copyOf_6403c_14 : decode cJ7_copyOf_6403c 14 = .ok (.invokevirtual 90, 3) := by decide +kernel
theorem dJ7_copyOf_6403c_17 : decode cJ7_copyOf_6403c 17 = .ok (.iload_n 1, 1) := by decide +kernel
theorem dJ7_copyOf_6403c_18 : decode cJ7_copyOf_6403c 18 = .ok (.invokestatic 95, 3) := by decide +kernel
theorem dJ7_copyOf_6403c_21 : decode cJ7_copyOf_6403c 21 = .ok (.checkcast 110, 3) := by decide +kernel
theorem dJ7_copyOf_6403c_24 : decode cJ7_copyOf_6403c 24 = .ok (.astore_n 3, 1) := by decide +kernel
theorem dJ7_copyOf_6403c_25 : decode cJ7_copyOf_6403c 25 = .ok (.aload_n 0, 1) := by decide +kernel
theorem dJ7_copyOf_6403c_26 : decode cJ7_copyOf_6403c 26 = .ok (.iconst 0, 1) := by decide +kernel
theorem dJ7_copyOf_6403c_27 : decode cJ7_copyOf_6403c 27 = .ok (.aload_n 3, 1) := by decide +kernel
theorem dJ7_copyOf_6403c_28 : decode cJ7_copyOf_6403c 28 = .ok (.iconst 0, 1) := by decide +kernel
theorem dJ7_copyOf_6403c_29 : decode cJ7_copyOf_6403c 29 = .ok (.aload_n 0, 1) := by decide +kernel
theorem dJ7_copyOf_6403c_30 : decode cJ7_copyOf_6403c 30 = .ok (.arraylength, 1) := by decide +kernel
theorem dJ7_copyOf_6403c_31 : decode cJ7_copyOf_6403c 31 = .ok (.iload_n 1, 1) := by decide +kernel
theorem dJ7_copyOf_6403c_32 : decode cJ7_copyOf_6403c 32 = .ok (.invokestatic 304, 3) := by decide +kernel
theorem dJ7_copyOf_6403c_35 : decode cJ7_copyOf_6403c 35 = .ok (.invokestatic 150, 3) := by decide +kernel
theorem dJ7_copyOf_6403c_38 : decode cJ7_copyOf_6403c 38 = .ok (.aload_n 3, 1) := by decide +kernel
theorem dJ7_copyOf_6403c_39 : decode cJ7_copyOf_6403c 39 = .ok (.areturn, 1) := by decide +kernel
theorem dJ15_checkIndex_7cf53_0 : decode cJ15_checkIndex_7cf53 0 = .ok (.iload_n 0, 1) := by decide +kernel
theorem dJ15_checkIndex_7cf53_1 : decode cJ15_checkIndex_7cf53 1 = .ok (.iload_n 1, 1) := by decide +kernel
theorem dJ15_checkIndex_7cf53_2 : decode cJ15_checkIndex_7cf53 2 = .ok (.aconst_null, 1) := by decide +kernel
theorem dJ15_checkIndex_7cf53_3 : decode cJ15_checkIndex_7cf53 3 = .ok (.invokestatic 105, 3) := by decide +kernel
theorem dJ15_checkIndex_7cf53_6 : decode cJ15_checkIndex_7cf53 6 = .ok (.ireturn, 1) := by decide +kernel
theorem dJ8_newLength_cabcc_0 : decode cJ8_newLength_cabcc 0 = .ok (.iload_n 0, 1) := by decide +kernel
theorem dJ8_newLength_cabcc_1 : decode cJ8_newLength_cabcc 1 = .ok (.iload_n 1, 1) := by decide +kernel
theorem dJ8_newLength_cabcc_2 : decode cJ8_newLength_cabcc 2 = .ok (.iload_n 2, 1) := by decide +kernel
theorem dJ8_newLength_cabcc_3 : decode cJ8_newLength_cabcc 3 = .ok (.invokestatic 194, 3) := by decide +kernel
theorem dJ8_newLength_cabcc_6 : decode cJ8_newLength_cabcc 6 = .ok (.iadd, 1) := by decide +kernel
theorem dJ8_newLength_cabcc_7 : decode cJ8_newLength_cabcc 7 = .ok (.istore_n 3, 1) := by decide +kernel
theorem dJ8_newLength_cabcc_8 : decode cJ8_newLength_cabcc 8 = .ok (.iconst 0, 1) := by decide +kernel
theorem dJ8_newLength_cabcc_9 : decode cJ8_newLength_cabcc 9 = .ok (.iload_n 3, 1) := by decide +kernel
theorem dJ8_newLength_cabcc_10 : decode cJ8_newLength_cabcc 10 = .ok (.if_icmp .ge 11, 3) := by decide +kernel
theorem dJ8_newLength_cabcc_13 : decode cJ8_newLength_cabcc 13 = .ok (.iload_n 3, 1) := by decide +kernel
theorem dJ8_newLength_cabcc_14 : decode cJ8_newLength_cabcc 14 = .ok (.ldc 200, 2) := by decide +kernel
theorem dJ8_newLength_cabcc_16 : decode cJ8_newLength_cabcc 16 = .ok (.if_icmp .gt 5, 3) := by decide +kernel
theorem dJ8_newLength_cabcc_19 : decode cJ8_newLength_cabcc 19 = .ok (.iload_n 3, 1) := by decide +kernel
theorem dJ8_newLength_cabcc_20 : decode cJ8_newLength_cabcc 20 = .ok (.ireturn, 1) := by decide +kernel
theorem dJ8_newLength_cabcc_21 : decode cJ8_newLength_cabcc 21 = .ok (.iload_n 0, 1) := by decide +kernel
theorem dJ8_newLength_cabcc_22 : decode cJ8_newLength_cabcc 22 = .ok (.iload_n 1, 1) := by decide +kernel
theorem dJ8_newLength_cabcc_23 : decode cJ8_newLength_cabcc 23 = .ok (.invokestatic 201, 3) := by decide +kernel
theorem dJ8_newLength_cabcc_26 : decode cJ8_newLength_cabcc 26 = .ok (.ireturn, 1) := by decide +kernel
theorem dJ8_hugeLength_7cf53_0 : decode cJ8_hugeLength_7cf53 0 = .ok (.iload_n 0, 1) := by decide +kernel
theorem dJ8_hugeLength_7cf53_1 : decode cJ8_hugeLength_7cf53 1 = .ok (.iload_n 1, 1) := by decide +kernel
theorem dJ8_hugeLength_7cf53_2 : decode cJ8_hugeLength_7cf53 2 = .ok (.iadd, 1) := by decide +kernel
theorem dJ8_hugeLength_7cf53_3 : decode cJ8_hugeLength_7cf53 3 = .ok (.istore_n 2, 1) := by decide +kernel
theorem dJ8_hugeLength_7cf53_4 : decode cJ8_hugeLength_7cf53 4 = .ok (.iload_n 2, 1) := by decide +kernel
theorem dJ8_hugeLength_7cf53_5 : decode cJ8_hugeLength_7cf53 5 = .ok (.ifCond .ge 44, 3) := by decide +kernel
theorem dJ8_hugeLength_7cf53_8 : decode cJ8_hugeLength_7cf53 8 = .ok (.new 204, 3) := by decide +kernel
theorem dJ8_hugeLength_7cf53_11 : decode cJ8_hugeLength_7cf53 11 = .ok (.dup, 1) := by decide +kernel
theorem dJ8_hugeLength_7cf53_12 : decode cJ8_hugeLength_7cf53 12 = .ok (.new 89, 3) := by decide +kernel
theorem dJ8_hugeLength_7cf53_15 : decode cJ8_hugeLength_7cf53 15 = .ok (.dup, 1) := by decide +kernel
theorem dJ8_hugeLength_7cf53_16 : decode cJ8_hugeLength_7cf53 16 = .ok (.invokespecial 91, 3) := by decide +kernel
theorem dJ8_hugeLength_7cf53_19 : decode cJ8_hugeLength_7cf53 19 = .ok (.ldc 206, 2) := by decide +kernel
theorem dJ8_hugeLength_7cf53_21 : decode cJ8_hugeLength_7cf53 21 = .ok (.invokevirtual 94, 3) := by decide +kernel
theorem dJ8_hugeLength_7cf53_24 : decode cJ8_hugeLength_7cf53 24 = .ok (.iload_n 0, 1) := by decide +kernel
theorem dJ8_hugeLength_7cf53_25 : decode cJ8_hugeLength_7cf53 25 = .ok (.invokevirtual 98, 3) := by decide +kernel
theorem dJ8_hugeLength_7cf53_28 : decode cJ8_hugeLength_7cf53 28 = .ok (.ldc 208, 2) := by decide +kernel
theorem dJ8_hugeLength_7cf53_30 : decode cJ8_hugeLength_7cf53 30 = .ok (.invokevirtual 94, 3) := by decide +kernel
theorem dJ8_hugeLength_7cf53_33 : decode cJ8_hugeLength_7cf53 33 = .ok (.iload_n 1, 1) := by decide +kernel
theorem dJ8_hugeLength_7cf53_34 : decode cJ8_hugeLength_7cf53 34 = .ok (.invokevirtual 98, 3) := by decide +kernel
theorem dJ8_hugeLength_7cf53_37 : decode cJ8_hugeLength_7cf53 37 = .ok (.ldc 210, 2) := by decide +kernel
theorem dJ8_hugeLength_7cf53_39 : decode cJ8_hugeLength_7cf53 39 = .ok (.invokevirtual 94, 3) := by decide +kernel
theorem dJ8_hugeLength_7cf53_42 : decode cJ8_hugeLength_7cf53 42 = .ok (.invokevirtual 101, 3) := by decide +kernel
theorem dJ8_hugeLength_7cf53_45 : decode cJ8_hugeLength_7cf53 45 = .ok (.invokespecial 212, 3) := by decide +kernel
theorem dJ8_hugeLength_7cf53_48 : decode cJ8_hugeLength_7cf53 48 = .ok (.athrow, 1) := by decide +kernel
theorem dJ8_hugeLength_7cf53_49 : decode cJ8_hugeLength_7cf53 49 = .ok (.iload_n 2, 1) := by decide +kernel
theorem dJ8_hugeLength_7cf53_50 : decode cJ8_hugeLength_7cf53 50 = .ok (.ldc 200, 2) := by decide +kernel
theorem dJ8_hugeLength_7cf53_52 : decode cJ8_hugeLength_7cf53 52 = .ok (.if_icmp .gt 6, 3) := by decide +kernel
theorem dJ8_hugeLength_7cf53_55 : decode cJ8_hugeLength_7cf53 55 = .ok (.ldc 200, 2) := by decide +kernel
theorem dJ8_hugeLength_7cf53_57 : decode cJ8_hugeLength_7cf53 57 = .ok (.ireturn, 1) := by decide +kernel
theorem dJ8_hugeLength_7cf53_58 : decode cJ8_hugeLength_7cf53 58 = .ok (.iload_n 2, 1) := by decide +kernel
theorem dJ8_hugeLength_7cf53_59 : decode cJ8_hugeLength_7cf53 59 = .ok (.ireturn, 1) := by decide +kernel
theorem dJ3_checkIndex_8e157_0 : decode cJ3_checkIndex_8e157 0 = .ok (.iload_n 0, 1) := by decide +kernel
theorem dJ3_checkIndex_8e157_1 : decode cJ3_checkIndex_8e157 1 = .ok (.ifCond .lt 8, 3) := by decide +kernel
theorem dJ3_checkIndex_8e157_4 : decode cJ3_checkIndex_8e157 4 = .ok (.iload_n 0, 1) := by decide +kernel
theorem dJ3_checkIndex_8e157_5 : decode cJ3_checkIndex_8e157 5 = .ok (.iload_n 1, 1) := by decide +kernel
theorem dJ3_checkIndex_8e157_6 : decode cJ3_checkIndex_8e157 6 = .ok (.if_icmp .lt 10, 3) := by decide +kernel
theorem dJ3_checkIndex_8e157_9 : decode cJ3_checkIndex_8e157 9 = .ok (.aload_n 2, 1) := by decide +kernel
theorem dJ3_checkIndex_8e157_10 : decode cJ3_checkIndex_8e157 10 = .ok (.iload_n 0, 1) := by decide +kernel
theorem dJ3_checkIndex_8e157_11 : decode cJ3_checkIndex_8e157 11 = .ok (.iload_n 1, 1) := by decide +kernel
theorem dJ3_checkIndex_8e157_12 : decode cJ3_checkIndex_8e157 12 = .ok (.invokestatic 95, 3) := by decide +kernel
theorem dJ3_checkIndex_8e157_15 : decode cJ3_checkIndex_8e157 15 = .ok (.athrow, 1) := by decide +kernel
theorem dJ3_checkIndex_8e157_16 : decode cJ3_checkIndex_8e157 16 = .ok (.iload_n 0, 1) := by decide +kernel
theorem dJ3_checkIndex_8e157_17 : decode cJ3_checkIndex_8e157 17 = .ok (.ireturn, 1) := by decide +kernel
theorem dL_file_0 : decode cL_file 0 = .ok (.aload_n 1, 1) := by decide +kernel
theorem dL_file_1 : decode cL_file 1 = .ok (.iconst 0, 1) := by decide +kernel
theorem dL_file_2 : decode cL_file 2 = .ok (.aload_n 0, 1) := by decide +kernel
theorem dL_file_3 : decode cL_file 3 = .ok (.invokevirtual 7, 3) := by decide +kernel
theorem dL_file_6 : decode cL_file 6 = .ok (.i2l, 1) := by decide +kernel
theorem dL_file_7 : decode cL_file 7 = .ok (.lastore, 1) := by decide +kernel
theorem dL_file_8 : decode cL_file 8 = .ok (.goto 6, 3) := by decide +kernel
theorem dL_file_11 : decode cL_file 11 = .ok (.astore_n 2, 1) := by decide +kernel
theorem dL_file_12 : decode cL_file 12 = .ok (.iconst 1, 1) := by decide +kernel
theorem dL_file_13 : decode cL_file 13 = .ok (.ireturn, 1) := by decide +kernel
theorem dL_file_14 : decode cL_file 14 = .ok (.iconst 0, 1) := by decide +kernel
theorem dL_file_15 : decode cL_file 15 = .ok (.ireturn, 1) := by decide +kernel
theorem dL_add_0 : decode cL_add 0 = .ok (.aload 5, 2) := by decide +kernel
theorem dL_add_2 : decode cL_add 2 = .ok (.iconst 0, 1) := by decide +kernel
theorem dL_add_3 : decode cL_add 3 = .ok (.aload_n 0, 1) := by decide +kernel
theorem dL_add_4 : decode cL_add 4 = .ok (.iload_n 1, 1) := by decide +kernel
theorem dL_add_5 : decode cL_add 5 = .ok (.iload_n 2, 1) := by decide +kernel
theorem dL_add_6 : decode cL_add 6 = .ok (.iload_n 3, 1) := by decide +kernel
theorem dL_add_7 : decode cL_add 7 = .ok (.iload 4, 2) := by decide +kernel
theorem dL_add_9 : decode cL_add 9 = .ok (.invokevirtual 15, 3) := by decide +kernel
theorem dL_add_12 : decode cL_add 12 = .ok (.i2l, 1) := by decide +kernel
theorem dL_add_13 : decode cL_add 13 = .ok (.lastore, 1) := by decide +kernel
theorem dL_add_14 : decode cL_add 14 = .ok (.goto 15, 3) := by decide +kernel
theorem dL_add_17 : decode cL_add 17 = .ok (.astore 6, 2) := by decide +kernel
theorem dL_add_19 : decode cL_add 19 = .ok (.iconst 1, 1) := by decide +kernel
theorem dL_add_20 : decode cL_add 20 = .ok (.ireturn, 1) := by decide +kernel
theorem dL_add_21 : decode cL_add 21 = .ok (.astore 6, 2) := by decide +kernel
theorem dL_add_23 : decode cL_add 23 = .ok (.iconst 2, 1) := by decide +kernel
theorem dL_add_24 : decode cL_add 24 = .ok (.ireturn, 1) := by decide +kernel
theorem dL_add_25 : decode cL_add 25 = .ok (.astore 6, 2) := by decide +kernel
theorem dL_add_27 : decode cL_add 27 = .ok (.iconst 3, 1) := by decide +kernel
theorem dL_add_28 : decode cL_add 28 = .ok (.ireturn, 1) := by decide +kernel
theorem dL_add_29 : decode cL_add 29 = .ok (.iconst 0, 1) := by decide +kernel
theorem dL_add_30 : decode cL_add 30 = .ok (.ireturn, 1) := by decide +kernel
theorem dL_insert_0 : decode cL_insert 0 = .ok (.aload 4, 2) := by decide +kernel
theorem dL_insert_2 : decode cL_insert 2 = .ok (.iconst 0, 1) := by decide +kernel
theorem dL_insert_3 : decode cL_insert 3 = .ok (.aload_n 0, 1) := by decide +kernel
theorem dL_insert_4 : decode cL_insert 4 = .ok (.iload_n 1, 1) := by decide +kernel
theorem dL_insert_5 : decode cL_insert 5 = .ok (.iload_n 2, 1) := by decide +kernel
theorem dL_insert_6 : decode cL_insert 6 = .ok (.iload_n 3, 1) := by decide +kernel
theorem dL_insert_7 : decode cL_insert 7 = .ok (.invokevirtual 23, 3) := by decide +kernel
theorem dL_insert_10 : decode cL_insert 10 = .ok (.i2l, 1) := by decide +kernel
theorem dL_insert_11 : decode cL_insert 11 = .ok (.lastore, 1) := by decide +kernel
theorem dL_insert_12 : decode cL_insert 12 = .ok (.goto 15, 3) := by decide +kernel
theorem dL_insert_15 : decode cL_insert 15 = .ok (.astore 5, 2) := by decide +kernel
theorem dL_insert_17 : decode cL_insert 17 = .ok (.iconst 1, 1) := by decide +kernel
theorem dL_insert_18 : decode cL_insert 18 = .ok (.ireturn, 1) := by decide +kernel
theorem dL_insert_19 : decode cL_insert 19 = .ok (.astore 5, 2) := by decide +kernel
theorem dL_insert_21 : decode cL_insert 21 = .ok (.iconst 2, 1) := by decide +kernel
theorem dL_insert_22 : decode cL_insert 22 = .ok (.ireturn, 1) := by decide +kernel
theorem dL_insert_23 : decode cL_insert 23 = .ok (.astore 5, 2) := by decide +kernel
theorem dL_insert_25 : decode cL_insert 25 = .ok (.iconst 3, 1) := by decide +kernel
theorem dL_insert_26 : decode cL_insert 26 = .ok (.ireturn, 1) := by decide +kernel
theorem dL_insert_27 : decode cL_insert 27 = .ok (.iconst 0, 1) := by decide +kernel
theorem dL_insert_28 : decode cL_insert 28 = .ok (.ireturn, 1) := by decide +kernel
theorem dL_remove_0 : decode cL_remove 0 = .ok (.aload 4, 2) := by decide +kernel
theorem dL_remove_2 : decode cL_remove 2 = .ok (.iconst 0, 1) := by decide +kernel
theorem dL_remove_3 : decode cL_remove 3 = .ok (.aload_n 0, 1) := by decide +kernel
theorem dL_remove_4 : decode cL_remove 4 = .ok (.iload_n 1, 1) := by decide +kernel
theorem dL_remove_5 : decode cL_remove 5 = .ok (.iload_n 2, 1) := by decide +kernel
theorem dL_remove_6 : decode cL_remove 6 = .ok (.iload_n 3, 1) := by decide +kernel
theorem dL_remove_7 : decode cL_remove 7 = .ok (.invokevirtual 27, 3) := by decide +kernel
theorem dL_remove_10 : decode cL_remove 10 = .ok (.i2l, 1) := by decide +kernel
theorem dL_remove_11 : decode cL_remove 11 = .ok (.lastore, 1) := by decide +kernel
theorem dL_remove_12 : decode cL_remove 12 = .ok (.goto 11, 3) := by decide +kernel
theorem dL_remove_15 : decode cL_remove 15 = .ok (.astore 5, 2) := by decide +kernel
theorem dL_remove_17 : decode cL_remove 17 = .ok (.iconst 1, 1) := by decide +kernel
theorem dL_remove_18 : decode cL_remove 18 = .ok (.ireturn, 1) := by decide +kernel
theorem dL_remove_19 : decode cL_remove 19 = .ok (.astore 5, 2) := by decide +kernel
theorem dL_remove_21 : decode cL_remove 21 = .ok (.iconst 2, 1) := by decide +kernel
theorem dL_remove_22 : decode cL_remove 22 = .ok (.ireturn, 1) := by decide +kernel
theorem dL_remove_23 : decode cL_remove 23 = .ok (.iconst 0, 1) := by decide +kernel
theorem dL_remove_24 : decode cL_remove 24 = .ok (.ireturn, 1) := by decide +kernel
theorem dL_copy_0 : decode cL_copy 0 = .ok (.aload_n 0, 1) := by decide +kernel
theorem dL_copy_1 : decode cL_copy 1 = .ok (.iload_n 1, 1) := by decide +kernel
theorem dL_copy_2 : decode cL_copy 2 = .ok (.iload_n 2, 1) := by decide +kernel
theorem dL_copy_3 : decode cL_copy 3 = .ok (.invokevirtual 30, 3) := by decide +kernel
theorem dL_copy_6 : decode cL_copy 6 = .ok (.goto 6, 3) := by decide +kernel
theorem dL_copy_9 : decode cL_copy 9 = .ok (.astore_n 3, 1) := by decide +kernel
theorem dL_copy_10 : decode cL_copy 10 = .ok (.iconst 1, 1) := by decide +kernel
theorem dL_copy_11 : decode cL_copy 11 = .ok (.ireturn, 1) := by decide +kernel
theorem dL_copy_12 : decode cL_copy 12 = .ok (.iconst 0, 1) := by decide +kernel
theorem dL_copy_13 : decode cL_copy 13 = .ok (.ireturn, 1) := by decide +kernel
theorem dL_length_0 : decode cL_length 0 = .ok (.aload_n 2, 1) := by decide +kernel
theorem dL_length_1 : decode cL_length 1 = .ok (.iconst 0, 1) := by decide +kernel
theorem dL_length_2 : decode cL_length 2 = .ok (.aload_n 0, 1) := by decide +kernel
theorem dL_length_3 : decode cL_length 3 = .ok (.iload_n 1, 1) := by decide +kernel
theorem dL_length_4 : decode cL_length 4 = .ok (.invokevirtual 34, 3) := by decide +kernel
theorem dL_length_7 : decode cL_length 7 = .ok (.i2l, 1) := by decide +kernel
theorem dL_length_8 : decode cL_length 8 = .ok (.lastore, 1) := by decide +kernel
theorem dL_length_9 : decode cL_length 9 = .ok (.goto 6, 3) := by decide +kernel
theorem dL_length_12 : decode cL_length 12 = .ok (.astore_n 3, 1) := by decide +kernel
theorem dL_length_13 : decode cL_length 13 = .ok (.iconst 1, 1) := by decide +kernel
theorem dL_length_14 : decode cL_length 14 = .ok (.ireturn, 1) := by decide +kernel
theorem dL_length_15 : decode cL_length 15 = .ok (.iconst 0, 1) := by decide +kernel
theorem dL_length_16 : decode cL_length 16 = .ok (.ireturn, 1) := by decide +kernel
theorem dL_byteAt_0 : decode cL_byteAt 0 = .ok (.aload_n 3, 1) := by decide +kernel
theorem dL_byteAt_1 : decode cL_byteAt 1 = .ok (.iconst 0, 1) := by decide +kernel
theorem dL_byteAt_2 : decode cL_byteAt 2 = .ok (.aload_n 0, 1) := by decide +kernel
theorem dL_byteAt_3 : decode cL_byteAt 3 = .ok (.iload_n 1, 1) := by decide +kernel
theorem dL_byteAt_4 : decode cL_byteAt 4 = .ok (.iload_n 2, 1) := by decide +kernel
theorem dL_byteAt_5 : decode cL_byteAt 5 = .ok (.invokevirtual 38, 3) := by decide +kernel
theorem dL_byteAt_8 : decode cL_byteAt 8 = .ok (.i2l, 1) := by decide +kernel
theorem dL_byteAt_9 : decode cL_byteAt 9 = .ok (.lastore, 1) := by decide +kernel
theorem dL_byteAt_10 : decode cL_byteAt 10 = .ok (.goto 7, 3) := by decide +kernel
theorem dL_byteAt_13 : decode cL_byteAt 13 = .ok (.astore 4, 2) := by decide +kernel
theorem dL_byteAt_15 : decode cL_byteAt 15 = .ok (.iconst 1, 1) := by decide +kernel
theorem dL_byteAt_16 : decode cL_byteAt 16 = .ok (.ireturn, 1) := by decide +kernel
theorem dL_byteAt_17 : decode cL_byteAt 17 = .ok (.iconst 0, 1) := by decide +kernel
theorem dL_byteAt_18 : decode cL_byteAt 18 = .ok (.ireturn, 1) := by decide +kernel
theorem dL_same_0 : decode cL_same 0 = .ok (.aload_n 3, 1) := by decide +kernel
theorem dL_same_1 : decode cL_same 1 = .ok (.iconst 0, 1) := by decide +kernel
theorem dL_same_2 : decode cL_same 2 = .ok (.aload_n 0, 1) := by decide +kernel
theorem dL_same_3 : decode cL_same 3 = .ok (.iload_n 1, 1) := by decide +kernel
theorem dL_same_4 : decode cL_same 4 = .ok (.iload_n 2, 1) := by decide +kernel
theorem dL_same_5 : decode cL_same 5 = .ok (.invokevirtual 42, 3) := by decide +kernel
theorem dL_same_8 : decode cL_same 8 = .ok (.ifCond .eq 7, 3) := by decide +kernel
theorem dL_same_11 : decode cL_same 11 = .ok (.lconst 1, 1) := by decide +kernel
theorem dL_same_12 : decode cL_same 12 = .ok (.goto 4, 3) := by decide +kernel
theorem dL_same_15 : decode cL_same 15 = .ok (.lconst 0, 1) := by decide +kernel
theorem dL_same_16 : decode cL_same 16 = .ok (.lastore, 1) := by decide +kernel
theorem dL_same_17 : decode cL_same 17 = .ok (.goto 7, 3) := by decide +kernel
theorem dL_same_20 : decode cL_same 20 = .ok (.astore 4, 2) := by decide +kernel
theorem dL_same_22 : decode cL_same 22 = .ok (.iconst 1, 1) := by decide +kernel
theorem dL_same_23 : decode cL_same 23 = .ok (.ireturn, 1) := by decide +kernel
theorem dL_same_24 : decode cL_same 24 = .ok (.iconst 0, 1) := by decide +kernel
theorem dL_same_25 : decode cL_same 25 = .ok (.ireturn, 1) := by decide +kernel
theorem dL_sign_0 : decode cL_sign 0 = .ok (.aload 5, 2) := by decide +kernel
theorem dL_sign_2 : decode cL_sign 2 = .ok (.iconst 0, 1) := by decide +kernel
theorem dL_sign_3 : decode cL_sign 3 = .ok (.aload_n 0, 1) := by decide +kernel
theorem dL_sign_4 : decode cL_sign 4 = .ok (.iload_n 1, 1) := by decide +kernel
theorem dL_sign_5 : decode cL_sign 5 = .ok (.iload_n 2, 1) := by decide +kernel
theorem dL_sign_6 : decode cL_sign 6 = .ok (.iload_n 3, 1) := by decide +kernel
theorem dL_sign_7 : decode cL_sign 7 = .ok (.iload 4, 2) := by decide +kernel
theorem dL_sign_9 : decode cL_sign 9 = .ok (.invokevirtual 46, 3) := by decide +kernel
theorem dL_sign_12 : decode cL_sign 12 = .ok (.i2l, 1) := by decide +kernel
theorem dL_sign_13 : decode cL_sign 13 = .ok (.lastore, 1) := by decide +kernel
theorem dL_sign_14 : decode cL_sign 14 = .ok (.goto 11, 3) := by decide +kernel
theorem dL_sign_17 : decode cL_sign 17 = .ok (.astore 6, 2) := by decide +kernel
theorem dL_sign_19 : decode cL_sign 19 = .ok (.iconst 1, 1) := by decide +kernel
theorem dL_sign_20 : decode cL_sign 20 = .ok (.ireturn, 1) := by decide +kernel
theorem dL_sign_21 : decode cL_sign 21 = .ok (.astore 6, 2) := by decide +kernel
theorem dL_sign_23 : decode cL_sign 23 = .ok (.iconst 2, 1) := by decide +kernel
theorem dL_sign_24 : decode cL_sign 24 = .ok (.ireturn, 1) := by decide +kernel
theorem dL_sign_25 : decode cL_sign 25 = .ok (.iconst 0, 1) := by decide +kernel
theorem dL_sign_26 : decode cL_sign 26 = .ok (.ireturn, 1) := by decide +kernel
theorem dL_blocks_0 : decode cL_blocks 0 = .ok (.aload_n 2, 1) := by decide +kernel
theorem dL_blocks_1 : decode cL_blocks 1 = .ok (.iconst 0, 1) := by decide +kernel
theorem dL_blocks_2 : decode cL_blocks 2 = .ok (.aload_n 0, 1) := by decide +kernel
theorem dL_blocks_3 : decode cL_blocks 3 = .ok (.iload_n 1, 1) := by decide +kernel
theorem dL_blocks_4 : decode cL_blocks 4 = .ok (.invokevirtual 49, 3) := by decide +kernel
theorem dL_blocks_7 : decode cL_blocks 7 = .ok (.i2l, 1) := by decide +kernel
theorem dL_blocks_8 : decode cL_blocks 8 = .ok (.lastore, 1) := by decide +kernel
theorem dL_blocks_9 : decode cL_blocks 9 = .ok (.goto 6, 3) := by decide +kernel
theorem dL_blocks_12 : decode cL_blocks 12 = .ok (.astore_n 3, 1) := by decide +kernel
theorem dL_blocks_13 : decode cL_blocks 13 = .ok (.iconst 1, 1) := by decide +kernel
theorem dL_blocks_14 : decode cL_blocks 14 = .ok (.ireturn, 1) := by decide +kernel
theorem dL_blocks_15 : decode cL_blocks 15 = .ok (.iconst 0, 1) := by decide +kernel
theorem dL_blocks_16 : decode cL_blocks 16 = .ok (.ireturn, 1) := by decide +kernel
theorem dL_weak_0 : decode cL_weak 0 = .ok (.aload_n 3, 1) := by decide +kernel
theorem dL_weak_1 : decode cL_weak 1 = .ok (.iconst 0, 1) := by decide +kernel
theorem dL_weak_2 : decode cL_weak 2 = .ok (.aload_n 0, 1) := by decide +kernel
theorem dL_weak_3 : decode cL_weak 3 = .ok (.iload_n 1, 1) := by decide +kernel
theorem dL_weak_4 : decode cL_weak 4 = .ok (.iload_n 2, 1) := by decide +kernel
theorem dL_weak_5 : decode cL_weak 5 = .ok (.invokevirtual 52, 3) := by decide +kernel
theorem dL_weak_8 : decode cL_weak 8 = .ok (.i2l, 1) := by decide +kernel
theorem dL_weak_9 : decode cL_weak 9 = .ok (.lastore, 1) := by decide +kernel
theorem dL_weak_10 : decode cL_weak 10 = .ok (.goto 7, 3) := by decide +kernel
theorem dL_weak_13 : decode cL_weak 13 = .ok (.astore 4, 2) := by decide +kernel
theorem dL_weak_15 : decode cL_weak 15 = .ok (.iconst 1, 1) := by decide +kernel
theorem dL_weak_16 : decode cL_weak 16 = .ok (.ireturn, 1) := by decide +kernel
theorem dL_weak_17 : decode cL_weak 17 = .ok (.iconst 0, 1) := by decide +kernel
theorem dL_weak_18 : decode cL_weak 18 = .ok (.ireturn, 1) := by decide +kernel
theorem dL_strong_0 : decode cL_strong 0 = .ok (.aload_n 3, 1) := by decide +kernel
theorem dL_strong_1 : decode cL_strong 1 = .ok (.iconst 0, 1) := by decide +kernel
theorem dL_strong_2 : decode cL_strong 2 = .ok (.aload_n 0, 1) := by decide +kernel
theorem dL_strong_3 : decode cL_strong 3 = .ok (.iload_n 1, 1) := by decide +kernel
theorem dL_strong_4 : decode cL_strong 4 = .ok (.iload_n 2, 1) := by decide +kernel
theorem dL_strong_5 : decode cL_strong 5 = .ok (.invokevirtual 55, 3) := by decide +kernel
theorem dL_strong_8 : decode cL_strong 8 = .ok (.lastore, 1) := by decide +kernel
theorem dL_strong_9 : decode cL_strong 9 = .ok (.goto 7, 3) := by decide +kernel
theorem dL_strong_12 : decode cL_strong 12 = .ok (.astore 4, 2) := by decide +kernel
theorem dL_strong_14 : decode cL_strong 14 = .ok (.iconst 1, 1) := by decide +kernel
theorem dL_strong_15 : decode cL_strong 15 = .ok (.ireturn, 1) := by decide +kernel
theorem dL_strong_16 : decode cL_strong 16 = .ok (.iconst 0, 1) := by decide +kernel
theorem dL_strong_17 : decode cL_strong 17 = .ok (.ireturn, 1) := by decide +kernel
theorem dL_compare_0 : decode cL_compare 0 = .ok (.aload 4, 2) := by decide +kernel
theorem dL_compare_2 : decode cL_compare 2 = .ok (.iconst 0, 1) := by decide +kernel
theorem dL_compare_3 : decode cL_compare 3 = .ok (.aload_n 0, 1) := by decide +kernel
theorem dL_compare_4 : decode cL_compare 4 = .ok (.iload_n 1, 1) := by decide +kernel
theorem dL_compare_5 : decode cL_compare 5 = .ok (.iload_n 2, 1) := by decide +kernel
theorem dL_compare_6 : decode cL_compare 6 = .ok (.iload_n 3, 1) := by decide +kernel
theorem dL_compare_7 : decode cL_compare 7 = .ok (.invokevirtual 59, 3) := by decide +kernel
theorem dL_compare_10 : decode cL_compare 10 = .ok (.i2l, 1) := by decide +kernel
theorem dL_compare_11 : decode cL_compare 11 = .ok (.lastore, 1) := by decide +kernel
theorem dL_compare_12 : decode cL_compare 12 = .ok (.goto 11, 3) := by decide +kernel
theorem dL_compare_15 : decode cL_compare 15 = .ok (.astore 5, 2) := by decide +kernel
theorem dL_compare_17 : decode cL_compare 17 = .ok (.iconst 1, 1) := by decide +kernel
theorem dL_compare_18 : decode cL_compare 18 = .ok (.ireturn, 1) := by decide +kernel
theorem dL_compare_19 : decode cL_compare 19 = .ok (.astore 5, 2) := by decide +kernel
theorem dL_compare_21 : decode cL_compare 21 = .ok (.iconst 2, 1) := by decide +kernel
theorem dL_compare_22 : decode cL_compare 22 = .ok (.ireturn, 1) := by decide +kernel
theorem dL_compare_23 : decode cL_compare 23 = .ok (.iconst 0, 1) := by decide +kernel
theorem dL_compare_24 : decode cL_compare 24 = .ok (.ireturn, 1) := by decide +kernel
theorem dL_instructions_0 : decode cL_instructions 0 = .ok (.aload_n 2, 1) := by decide +kernel
theorem dL_instructions_1 : decode cL_instructions 1 = .ok (.iconst 0, 1) := by decide +kernel
theorem dL_instructions_2 : decode cL_instructions 2 = .ok (.aload_n 0, 1) := by decide +kernel
theorem dL_instructions_3 : decode cL_instructions 3 = .ok (.iload_n 1, 1) := by decide +kernel
theorem dL_instructions_4 : decode cL_instructions 4 = .ok (.invokevirtual 62, 3) := by decide +kernel
theorem dL_instructions_7 : decode cL_instructions 7 = .ok (.i2l, 1) := by decide +kernel
theorem dL_instructions_8 : decode cL_instructions 8 = .ok (.lastore, 1) := by decide +kernel
theorem dL_instructions_9 : decode cL_instructions 9 = .ok (.goto 6, 3) := by decide +kernel
theorem dL_instructions_12 : decode cL_instructions 12 = .ok (.astore_n 3, 1) := by decide +kernel
theorem dL_instructions_13 : decode cL_instructions 13 = .ok (.iconst 1, 1) := by decide +kernel
theorem dL_instructions_14 : decode cL_instructions 14 = .ok (.ireturn, 1) := by decide +kernel
theorem dL_instructions_15 : decode cL_instructions 15 = .ok (.iconst 0, 1) := by decide +kernel
theorem dL_instructions_16 : decode cL_instructions 16 = .ok (.ireturn, 1) := by decide +kernel
theorem dL_isCopy_0 : decode cL_isCopy 0 = .ok (.aload_n 3, 1) := by decide +kernel
theorem dL_isCopy_1 : decode cL_isCopy 1 = .ok (.iconst 0, 1) := by decide +kernel
theorem dL_isCopy_2 : decode cL_isCopy 2 = .ok (.aload_n 0, 1) := by decide +kernel
theorem dL_isCopy_3 : decode cL_isCopy 3 = .ok (.iload_n 1, 1) := by decide +kernel
theorem dL_isCopy_4 : decode cL_isCopy 4 = .ok (.iload_n 2, 1) := by decide +kernel
theorem dL_isCopy_5 : decode cL_isCopy 5 = .ok (.invokevirtual 65, 3) := by decide +kernel
theorem dL_isCopy_8 : decode cL_isCopy 8 = .ok (.ifCond .eq 7, 3) := by decide +kernel
theorem dL_isCopy_11 : decode cL_isCopy 11 = .ok (.lconst 1, 1) := by decide +kernel
theorem dL_isCopy_12 : decode cL_isCopy 12 = .ok (.goto 4, 3) := by decide +kernel
theorem dL_isCopy_15 : decode cL_isCopy 15 = .ok (.lconst 0, 1) := by decide +kernel
theorem dL_isCopy_16 : decode cL_isCopy 16 = .ok (.lastore, 1) := by decide +kernel
theorem dL_isCopy_17 : decode cL_isCopy 17 = .ok (.goto 7, 3) := by decide +kernel
theorem dL_isCopy_20 : decode cL_isCopy 20 = .ok (.astore 4, 2) := by decide +kernel
theorem dL_isCopy_22 : decode cL_isCopy 22 = .ok (.iconst 1, 1) := by decide +kernel
theorem dL_isCopy_23 : decode cL_isCopy 23 = .ok (.ireturn, 1) := by decide +kernel
theorem dL_isCopy_24 : decode cL_isCopy 24 = .ok (.iconst 0, 1) := by decide +kernel
theorem dL_isCopy_25 : decode cL_isCopy 25 = .ok (.ireturn, 1) := by decide +kernel
theorem dL_startOf_0 : decode cL_startOf 0 = .ok (.aload_n 3, 1) := by decide +kernel
theorem dL_startOf_1 : decode cL_startOf 1 = .ok (.iconst 0, 1) := by decide +kernel
theorem dL_startOf_2 : decode cL_startOf 2 = .ok (.aload_n 0, 1) := by decide +kernel
theorem dL_startOf_3 : decode cL_startOf 3 = .ok (.iload_n 1, 1) := by decide +kernel
theorem dL_startOf_4 : decode cL_startOf 4 = .ok (.iload_n 2, 1) := by decide +kernel
theorem dL_startOf_5 : decode cL_startOf 5 = .ok (.invokevirtual 68, 3) := by decide +kernel
theorem dL_startOf_8 : decode cL_startOf 8 = .ok (.i2l, 1) := by decide +kernel
theorem dL_startOf_9 : decode cL_startOf 9 = .ok (.lastore, 1) := by decide +kernel
theorem dL_startOf_10 : decode cL_startOf 10 = .ok (.goto 7, 3) := by decide +kernel
theorem dL_startOf_13 : decode cL_startOf 13 = .ok (.astore 4, 2) := by decide +kernel
theorem dL_startOf_15 : decode cL_startOf 15 = .ok (.iconst 1, 1) := by decide +kernel
theorem dL_startOf_16 : decode cL_startOf 16 = .ok (.ireturn, 1) := by decide +kernel
theorem dL_startOf_17 : decode cL_startOf 17 = .ok (.iconst 0, 1) := by decide +kernel
theorem dL_startOf_18 : decode cL_startOf 18 = .ok (.ireturn, 1) := by decide +kernel
theorem dL_bytesOf_0 : decode cL_bytesOf 0 = .ok (.aload_n 3, 1) := by decide +kernel
theorem dL_bytesOf_1 : decode cL_bytesOf 1 = .ok (.iconst 0, 1) := by decide +kernel
theorem dL_bytesOf_2 : decode cL_bytesOf 2 = .ok (.aload_n 0, 1) := by decide +kernel
theorem dL_bytesOf_3 : decode cL_bytesOf 3 = .ok (.iload_n 1, 1) := by decide +kernel
theorem dL_bytesOf_4 : decode cL_bytesOf 4 = .ok (.iload_n 2, 1) := by decide +kernel
theorem dL_bytesOf_5 : decode cL_bytesOf 5 = .ok (.invokevirtual 71, 3) := by decide +kernel
theorem dL_bytesOf_8 : decode cL_bytesOf 8 = .ok (.i2l, 1) := by decide +kernel
theorem dL_bytesOf_9 : decode cL_bytesOf 9 = .ok (.lastore, 1) := by decide +kernel
theorem dL_bytesOf_10 : decode cL_bytesOf 10 = .ok (.goto 7, 3) := by decide +kernel
theorem dL_bytesOf_13 : decode cL_bytesOf 13 = .ok (.astore 4, 2) := by decide +kernel
theorem dL_bytesOf_15 : decode cL_bytesOf 15 = .ok (.iconst 1, 1) := by decide +kernel
theorem dL_bytesOf_16 : decode cL_bytesOf 16 = .ok (.ireturn, 1) := by decide +kernel
theorem dL_bytesOf_17 : decode cL_bytesOf 17 = .ok (.iconst 0, 1) := by decide +kernel
theorem dL_bytesOf_18 : decode cL_bytesOf 18 = .ok (.ireturn, 1) := by decide +kernel
theorem dL_cost_0 : decode cL_cost 0 = .ok (.aload_n 2, 1) := by decide +kernel
theorem dL_cost_1 : decode cL_cost 1 = .ok (.iconst 0, 1) := by decide +kernel
theorem dL_cost_2 : decode cL_cost 2 = .ok (.aload_n 0, 1) := by decide +kernel
theorem dL_cost_3 : decode cL_cost 3 = .ok (.iload_n 1, 1) := by decide +kernel
theorem dL_cost_4 : decode cL_cost 4 = .ok (.invokevirtual 74, 3) := by decide +kernel
theorem dL_cost_7 : decode cL_cost 7 = .ok (.i2l, 1) := by decide +kernel
theorem dL_cost_8 : decode cL_cost 8 = .ok (.lastore, 1) := by decide +kernel
theorem dL_cost_9 : decode cL_cost 9 = .ok (.goto 6, 3) := by decide +kernel
theorem dL_cost_12 : decode cL_cost 12 = .ok (.astore_n 3, 1) := by decide +kernel
theorem dL_cost_13 : decode cL_cost 13 = .ok (.iconst 1, 1) := by decide +kernel
theorem dL_cost_14 : decode cL_cost 14 = .ok (.ireturn, 1) := by decide +kernel
theorem dL_cost_15 : decode cL_cost 15 = .ok (.iconst 0, 1) := by decide +kernel
theorem dL_cost_16 : decode cL_cost 16 = .ok (.ireturn, 1) := by decide +kernel
theorem dL_alarms_0 : decode cL_alarms 0 = .ok (.aload_n 2, 1) := by decide +kernel
theorem dL_alarms_1 : decode cL_alarms 1 = .ok (.iconst 0, 1) := by decide +kernel
theorem dL_alarms_2 : decode cL_alarms 2 = .ok (.aload_n 0, 1) := by decide +kernel
theorem dL_alarms_3 : decode cL_alarms 3 = .ok (.iload_n 1, 1) := by decide +kernel
theorem dL_alarms_4 : decode cL_alarms 4 = .ok (.invokevirtual 77, 3) := by decide +kernel
theorem dL_alarms_7 : decode cL_alarms 7 = .ok (.i2l, 1) := by decide +kernel
theorem dL_alarms_8 : decode cL_alarms 8 = .ok (.lastore, 1) := by decide +kernel
theorem dL_alarms_9 : decode cL_alarms 9 = .ok (.goto 6, 3) := by decide +kernel
theorem dL_alarms_12 : decode cL_alarms 12 = .ok (.astore_n 3, 1) := by decide +kernel
theorem dL_alarms_13 : decode cL_alarms 13 = .ok (.iconst 1, 1) := by decide +kernel
theorem dL_alarms_14 : decode cL_alarms 14 = .ok (.ireturn, 1) := by decide +kernel
theorem dL_alarms_15 : decode cL_alarms 15 = .ok (.iconst 0, 1) := by decide +kernel
theorem dL_alarms_16 : decode cL_alarms 16 = .ok (.ireturn, 1) := by decide +kernel
theorem dL_apply_0 : decode cL_apply 0 = .ok (.aload 4, 2) := by decide +kernel
theorem dL_apply_2 : decode cL_apply 2 = .ok (.iconst 0, 1) := by decide +kernel
theorem dL_apply_3 : decode cL_apply 3 = .ok (.aload_n 0, 1) := by decide +kernel
theorem dL_apply_4 : decode cL_apply 4 = .ok (.iload_n 1, 1) := by decide +kernel
theorem dL_apply_5 : decode cL_apply 5 = .ok (.iload_n 2, 1) := by decide +kernel
theorem dL_apply_6 : decode cL_apply 6 = .ok (.iload_n 3, 1) := by decide +kernel
theorem dL_apply_7 : decode cL_apply 7 = .ok (.invokevirtual 80, 3) := by decide +kernel
theorem dL_apply_10 : decode cL_apply 10 = .ok (.i2l, 1) := by decide +kernel
theorem dL_apply_11 : decode cL_apply 11 = .ok (.lastore, 1) := by decide +kernel
theorem dL_apply_12 : decode cL_apply 12 = .ok (.goto 11, 3) := by decide +kernel
theorem dL_apply_15 : decode cL_apply 15 = .ok (.astore 5, 2) := by decide +kernel
theorem dL_apply_17 : decode cL_apply 17 = .ok (.iconst 1, 1) := by decide +kernel
theorem dL_apply_18 : decode cL_apply 18 = .ok (.ireturn, 1) := by decide +kernel
theorem dL_apply_19 : decode cL_apply 19 = .ok (.astore 5, 2) := by decide +kernel
theorem dL_apply_21 : decode cL_apply 21 = .ok (.iconst 2, 1) := by decide +kernel
theorem dL_apply_22 : decode cL_apply 22 = .ok (.ireturn, 1) := by decide +kernel
theorem dL_apply_23 : decode cL_apply 23 = .ok (.iconst 0, 1) := by decide +kernel
theorem dL_apply_24 : decode cL_apply 24 = .ok (.ireturn, 1) := by decide +kernel
theorem dL_keep_0 : decode cL_keep 0 = .ok (.aload_n 2, 1) := by decide +kernel
theorem dL_keep_1 : decode cL_keep 1 = .ok (.iconst 0, 1) := by decide +kernel
theorem dL_keep_2 : decode cL_keep 2 = .ok (.aload_n 0, 1) := by decide +kernel
theorem dL_keep_3 : decode cL_keep 3 = .ok (.iload_n 1, 1) := by decide +kernel
theorem dL_keep_4 : decode cL_keep 4 = .ok (.invokevirtual 83, 3) := by decide +kernel
theorem dL_keep_7 : decode cL_keep 7 = .ok (.i2l, 1) := by decide +kernel
theorem dL_keep_8 : decode cL_keep 8 = .ok (.lastore, 1) := by decide +kernel
theorem dL_keep_9 : decode cL_keep 9 = .ok (.goto 9, 3) := by decide +kernel
theorem dL_keep_12 : decode cL_keep 12 = .ok (.astore_n 3, 1) := by decide +kernel
theorem dL_keep_13 : decode cL_keep 13 = .ok (.iconst 1, 1) := by decide +kernel
theorem dL_keep_14 : decode cL_keep 14 = .ok (.ireturn, 1) := by decide +kernel
theorem dL_keep_15 : decode cL_keep 15 = .ok (.astore_n 3, 1) := by decide +kernel
theorem dL_keep_16 : decode cL_keep 16 = .ok (.iconst 2, 1) := by decide +kernel
theorem dL_keep_17 : decode cL_keep 17 = .ok (.ireturn, 1) := by decide +kernel
theorem dL_keep_18 : decode cL_keep 18 = .ok (.iconst 0, 1) := by decide +kernel
theorem dL_keep_19 : decode cL_keep 19 = .ok (.ireturn, 1) := by decide +kernel
theorem dL_keepDelta_0 : decode cL_keepDelta 0 = .ok (.aload 4, 2) := by decide +kernel
theorem dL_keepDelta_2 : decode cL_keepDelta 2 = .ok (.iconst 0, 1) := by decide +kernel
theorem dL_keepDelta_3 : decode cL_keepDelta 3 = .ok (.aload_n 0, 1) := by decide +kernel
theorem dL_keepDelta_4 : decode cL_keepDelta 4 = .ok (.iload_n 1, 1) := by decide +kernel
theorem dL_keepDelta_5 : decode cL_keepDelta 5 = .ok (.iload_n 2, 1) := by decide +kernel
theorem dL_keepDelta_6 : decode cL_keepDelta 6 = .ok (.iload_n 3, 1) := by decide +kernel
theorem dL_keepDelta_7 : decode cL_keepDelta 7 = .ok (.invokevirtual 86, 3) := by decide +kernel
theorem dL_keepDelta_10 : decode cL_keepDelta 10 = .ok (.i2l, 1) := by decide +kernel
theorem dL_keepDelta_11 : decode cL_keepDelta 11 = .ok (.lastore, 1) := by decide +kernel
theorem dL_keepDelta_12 : decode cL_keepDelta 12 = .ok (.goto 15, 3) := by decide +kernel
theorem dL_keepDelta_15 : decode cL_keepDelta 15 = .ok (.astore 5, 2) := by decide +kernel
theorem dL_keepDelta_17 : decode cL_keepDelta 17 = .ok (.iconst 1, 1) := by decide +kernel
theorem dL_keepDelta_18 : decode cL_keepDelta 18 = .ok (.ireturn, 1) := by decide +kernel
theorem dL_keepDelta_19 : decode cL_keepDelta 19 = .ok (.astore 5, 2) := by decide +kernel
theorem dL_keepDelta_21 : decode cL_keepDelta 21 = .ok (.iconst 2, 1) := by decide +kernel
theorem dL_keepDelta_22 : decode cL_keepDelta 22 = .ok (.ireturn, 1) := by decide +kernel
theorem dL_keepDelta_23 : decode cL_keepDelta 23 = .ok (.astore 5, 2) := by decide +kernel
theorem dL_keepDelta_25 : decode cL_keepDelta 25 = .ok (.iconst 3, 1) := by decide +kernel
theorem dL_keepDelta_26 : decode cL_keepDelta 26 = .ok (.ireturn, 1) := by decide +kernel
theorem dL_keepDelta_27 : decode cL_keepDelta 27 = .ok (.iconst 0, 1) := by decide +kernel
theorem dL_keepDelta_28 : decode cL_keepDelta 28 = .ok (.ireturn, 1) := by decide +kernel
theorem dL_lose_0 : decode cL_lose 0 = .ok (.aload_n 2, 1) := by decide +kernel
theorem dL_lose_1 : decode cL_lose 1 = .ok (.iconst 0, 1) := by decide +kernel
theorem dL_lose_2 : decode cL_lose 2 = .ok (.aload_n 0, 1) := by decide +kernel
theorem dL_lose_3 : decode cL_lose 3 = .ok (.iload_n 1, 1) := by decide +kernel
theorem dL_lose_4 : decode cL_lose 4 = .ok (.invokevirtual 89, 3) := by decide +kernel
theorem dL_lose_7 : decode cL_lose 7 = .ok (.i2l, 1) := by decide +kernel
theorem dL_lose_8 : decode cL_lose 8 = .ok (.lastore, 1) := by decide +kernel
theorem dL_lose_9 : decode cL_lose 9 = .ok (.goto 6, 3) := by decide +kernel
theorem dL_lose_12 : decode cL_lose 12 = .ok (.astore_n 3, 1) := by decide +kernel
theorem dL_lose_13 : decode cL_lose 13 = .ok (.iconst 1, 1) := by decide +kernel
theorem dL_lose_14 : decode cL_lose 14 = .ok (.ireturn, 1) := by decide +kernel
theorem dL_lose_15 : decode cL_lose 15 = .ok (.iconst 0, 1) := by decide +kernel
theorem dL_lose_16 : decode cL_lose 16 = .ok (.ireturn, 1) := by decide +kernel
theorem dL_replace_0 : decode cL_replace 0 = .ok (.aload_n 0, 1) := by decide +kernel
theorem dL_replace_1 : decode cL_replace 1 = .ok (.iload_n 1, 1) := by decide +kernel
theorem dL_replace_2 : decode cL_replace 2 = .ok (.iload_n 2, 1) := by decide +kernel
theorem dL_replace_3 : decode cL_replace 3 = .ok (.invokevirtual 92, 3) := by decide +kernel
theorem dL_replace_6 : decode cL_replace 6 = .ok (.goto 6, 3) := by decide +kernel
theorem dL_replace_9 : decode cL_replace 9 = .ok (.astore_n 3, 1) := by decide +kernel
theorem dL_replace_10 : decode cL_replace 10 = .ok (.iconst 1, 1) := by decide +kernel
theorem dL_replace_11 : decode cL_replace 11 = .ok (.ireturn, 1) := by decide +kernel
theorem dL_replace_12 : decode cL_replace 12 = .ok (.iconst 0, 1) := by decide +kernel
theorem dL_replace_13 : decode cL_replace 13 = .ok (.ireturn, 1) := by decide +kernel
theorem dL_rebuild_0 : decode cL_rebuild 0 = .ok (.aload_n 3, 1) := by decide +kernel
theorem dL_rebuild_1 : decode cL_rebuild 1 = .ok (.iconst 0, 1) := by decide +kernel
theorem dL_rebuild_2 : decode cL_rebuild 2 = .ok (.aload_n 0, 1) := by decide +kernel
theorem dL_rebuild_3 : decode cL_rebuild 3 = .ok (.iload_n 1, 1) := by decide +kernel
theorem dL_rebuild_4 : decode cL_rebuild 4 = .ok (.iload_n 2, 1) := by decide +kernel
theorem dL_rebuild_5 : decode cL_rebuild 5 = .ok (.invokevirtual 95, 3) := by decide +kernel
theorem dL_rebuild_8 : decode cL_rebuild 8 = .ok (.i2l, 1) := by decide +kernel
theorem dL_rebuild_9 : decode cL_rebuild 9 = .ok (.lastore, 1) := by decide +kernel
theorem dL_rebuild_10 : decode cL_rebuild 10 = .ok (.goto 11, 3) := by decide +kernel
theorem dL_rebuild_13 : decode cL_rebuild 13 = .ok (.astore 4, 2) := by decide +kernel
theorem dL_rebuild_15 : decode cL_rebuild 15 = .ok (.iconst 1, 1) := by decide +kernel
theorem dL_rebuild_16 : decode cL_rebuild 16 = .ok (.ireturn, 1) := by decide +kernel
theorem dL_rebuild_17 : decode cL_rebuild 17 = .ok (.astore 4, 2) := by decide +kernel
theorem dL_rebuild_19 : decode cL_rebuild 19 = .ok (.iconst 2, 1) := by decide +kernel
theorem dL_rebuild_20 : decode cL_rebuild 20 = .ok (.ireturn, 1) := by decide +kernel
theorem dL_rebuild_21 : decode cL_rebuild 21 = .ok (.iconst 0, 1) := by decide +kernel
theorem dL_rebuild_22 : decode cL_rebuild 22 = .ok (.ireturn, 1) := by decide +kernel
theorem dL_brokenAt_0 : decode cL_brokenAt 0 = .ok (.aload_n 2, 1) := by decide +kernel
theorem dL_brokenAt_1 : decode cL_brokenAt 1 = .ok (.iconst 0, 1) := by decide +kernel
theorem dL_brokenAt_2 : decode cL_brokenAt 2 = .ok (.aload_n 0, 1) := by decide +kernel
theorem dL_brokenAt_3 : decode cL_brokenAt 3 = .ok (.iload_n 1, 1) := by decide +kernel
theorem dL_brokenAt_4 : decode cL_brokenAt 4 = .ok (.invokevirtual 98, 3) := by decide +kernel
theorem dL_brokenAt_7 : decode cL_brokenAt 7 = .ok (.i2l, 1) := by decide +kernel
theorem dL_brokenAt_8 : decode cL_brokenAt 8 = .ok (.lastore, 1) := by decide +kernel
theorem dL_brokenAt_9 : decode cL_brokenAt 9 = .ok (.goto 6, 3) := by decide +kernel
theorem dL_brokenAt_12 : decode cL_brokenAt 12 = .ok (.astore_n 3, 1) := by decide +kernel
theorem dL_brokenAt_13 : decode cL_brokenAt 13 = .ok (.iconst 1, 1) := by decide +kernel
theorem dL_brokenAt_14 : decode cL_brokenAt 14 = .ok (.ireturn, 1) := by decide +kernel
theorem dL_brokenAt_15 : decode cL_brokenAt 15 = .ok (.iconst 0, 1) := by decide +kernel
theorem dL_brokenAt_16 : decode cL_brokenAt 16 = .ok (.ireturn, 1) := by decide +kernel
theorem dL_brokenAfter_0 : decode cL_brokenAfter 0 = .ok (.aload_n 2, 1) := by decide +kernel
theorem dL_brokenAfter_1 : decode cL_brokenAfter 1 = .ok (.iconst 0, 1) := by decide +kernel
theorem dL_brokenAfter_2 : decode cL_brokenAfter 2 = .ok (.aload_n 0, 1) := by decide +kernel
theorem dL_brokenAfter_3 : decode cL_brokenAfter 3 = .ok (.iload_n 1, 1) := by decide +kernel
theorem dL_brokenAfter_4 : decode cL_brokenAfter 4 = .ok (.invokevirtual 101, 3) := by decide +kernel
theorem dL_brokenAfter_7 : decode cL_brokenAfter 7 = .ok (.i2l, 1) := by decide +kernel
theorem dL_brokenAfter_8 : decode cL_brokenAfter 8 = .ok (.lastore, 1) := by decide +kernel
theorem dL_brokenAfter_9 : decode cL_brokenAfter 9 = .ok (.goto 6, 3) := by decide +kernel
theorem dL_brokenAfter_12 : decode cL_brokenAfter 12 = .ok (.astore_n 3, 1) := by decide +kernel
theorem dL_brokenAfter_13 : decode cL_brokenAfter 13 = .ok (.iconst 1, 1) := by decide +kernel
theorem dL_brokenAfter_14 : decode cL_brokenAfter 14 = .ok (.ireturn, 1) := by decide +kernel
theorem dL_brokenAfter_15 : decode cL_brokenAfter 15 = .ok (.iconst 0, 1) := by decide +kernel
theorem dL_brokenAfter_16 : decode cL_brokenAfter 16 = .ok (.ireturn, 1) := by decide +kernel
theorem dL_reason_0 : decode cL_reason 0 = .ok (.aload_n 2, 1) := by decide +kernel
theorem dL_reason_1 : decode cL_reason 1 = .ok (.iconst 0, 1) := by decide +kernel
theorem dL_reason_2 : decode cL_reason 2 = .ok (.aload_n 0, 1) := by decide +kernel
theorem dL_reason_3 : decode cL_reason 3 = .ok (.iload_n 1, 1) := by decide +kernel
theorem dL_reason_4 : decode cL_reason 4 = .ok (.invokevirtual 104, 3) := by decide +kernel
theorem dL_reason_7 : decode cL_reason 7 = .ok (.i2l, 1) := by decide +kernel
theorem dL_reason_8 : decode cL_reason 8 = .ok (.lastore, 1) := by decide +kernel
theorem dL_reason_9 : decode cL_reason 9 = .ok (.goto 6, 3) := by decide +kernel
theorem dL_reason_12 : decode cL_reason 12 = .ok (.astore_n 3, 1) := by decide +kernel
theorem dL_reason_13 : decode cL_reason 13 = .ok (.iconst 1, 1) := by decide +kernel
theorem dL_reason_14 : decode cL_reason 14 = .ok (.ireturn, 1) := by decide +kernel
theorem dL_reason_15 : decode cL_reason 15 = .ok (.iconst 0, 1) := by decide +kernel
theorem dL_reason_16 : decode cL_reason 16 = .ok (.ireturn, 1) := by decide +kernel
theorem dL_heldBy_0 : decode cL_heldBy 0 = .ok (.aload_n 2, 1) := by decide +kernel
theorem dL_heldBy_1 : decode cL_heldBy 1 = .ok (.iconst 0, 1) := by decide +kernel
theorem dL_heldBy_2 : decode cL_heldBy 2 = .ok (.aload_n 0, 1) := by decide +kernel
theorem dL_heldBy_3 : decode cL_heldBy 3 = .ok (.iload_n 1, 1) := by decide +kernel
theorem dL_heldBy_4 : decode cL_heldBy 4 = .ok (.invokevirtual 107, 3) := by decide +kernel
theorem dL_heldBy_7 : decode cL_heldBy 7 = .ok (.i2l, 1) := by decide +kernel
theorem dL_heldBy_8 : decode cL_heldBy 8 = .ok (.lastore, 1) := by decide +kernel
theorem dL_heldBy_9 : decode cL_heldBy 9 = .ok (.goto 6, 3) := by decide +kernel
theorem dL_heldBy_12 : decode cL_heldBy 12 = .ok (.astore_n 3, 1) := by decide +kernel
theorem dL_heldBy_13 : decode cL_heldBy 13 = .ok (.iconst 1, 1) := by decide +kernel
theorem dL_heldBy_14 : decode cL_heldBy 14 = .ok (.ireturn, 1) := by decide +kernel
theorem dL_heldBy_15 : decode cL_heldBy 15 = .ok (.iconst 0, 1) := by decide +kernel
theorem dL_heldBy_16 : decode cL_heldBy 16 = .ok (.ireturn, 1) := by decide +kernel
theorem dL_cuts_0 : decode cL_cuts 0 = .ok (.aload_n 0, 1) := by decide +kernel
theorem dL_cuts_1 : decode cL_cuts 1 = .ok (.iload_n 1, 1) := by decide +kernel
theorem dL_cuts_2 : decode cL_cuts 2 = .ok (.iload_n 2, 1) := by decide +kernel
theorem dL_cuts_3 : decode cL_cuts 3 = .ok (.iload_n 3, 1) := by decide +kernel
theorem dL_cuts_4 : decode cL_cuts 4 = .ok (.invokevirtual 110, 3) := by decide +kernel
theorem dL_cuts_7 : decode cL_cuts 7 = .ok (.goto 7, 3) := by decide +kernel
theorem dL_cuts_10 : decode cL_cuts 10 = .ok (.astore 4, 2) := by decide +kernel
theorem dL_cuts_12 : decode cL_cuts 12 = .ok (.iconst 1, 1) := by decide +kernel
theorem dL_cuts_13 : decode cL_cuts 13 = .ok (.ireturn, 1) := by decide +kernel
theorem dL_cuts_14 : decode cL_cuts 14 = .ok (.iconst 0, 1) := by decide +kernel
theorem dL_cuts_15 : decode cL_cuts 15 = .ok (.ireturn, 1) := by decide +kernel
theorem dL_store_0 : decode cL_store 0 = .ok (.aload_n 2, 1) := by decide +kernel
theorem dL_store_1 : decode cL_store 1 = .ok (.iconst 0, 1) := by decide +kernel
theorem dL_store_2 : decode cL_store 2 = .ok (.aload_n 0, 1) := by decide +kernel
theorem dL_store_3 : decode cL_store 3 = .ok (.iload_n 1, 1) := by decide +kernel
theorem dL_store_4 : decode cL_store 4 = .ok (.invokevirtual 114, 3) := by decide +kernel
theorem dL_store_7 : decode cL_store 7 = .ok (.i2l, 1) := by decide +kernel
theorem dL_store_8 : decode cL_store 8 = .ok (.lastore, 1) := by decide +kernel
theorem dL_store_9 : decode cL_store 9 = .ok (.goto 9, 3) := by decide +kernel
theorem dL_store_12 : decode cL_store 12 = .ok (.astore_n 3, 1) := by decide +kernel
theorem dL_store_13 : decode cL_store 13 = .ok (.iconst 1, 1) := by decide +kernel
theorem dL_store_14 : decode cL_store 14 = .ok (.ireturn, 1) := by decide +kernel
theorem dL_store_15 : decode cL_store 15 = .ok (.astore_n 3, 1) := by decide +kernel
theorem dL_store_16 : decode cL_store 16 = .ok (.iconst 2, 1) := by decide +kernel
theorem dL_store_17 : decode cL_store 17 = .ok (.ireturn, 1) := by decide +kernel
theorem dL_store_18 : decode cL_store 18 = .ok (.iconst 0, 1) := by decide +kernel
theorem dL_store_19 : decode cL_store 19 = .ok (.ireturn, 1) := by decide +kernel
theorem dL_release_0 : decode cL_release 0 = .ok (.aload_n 2, 1) := by decide +kernel
theorem dL_release_1 : decode cL_release 1 = .ok (.iconst 0, 1) := by decide +kernel
theorem dL_release_2 : decode cL_release 2 = .ok (.aload_n 0, 1) := by decide +kernel
theorem dL_release_3 : decode cL_release 3 = .ok (.iload_n 1, 1) := by decide +kernel
theorem dL_release_4 : decode cL_release 4 = .ok (.invokevirtual 117, 3) := by decide +kernel
theorem dL_release_7 : decode cL_release 7 = .ok (.i2l, 1) := by decide +kernel
theorem dL_release_8 : decode cL_release 8 = .ok (.lastore, 1) := by decide +kernel
theorem dL_release_9 : decode cL_release 9 = .ok (.goto 6, 3) := by decide +kernel
theorem dL_release_12 : decode cL_release 12 = .ok (.astore_n 3, 1) := by decide +kernel
theorem dL_release_13 : decode cL_release 13 = .ok (.iconst 1, 1) := by decide +kernel
theorem dL_release_14 : decode cL_release 14 = .ok (.ireturn, 1) := by decide +kernel
theorem dL_release_15 : decode cL_release 15 = .ok (.iconst 0, 1) := by decide +kernel
theorem dL_release_16 : decode cL_release 16 = .ok (.ireturn, 1) := by decide +kernel
theorem dL_fetch_0 : decode cL_fetch 0 = .ok (.aload_n 3, 1) := by decide +kernel
theorem dL_fetch_1 : decode cL_fetch 1 = .ok (.iconst 0, 1) := by decide +kernel
theorem dL_fetch_2 : decode cL_fetch 2 = .ok (.aload_n 0, 1) := by decide +kernel
theorem dL_fetch_3 : decode cL_fetch 3 = .ok (.iload_n 1, 1) := by decide +kernel
theorem dL_fetch_4 : decode cL_fetch 4 = .ok (.iload_n 2, 1) := by decide +kernel
theorem dL_fetch_5 : decode cL_fetch 5 = .ok (.invokevirtual 120, 3) := by decide +kernel
theorem dL_fetch_8 : decode cL_fetch 8 = .ok (.i2l, 1) := by decide +kernel
theorem dL_fetch_9 : decode cL_fetch 9 = .ok (.lastore, 1) := by decide +kernel
theorem dL_fetch_10 : decode cL_fetch 10 = .ok (.goto 7, 3) := by decide +kernel
theorem dL_fetch_13 : decode cL_fetch 13 = .ok (.astore 4, 2) := by decide +kernel
theorem dL_fetch_15 : decode cL_fetch 15 = .ok (.iconst 1, 1) := by decide +kernel
theorem dL_fetch_16 : decode cL_fetch 16 = .ok (.ireturn, 1) := by decide +kernel
theorem dL_fetch_17 : decode cL_fetch 17 = .ok (.iconst 0, 1) := by decide +kernel
theorem dL_fetch_18 : decode cL_fetch 18 = .ok (.ireturn, 1) := by decide +kernel
theorem dL_parts_0 : decode cL_parts 0 = .ok (.aload_n 2, 1) := by decide +kernel
theorem dL_parts_1 : decode cL_parts 1 = .ok (.iconst 0, 1) := by decide +kernel
theorem dL_parts_2 : decode cL_parts 2 = .ok (.aload_n 0, 1) := by decide +kernel
theorem dL_parts_3 : decode cL_parts 3 = .ok (.iload_n 1, 1) := by decide +kernel
theorem dL_parts_4 : decode cL_parts 4 = .ok (.invokevirtual 123, 3) := by decide +kernel
theorem dL_parts_7 : decode cL_parts 7 = .ok (.i2l, 1) := by decide +kernel
theorem dL_parts_8 : decode cL_parts 8 = .ok (.lastore, 1) := by decide +kernel
theorem dL_parts_9 : decode cL_parts 9 = .ok (.goto 6, 3) := by decide +kernel
theorem dL_parts_12 : decode cL_parts 12 = .ok (.astore_n 3, 1) := by decide +kernel
theorem dL_parts_13 : decode cL_parts 13 = .ok (.iconst 1, 1) := by decide +kernel
theorem dL_parts_14 : decode cL_parts 14 = .ok (.ireturn, 1) := by decide +kernel
theorem dL_parts_15 : decode cL_parts 15 = .ok (.iconst 0, 1) := by decide +kernel
theorem dL_parts_16 : decode cL_parts 16 = .ok (.ireturn, 1) := by decide +kernel
theorem dL_partLength_0 : decode cL_partLength 0 = .ok (.aload_n 3, 1) := by decide +kernel
theorem dL_partLength_1 : decode cL_partLength 1 = .ok (.iconst 0, 1) := by decide +kernel
theorem dL_partLength_2 : decode cL_partLength 2 = .ok (.aload_n 0, 1) := by decide +kernel
theorem dL_partLength_3 : decode cL_partLength 3 = .ok (.iload_n 1, 1) := by decide +kernel
theorem dL_partLength_4 : decode cL_partLength 4 = .ok (.iload_n 2, 1) := by decide +kernel
theorem dL_partLength_5 : decode cL_partLength 5 = .ok (.invokevirtual 126, 3) := by decide +kernel
theorem dL_partLength_8 : decode cL_partLength 8 = .ok (.i2l, 1) := by decide +kernel
theorem dL_partLength_9 : decode cL_partLength 9 = .ok (.lastore, 1) := by decide +kernel
theorem dL_partLength_10 : decode cL_partLength 10 = .ok (.goto 7, 3) := by decide +kernel
theorem dL_partLength_13 : decode cL_partLength 13 = .ok (.astore 4, 2) := by decide +kernel
theorem dL_partLength_15 : decode cL_partLength 15 = .ok (.iconst 1, 1) := by decide +kernel
theorem dL_partLength_16 : decode cL_partLength 16 = .ok (.ireturn, 1) := by decide +kernel
theorem dL_partLength_17 : decode cL_partLength 17 = .ok (.iconst 0, 1) := by decide +kernel
theorem dL_partLength_18 : decode cL_partLength 18 = .ok (.ireturn, 1) := by decide +kernel
theorem dL_shared_0 : decode cL_shared 0 = .ok (.aload_n 3, 1) := by decide +kernel
theorem dL_shared_1 : decode cL_shared 1 = .ok (.iconst 0, 1) := by decide +kernel
theorem dL_shared_2 : decode cL_shared 2 = .ok (.aload_n 0, 1) := by decide +kernel
theorem dL_shared_3 : decode cL_shared 3 = .ok (.iload_n 1, 1) := by decide +kernel
theorem dL_shared_4 : decode cL_shared 4 = .ok (.iload_n 2, 1) := by decide +kernel
theorem dL_shared_5 : decode cL_shared 5 = .ok (.invokevirtual 129, 3) := by decide +kernel
theorem dL_shared_8 : decode cL_shared 8 = .ok (.i2l, 1) := by decide +kernel
theorem dL_shared_9 : decode cL_shared 9 = .ok (.lastore, 1) := by decide +kernel
theorem dL_shared_10 : decode cL_shared 10 = .ok (.goto 7, 3) := by decide +kernel
theorem dL_shared_13 : decode cL_shared 13 = .ok (.astore 4, 2) := by decide +kernel
theorem dL_shared_15 : decode cL_shared 15 = .ok (.iconst 1, 1) := by decide +kernel
theorem dL_shared_16 : decode cL_shared 16 = .ok (.ireturn, 1) := by decide +kernel
theorem dL_shared_17 : decode cL_shared 17 = .ok (.iconst 0, 1) := by decide +kernel
theorem dL_shared_18 : decode cL_shared 18 = .ok (.ireturn, 1) := by decide +kernel
theorem dL_law_0 : decode cL_law 0 = .ok (.new 8, 3) := by decide +kernel
theorem dL_law_3 : decode cL_law 3 = .ok (.dup, 1) := by decide +kernel
theorem dL_law_4 : decode cL_law 4 = .ok (.invokespecial 132, 3) := by decide +kernel
theorem dL_law_7 : decode cL_law 7 = .ok (.astore_n 1, 1) := by decide +kernel
theorem dL_law_8 : decode cL_law 8 = .ok (.new 133, 3) := by decide +kernel
theorem dL_law_11 : decode cL_law 11 = .ok (.dup, 1) := by decide +kernel
theorem dL_law_12 : decode cL_law 12 = .ok (.invokespecial 135, 3) := by decide +kernel
theorem dL_law_15 : decode cL_law 15 = .ok (.astore_n 2, 1) := by decide +kernel
theorem dL_law_16 : decode cL_law 16 = .ok (.iconst 1, 1) := by decide +kernel
theorem dL_law_17 : decode cL_law 17 = .ok (.newarray .long, 2) := by decide +kernel
theorem dL_law_19 : decode cL_law 19 = .ok (.astore_n 3, 1) := by decide +kernel
theorem dL_law_20 : decode cL_law 20 = .ok (.iconst 0, 1) := by decide +kernel
theorem dL_law_21 : decode cL_law 21 = .ok (.istore 4, 2) := by decide +kernel
theorem dL_law_23 : decode cL_law 23 = .ok (.iload 4, 2) := by decide +kernel
theorem dL_law_25 : decode cL_law 25 = .ok (.aload_n 0, 1) := by decide +kernel
theorem dL_law_26 : decode cL_law 26 = .ok (.arraylength, 1) := by decide +kernel
theorem dL_law_27 : decode cL_law 27 = .ok (.iconst 5, 1) := by decide +kernel
theorem dL_law_28 : decode cL_law 28 = .ok (.isub, 1) := by decide +kernel
theorem dL_law_29 : decode cL_law 29 = .ok (.if_icmp .gt 2570, 3) := by decide +kernel
theorem dL_law_32 : decode cL_law 32 = .ok (.aload_n 0, 1) := by decide +kernel
theorem dL_law_33 : decode cL_law 33 = .ok (.iload 4, 2) := by decide +kernel
theorem dL_law_35 : decode cL_law 35 = .ok (.iaload, 1) := by decide +kernel
theorem dL_law_36 : decode cL_law 36 = .ok (.bipush 63, 2) := by decide +kernel
theorem dL_law_38 : decode cL_law 38 = .ok (.iand, 1) := by decide +kernel
theorem dL_law_39 : decode cL_law 39 = .ok (.tableswitch 2554 0 39 #[173, 217, 309, 389, 469, 517, 573, 641, 716, 808, 864, 932, 999, 1079, 1135, 1210, 1278, 1346, 1402, 1458, 1538, 1594, 1674, 1730, 1778, 1846, 1859, 1915, 1971, 2027, 2083, 2143, 2199, 2255, 2323, 2336, 2349, 2362, 2418, 2486], 173) := by decide +kernel
theorem dL_law_212 : decode cL_law 212 = .ok (.aload_n 1, 1) := by decide +kernel
theorem dL_law_213 : decode cL_law 213 = .ok (.aload_n 3, 1) := by decide +kernel
theorem dL_law_214 : decode cL_law 214 = .ok (.invokestatic 136, 3) := by decide +kernel
theorem dL_law_217 : decode cL_law 217 = .ok (.istore 5, 2) := by decide +kernel
theorem dL_law_219 : decode cL_law 219 = .ok (.aload_n 2, 1) := by decide +kernel
theorem dL_law_220 : decode cL_law 220 = .ok (.invokevirtual 141, 3) := by decide +kernel
theorem dL_law_223 : decode cL_law 223 = .ok (.istore 6, 2) := by decide +kernel
theorem dL_law_225 : decode cL_law 225 = .ok (.aload_n 2, 1) := by decide +kernel
theorem dL_law_226 : decode cL_law 226 = .ok (.invokevirtual 142, 3) := by decide +kernel
theorem dL_law_229 : decode cL_law 229 = .ok (.iload 5, 2) := by decide +kernel
theorem dL_law_231 : decode cL_law 231 = .ok (.if_icmp .eq 5, 3) := by decide +kernel
theorem dL_law_234 : decode cL_law 234 = .ok (.iconst 0, 1) := by decide +kernel
theorem dL_law_235 : decode cL_law 235 = .ok (.ireturn, 1) := by decide +kernel
theorem dL_law_236 : decode cL_law 236 = .ok (.iload 5, 2) := by decide +kernel
theorem dL_law_238 : decode cL_law 238 = .ok (.ifCond .ne 15, 3) := by decide +kernel
theorem dL_law_241 : decode cL_law 241 = .ok (.aload_n 3, 1) := by decide +kernel
theorem dL_law_242 : decode cL_law 242 = .ok (.iconst 0, 1) := by decide +kernel
theorem dL_law_243 : decode cL_law 243 = .ok (.laload, 1) := by decide +kernel
theorem dL_law_244 : decode cL_law 244 = .ok (.iload 6, 2) := by decide +kernel
theorem dL_law_246 : decode cL_law 246 = .ok (.i2l, 1) := by decide +kernel
theorem dL_law_247 : decode cL_law 247 = .ok (.lcmp, 1) := by decide +kernel
theorem dL_law_248 : decode cL_law 248 = .ok (.ifCond .eq 5, 3) := by decide +kernel
theorem dL_law_251 : decode cL_law 251 = .ok (.iconst 0, 1) := by decide +kernel
theorem dL_law_252 : decode cL_law 252 = .ok (.ireturn, 1) := by decide +kernel
theorem dL_law_253 : decode cL_law 253 = .ok (.goto 2340, 3) := by decide +kernel
theorem dL_law_256 : decode cL_law 256 = .ok (.aload_n 1, 1) := by decide +kernel
theorem dL_law_257 : decode cL_law 257 = .ok (.aload_n 0, 1) := by decide +kernel
theorem dL_law_258 : decode cL_law 258 = .ok (.iload 4, 2) := by decide +kernel
theorem dL_law_260 : decode cL_law 260 = .ok (.iconst 1, 1) := by decide +kernel
theorem dL_law_261 : decode cL_law 261 = .ok (.iadd, 1) := by decide +kernel
theorem dL_law_262 : decode cL_law 262 = .ok (.iaload, 1) := by decide +kernel
theorem dL_law_263 : decode cL_law 263 = .ok (.aload_n 0, 1) := by decide +kernel
theorem dL_law_264 : decode cL_law 264 = .ok (.iload 4, 2) := by decide +kernel
theorem dL_law_266 : decode cL_law 266 = .ok (.iconst 2, 1) := by decide +kernel
theorem dL_law_267 : decode cL_law 267 = .ok (.iadd, 1) := by decide +kernel
theorem dL_law_268 : decode cL_law 268 = .ok (.iaload, 1) := by decide +kernel
theorem dL_law_269 : decode cL_law 269 = .ok (.aload_n 0, 1) := by decide +kernel
theorem dL_law_270 : decode cL_law 270 = .ok (.iload 4, 2) := by decide +kernel
theorem dL_law_272 : decode cL_law 272 = .ok (.iconst 3, 1) := by decide +kernel
theorem dL_law_273 : decode cL_law 273 = .ok (.iadd, 1) := by decide +kernel
theorem dL_law_274 : decode cL_law 274 = .ok (.iaload, 1) := by decide +kernel
theorem dL_law_275 : decode cL_law 275 = .ok (.aload_n 0, 1) := by decide +kernel
theorem dL_law_276 : decode cL_law 276 = .ok (.iload 4, 2) := by decide +kernel
theorem dL_law_278 : decode cL_law 278 = .ok (.iconst 4, 1) := by decide +kernel
theorem dL_law_279 : decode cL_law 279 = .ok (.iadd, 1) := by decide +kernel
theorem dL_law_280 : decode cL_law 280 = .ok (.iaload, 1) := by decide +kernel
theorem dL_law_281 : decode cL_law 281 = .ok (.aload_n 3, 1) := by decide +kernel
theorem dL_law_282 : decode cL_law 282 = .ok (.invokestatic 145, 3) := by decide +kernel
theorem dL_law_285 : decode cL_law 285 = .ok (.istore 5, 2) := by decide +kernel
theorem dL_law_287 : decode cL_law 287 = .ok (.aload_n 2, 1) := by decide +kernel
theorem dL_law_288 : decode cL_law 288 = .ok (.aload_n 0, 1) := by decide +kernel
theorem dL_law_289 : decode cL_law 289 = .ok (.iload 4, 2) := by decide +kernel
theorem dL_law_291 : decode cL_law 291 = .ok (.iconst 1, 1) := by decide +kernel
theorem dL_law_292 : decode cL_law 292 = .ok (.iadd, 1) := by decide +kernel
theorem dL_law_293 : decode cL_law 293 = .ok (.iaload, 1) := by decide +kernel
theorem dL_law_294 : decode cL_law 294 = .ok (.aload_n 0, 1) := by decide +kernel
theorem dL_law_295 : decode cL_law 295 = .ok (.iload 4, 2) := by decide +kernel
theorem dL_law_297 : decode cL_law 297 = .ok (.iconst 2, 1) := by decide +kernel
theorem dL_law_298 : decode cL_law 298 = .ok (.iadd, 1) := by decide +kernel
theorem dL_law_299 : decode cL_law 299 = .ok (.iaload, 1) := by decide +kernel
theorem dL_law_300 : decode cL_law 300 = .ok (.aload_n 0, 1) := by decide +kernel
theorem dL_law_301 : decode cL_law 301 = .ok (.iload 4, 2) := by decide +kernel
theorem dL_law_303 : decode cL_law 303 = .ok (.iconst 3, 1) := by decide +kernel
theorem dL_law_304 : decode cL_law 304 = .ok (.iadd, 1) := by decide +kernel
theorem dL_law_305 : decode cL_law 305 = .ok (.iaload, 1) := by decide +kernel
theorem dL_law_306 : decode cL_law 306 = .ok (.aload_n 0, 1) := by decide +kernel
theorem dL_law_307 : decode cL_law 307 = .ok (.iload 4, 2) := by decide +kernel
theorem dL_law_309 : decode cL_law 309 = .ok (.iconst 4, 1) := by decide +kernel
theorem dL_law_310 : decode cL_law 310 = .ok (.iadd, 1) := by decide +kernel
theorem dL_law_311 : decode cL_law 311 = .ok (.iaload, 1) := by decide +kernel
theorem dL_law_312 : decode cL_law 312 = .ok (.invokevirtual 148, 3) := by decide +kernel
theorem dL_law_315 : decode cL_law 315 = .ok (.istore 6, 2) := by decide +kernel
theorem dL_law_317 : decode cL_law 317 = .ok (.aload_n 2, 1) := by decide +kernel
theorem dL_law_318 : decode cL_law 318 = .ok (.invokevirtual 142, 3) := by decide +kernel
theorem dL_law_321 : decode cL_law 321 = .ok (.iload 5, 2) := by decide +kernel
theorem dL_law_323 : decode cL_law 323 = .ok (.if_icmp .eq 5, 3) := by decide +kernel
theorem dL_law_326 : decode cL_law 326 = .ok (.iconst 0, 1) := by decide +kernel
theorem dL_law_327 : decode cL_law 327 = .ok (.ireturn, 1) := by decide +kernel
theorem dL_law_328 : decode cL_law 328 = .ok (.iload 5, 2) := by decide +kernel
theorem dL_law_330 : decode cL_law 330 = .ok (.ifCond .ne 15, 3) := by decide +kernel
theorem dL_law_333 : decode cL_law 333 = .ok (.aload_n 3, 1) := by decide +kernel
theorem dL_law_334 : decode cL_law 334 = .ok (.iconst 0, 1) := by decide +kernel
theorem dL_law_335 : decode cL_law 335 = .ok (.laload, 1) := by decide +kernel
theorem dL_law_336 : decode cL_law 336 = .ok (.iload 6, 2) := by decide +kernel
theorem dL_law_338 : decode cL_law 338 = .ok (.i2l, 1) := by decide +kernel
theorem dL_law_339 : decode cL_law 339 = .ok (.lcmp, 1) := by decide +kernel
theorem dL_law_340 : decode cL_law 340 = .ok (.ifCond .eq 5, 3) := by decide +kernel
theorem dL_law_343 : decode cL_law 343 = .ok (.iconst 0, 1) := by decide +kernel
theorem dL_law_344 : decode cL_law 344 = .ok (.ireturn, 1) := by decide +kernel
theorem dL_law_345 : decode cL_law 345 = .ok (.goto 2248, 3) := by decide +kernel
theorem dL_law_348 : decode cL_law 348 = .ok (.aload_n 1, 1) := by decide +kernel
theorem dL_law_349 : decode cL_law 349 = .ok (.aload_n 0, 1) := by decide +kernel
theorem dL_law_350 : decode cL_law 350 = .ok (.iload 4, 2) := by decide +kernel
theorem dL_law_352 : decode cL_law 352 = .ok (.iconst 1, 1) := by decide +kernel
theorem dL_law_353 : decode cL_law 353 = .ok (.iadd, 1) := by decide +kernel
theorem dL_law_354 : decode cL_law 354 = .ok (.iaload, 1) := by decide +kernel
theorem dL_law_355 : decode cL_law 355 = .ok (.aload_n 0, 1) := by decide +kernel
theorem dL_law_356 : decode cL_law 356 = .ok (.iload 4, 2) := by decide +kernel
theorem dL_law_358 : decode cL_law 358 = .ok (.iconst 2, 1) := by decide +kernel
theorem dL_law_359 : decode cL_law 359 = .ok (.iadd, 1) := by decide +kernel
theorem dL_law_360 : decode cL_law 360 = .ok (.iaload, 1) := by decide +kernel
theorem dL_law_361 : decode cL_law 361 = .ok (.aload_n 0, 1) := by decide +kernel
theorem dL_law_362 : decode cL_law 362 = .ok (.iload 4, 2) := by decide +kernel
theorem dL_law_364 : decode cL_law 364 = .ok (.iconst 3, 1) := by decide +kernel
theorem dL_law_365 : decode cL_law 365 = .ok (.iadd, 1) := by decide +kernel
theorem dL_law_366 : decode cL_law 366 = .ok (.iaload, 1) := by decide +kernel
theorem dL_law_367 : decode cL_law 367 = .ok (.aload_n 3, 1) := by decide +kernel
theorem dL_law_368 : decode cL_law 368 = .ok (.invokestatic 149, 3) := by decide +kernel
theorem dL_law_371 : decode cL_law 371 = .ok (.istore 5, 2) := by decide +kernel
theorem dL_law_373 : decode cL_law 373 = .ok (.aload_n 2, 1) := by decide +kernel
theorem dL_law_374 : decode cL_law 374 = .ok (.aload_n 0, 1) := by decide +kernel
theorem dL_law_375 : decode cL_law 375 = .ok (.iload 4, 2) := by decide +kernel
theorem dL_law_377 : decode cL_law 377 = .ok (.iconst 1, 1) := by decide +kernel
theorem dL_law_378 : decode cL_law 378 = .ok (.iadd, 1) := by decide +kernel
theorem dL_law_379 : decode cL_law 379 = .ok (.iaload, 1) := by decide +kernel
theorem dL_law_380 : decode cL_law 380 = .ok (.aload_n 0, 1) := by decide +kernel
theorem dL_law_381 : decode cL_law 381 = .ok (.iload 4, 2) := by decide +kernel
theorem dL_law_383 : decode cL_law 383 = .ok (.iconst 2, 1) := by decide +kernel
theorem dL_law_384 : decode cL_law 384 = .ok (.iadd, 1) := by decide +kernel
theorem dL_law_385 : decode cL_law 385 = .ok (.iaload, 1) := by decide +kernel
theorem dL_law_386 : decode cL_law 386 = .ok (.aload_n 0, 1) := by decide +kernel
theorem dL_law_387 : decode cL_law 387 = .ok (.iload 4, 2) := by decide +kernel
theorem dL_law_389 : decode cL_law 389 = .ok (.iconst 3, 1) := by decide +kernel
theorem dL_law_390 : decode cL_law 390 = .ok (.iadd, 1) := by decide +kernel
theorem dL_law_391 : decode cL_law 391 = .ok (.iaload, 1) := by decide +kernel
theorem dL_law_392 : decode cL_law 392 = .ok (.invokevirtual 152, 3) := by decide +kernel
theorem dL_law_395 : decode cL_law 395 = .ok (.istore 6, 2) := by decide +kernel
theorem dL_law_397 : decode cL_law 397 = .ok (.aload_n 2, 1) := by decide +kernel
theorem dL_law_398 : decode cL_law 398 = .ok (.invokevirtual 142, 3) := by decide +kernel
theorem dL_law_401 : decode cL_law 401 = .ok (.iload 5, 2) := by decide +kernel
theorem dL_law_403 : decode cL_law 403 = .ok (.if_icmp .eq 5, 3) := by decide +kernel
theorem dL_law_406 : decode cL_law 406 = .ok (.iconst 0, 1) := by decide +kernel
theorem dL_law_407 : decode cL_law 407 = .ok (.ireturn, 1) := by decide +kernel
theorem dL_law_408 : decode cL_law 408 = .ok (.iload 5, 2) := by decide +kernel
theorem dL_law_410 : decode cL_law 410 = .ok (.ifCond .ne 15, 3) := by decide +kernel
theorem dL_law_413 : decode cL_law 413 = .ok (.aload_n 3, 1) := by decide +kernel
theorem dL_law_414 : decode cL_law 414 = .ok (.iconst 0, 1) := by decide +kernel
theorem dL_law_415 : decode cL_law 415 = .ok (.laload, 1) := by decide +kernel
theorem dL_law_416 : decode cL_law 416 = .ok (.iload 6, 2) := by decide +kernel
theorem dL_law_418 : decode cL_law 418 = .ok (.i2l, 1) := by decide +kernel
theorem dL_law_419 : decode cL_law 419 = .ok (.lcmp, 1) := by decide +kernel
theorem dL_law_420 : decode cL_law 420 = .ok (.ifCond .eq 5, 3) := by decide +kernel
theorem dL_law_423 : decode cL_law 423 = .ok (.iconst 0, 1) := by decide +kernel
theorem dL_law_424 : decode cL_law 424 = .ok (.ireturn, 1) := by decide +kernel
theorem dL_law_425 : decode cL_law 425 = .ok (.goto 2168, 3) := by decide +kernel
theorem dL_law_428 : decode cL_law 428 = .ok (.aload_n 1, 1) := by decide +kernel
theorem dL_law_429 : decode cL_law 429 = .ok (.aload_n 0, 1) := by decide +kernel
theorem dL_law_430 : decode cL_law 430 = .ok (.iload 4, 2) := by decide +kernel
theorem dL_law_432 : decode cL_law 432 = .ok (.iconst 1, 1) := by decide +kernel
theorem dL_law_433 : decode cL_law 433 = .ok (.iadd, 1) := by decide +kernel
theorem dL_law_434 : decode cL_law 434 = .ok (.iaload, 1) := by decide +kernel
theorem dL_law_435 : decode cL_law 435 = .ok (.aload_n 0, 1) := by decide +kernel
theorem dL_law_436 : decode cL_law 436 = .ok (.iload 4, 2) := by decide +kernel
theorem dL_law_438 : decode cL_law 438 = .ok (.iconst 2, 1) := by decide +kernel
theorem dL_law_439 : decode cL_law 439 = .ok (.iadd, 1) := by decide +kernel
theorem dL_law_440 : decode cL_law 440 = .ok (.iaload, 1) := by decide +kernel
theorem dL_law_441 : decode cL_law 441 = .ok (.aload_n 0, 1) := by decide +kernel
theorem dL_law_442 : decode cL_law 442 = .ok (.iload 4, 2) := by decide +kernel
theorem dL_law_444 : decode cL_law 444 = .ok (.iconst 3, 1) := by decide +kernel
theorem dL_law_445 : decode cL_law 445 = .ok (.iadd, 1) := by decide +kernel
theorem dL_law_446 : decode cL_law 446 = .ok (.iaload, 1) := by decide +kernel
theorem dL_law_447 : decode cL_law 447 = .ok (.aload_n 3, 1) := by decide +kernel
theorem dL_law_448 : decode cL_law 448 = .ok (.invokestatic 153, 3) := by decide +kernel
theorem dL_law_451 : decode cL_law 451 = .ok (.istore 5, 2) := by decide +kernel
theorem dL_law_453 : decode cL_law 453 = .ok (.aload_n 2, 1) := by decide +kernel
theorem dL_law_454 : decode cL_law 454 = .ok (.aload_n 0, 1) := by decide +kernel
theorem dL_law_455 : decode cL_law 455 = .ok (.iload 4, 2) := by decide +kernel
theorem dL_law_457 : decode cL_law 457 = .ok (.iconst 1, 1) := by decide +kernel
theorem dL_law_458 : decode cL_law 458 = .ok (.iadd, 1) := by decide +kernel
theorem dL_law_459 : decode cL_law 459 = .ok (.iaload, 1) := by decide +kernel
theorem dL_law_460 : decode cL_law 460 = .ok (.aload_n 0, 1) := by decide +kernel
theorem dL_law_461 : decode cL_law 461 = .ok (.iload 4, 2) := by decide +kernel
theorem dL_law_463 : decode cL_law 463 = .ok (.iconst 2, 1) := by decide +kernel
theorem dL_law_464 : decode cL_law 464 = .ok (.iadd, 1) := by decide +kernel
theorem dL_law_465 : decode cL_law 465 = .ok (.iaload, 1) := by decide +kernel
theorem dL_law_466 : decode cL_law 466 = .ok (.aload_n 0, 1) := by decide +kernel
theorem dL_law_467 : decode cL_law 467 = .ok (.iload 4, 2) := by decide +kernel
theorem dL_law_469 : decode cL_law 469 = .ok (.iconst 3, 1) := by decide +kernel
theorem dL_law_470 : decode cL_law 470 = .ok (.iadd, 1) := by decide +kernel
theorem dL_law_471 : decode cL_law 471 = .ok (.iaload, 1) := by decide +kernel
theorem dL_law_472 : decode cL_law 472 = .ok (.invokevirtual 155, 3) := by decide +kernel
theorem dL_law_475 : decode cL_law 475 = .ok (.istore 6, 2) := by decide +kernel
theorem dL_law_477 : decode cL_law 477 = .ok (.aload_n 2, 1) := by decide +kernel
theorem dL_law_478 : decode cL_law 478 = .ok (.invokevirtual 142, 3) := by decide +kernel
theorem dL_law_481 : decode cL_law 481 = .ok (.iload 5, 2) := by decide +kernel
theorem dL_law_483 : decode cL_law 483 = .ok (.if_icmp .eq 5, 3) := by decide +kernel
theorem dL_law_486 : decode cL_law 486 = .ok (.iconst 0, 1) := by decide +kernel
theorem dL_law_487 : decode cL_law 487 = .ok (.ireturn, 1) := by decide +kernel
theorem dL_law_488 : decode cL_law 488 = .ok (.iload 5, 2) := by decide +kernel
theorem dL_law_490 : decode cL_law 490 = .ok (.ifCond .ne 15, 3) := by decide +kernel
theorem dL_law_493 : decode cL_law 493 = .ok (.aload_n 3, 1) := by decide +kernel
theorem dL_law_494 : decode cL_law 494 = .ok (.iconst 0, 1) := by decide +kernel
theorem dL_law_495 : decode cL_law 495 = .ok (.laload, 1) := by decide +kernel
theorem dL_law_496 : decode cL_law 496 = .ok (.iload 6, 2) := by decide +kernel
theorem dL_law_498 : decode cL_law 498 = .ok (.i2l, 1) := by decide +kernel
theorem dL_law_499 : decode cL_law 499 = .ok (.lcmp, 1) := by decide +kernel
theorem dL_law_500 : decode cL_law 500 = .ok (.ifCond .eq 5, 3) := by decide +kernel
theorem dL_law_503 : decode cL_law 503 = .ok (.iconst 0, 1) := by decide +kernel
theorem dL_law_504 : decode cL_law 504 = .ok (.ireturn, 1) := by decide +kernel
theorem dL_law_505 : decode cL_law 505 = .ok (.goto 2088, 3) := by decide +kernel
theorem dL_law_508 : decode cL_law 508 = .ok (.aload_n 1, 1) := by decide +kernel
theorem dL_law_509 : decode cL_law 509 = .ok (.aload_n 0, 1) := by decide +kernel
theorem dL_law_510 : decode cL_law 510 = .ok (.iload 4, 2) := by decide +kernel
theorem dL_law_512 : decode cL_law 512 = .ok (.iconst 1, 1) := by decide +kernel
theorem dL_law_513 : decode cL_law 513 = .ok (.iadd, 1) := by decide +kernel
theorem dL_law_514 : decode cL_law 514 = .ok (.iaload, 1) := by decide +kernel
theorem dL_law_515 : decode cL_law 515 = .ok (.aload_n 0, 1) := by decide +kernel
theorem dL_law_516 : decode cL_law 516 = .ok (.iload 4, 2) := by decide +kernel
theorem dL_law_518 : decode cL_law 518 = .ok (.iconst 2, 1) := by decide +kernel
theorem dL_law_519 : decode cL_law 519 = .ok (.iadd, 1) := by decide +kernel
theorem dL_law_520 : decode cL_law 520 = .ok (.iaload, 1) := by decide +kernel
theorem dL_law_521 : decode cL_law 521 = .ok (.invokestatic 156, 3) := by decide +kernel
theorem dL_law_524 : decode cL_law 524 = .ok (.istore 5, 2) := by decide +kernel
theorem dL_law_526 : decode cL_law 526 = .ok (.aload_n 2, 1) := by decide +kernel
theorem dL_law_527 : decode cL_law 527 = .ok (.aload_n 0, 1) := by decide +kernel
theorem dL_law_528 : decode cL_law 528 = .ok (.iload 4, 2) := by decide +kernel
theorem dL_law_530 : decode cL_law 530 = .ok (.iconst 1, 1) := by decide +kernel
theorem dL_law_531 : decode cL_law 531 = .ok (.iadd, 1) := by decide +kernel
theorem dL_law_532 : decode cL_law 532 = .ok (.iaload, 1) := by decide +kernel
theorem dL_law_533 : decode cL_law 533 = .ok (.aload_n 0, 1) := by decide +kernel
theorem dL_law_534 : decode cL_law 534 = .ok (.iload 4, 2) := by decide +kernel
theorem dL_law_536 : decode cL_law 536 = .ok (.iconst 2, 1) := by decide +kernel
theorem dL_law_537 : decode cL_law 537 = .ok (.iadd, 1) := by decide +kernel
theorem dL_law_538 : decode cL_law 538 = .ok (.iaload, 1) := by decide +kernel
theorem dL_law_539 : decode cL_law 539 = .ok (.invokevirtual 159, 3) := by decide +kernel
theorem dL_law_542 : decode cL_law 542 = .ok (.aload_n 2, 1) := by decide +kernel
theorem dL_law_543 : decode cL_law 543 = .ok (.invokevirtual 142, 3) := by decide +kernel
theorem dL_law_546 : decode cL_law 546 = .ok (.iload 5, 2) := by decide +kernel
theorem dL_law_548 : decode cL_law 548 = .ok (.if_icmp .eq 5, 3) := by decide +kernel
theorem dL_law_551 : decode cL_law 551 = .ok (.iconst 0, 1) := by decide +kernel
theorem dL_law_552 : decode cL_law 552 = .ok (.ireturn, 1) := by decide +kernel
theorem dL_law_553 : decode cL_law 553 = .ok (.goto 2040, 3) := by decide +kernel
theorem dL_law_556 : decode cL_law 556 = .ok (.aload_n 1, 1) := by decide +kernel
theorem dL_law_557 : decode cL_law 557 = .ok (.aload_n 0, 1) := by decide +kernel
theorem dL_law_558 : decode cL_law 558 = .ok (.iload 4, 2) := by decide +kernel
theorem dL_law_560 : decode cL_law 560 = .ok (.iconst 1, 1) := by decide +kernel
theorem dL_law_561 : decode cL_law 561 = .ok (.iadd, 1) := by decide +kernel
theorem dL_law_562 : decode cL_law 562 = .ok (.iaload, 1) := by decide +kernel
theorem dL_law_563 : decode cL_law 563 = .ok (.aload_n 3, 1) := by decide +kernel
theorem dL_law_564 : decode cL_law 564 = .ok (.invokestatic 160, 3) := by decide +kernel
theorem dL_law_567 : decode cL_law 567 = .ok (.istore 5, 2) := by decide +kernel
theorem dL_law_569 : decode cL_law 569 = .ok (.aload_n 2, 1) := by decide +kernel
theorem dL_law_570 : decode cL_law 570 = .ok (.aload_n 0, 1) := by decide +kernel
theorem dL_law_571 : decode cL_law 571 = .ok (.iload 4, 2) := by decide +kernel
theorem dL_law_573 : decode cL_law 573 = .ok (.iconst 1, 1) := by decide +kernel
theorem dL_law_574 : decode cL_law 574 = .ok (.iadd, 1) := by decide +kernel
theorem dL_law_575 : decode cL_law 575 = .ok (.iaload, 1) := by decide +kernel
theorem dL_law_576 : decode cL_law 576 = .ok (.invokevirtual 163, 3) := by decide +kernel
theorem dL_law_579 : decode cL_law 579 = .ok (.istore 6, 2) := by decide +kernel
theorem dL_law_581 : decode cL_law 581 = .ok (.aload_n 2, 1) := by decide +kernel
theorem dL_law_582 : decode cL_law 582 = .ok (.invokevirtual 142, 3) := by decide +kernel
theorem dL_law_585 : decode cL_law 585 = .ok (.iload 5, 2) := by decide +kernel
theorem dL_law_587 : decode cL_law 587 = .ok (.if_icmp .eq 5, 3) := by decide +kernel
theorem dL_law_590 : decode cL_law 590 = .ok (.iconst 0, 1) := by decide +kernel
theorem dL_law_591 : decode cL_law 591 = .ok (.ireturn, 1) := by decide +kernel
theorem dL_law_592 : decode cL_law 592 = .ok (.iload 5, 2) := by decide +kernel
theorem dL_law_594 : decode cL_law 594 = .ok (.ifCond .ne 15, 3) := by decide +kernel
theorem dL_law_597 : decode cL_law 597 = .ok (.aload_n 3, 1) := by decide +kernel
theorem dL_law_598 : decode cL_law 598 = .ok (.iconst 0, 1) := by decide +kernel
theorem dL_law_599 : decode cL_law 599 = .ok (.laload, 1) := by decide +kernel
theorem dL_law_600 : decode cL_law 600 = .ok (.iload 6, 2) := by decide +kernel
theorem dL_law_602 : decode cL_law 602 = .ok (.i2l, 1) := by decide +kernel
theorem dL_law_603 : decode cL_law 603 = .ok (.lcmp, 1) := by decide +kernel
theorem dL_law_604 : decode cL_law 604 = .ok (.ifCond .eq 5, 3) := by decide +kernel
theorem dL_law_607 : decode cL_law 607 = .ok (.iconst 0, 1) := by decide +kernel
theorem dL_law_608 : decode cL_law 608 = .ok (.ireturn, 1) := by decide +kernel
theorem dL_law_609 : decode cL_law 609 = .ok (.goto 1984, 3) := by decide +kernel
theorem dL_law_612 : decode cL_law 612 = .ok (.aload_n 1, 1) := by decide +kernel
theorem dL_law_613 : decode cL_law 613 = .ok (.aload_n 0, 1) := by decide +kernel
theorem dL_law_614 : decode cL_law 614 = .ok (.iload 4, 2) := by decide +kernel
theorem dL_law_616 : decode cL_law 616 = .ok (.iconst 1, 1) := by decide +kernel
theorem dL_law_617 : decode cL_law 617 = .ok (.iadd, 1) := by decide +kernel
theorem dL_law_618 : decode cL_law 618 = .ok (.iaload, 1) := by decide +kernel
theorem dL_law_619 : decode cL_law 619 = .ok (.aload_n 0, 1) := by decide +kernel
theorem dL_law_620 : decode cL_law 620 = .ok (.iload 4, 2) := by decide +kernel
theorem dL_law_622 : decode cL_law 622 = .ok (.iconst 2, 1) := by decide +kernel
theorem dL_law_623 : decode cL_law 623 = .ok (.iadd, 1) := by decide +kernel
theorem dL_law_624 : decode cL_law 624 = .ok (.iaload, 1) := by decide +kernel
theorem dL_law_625 : decode cL_law 625 = .ok (.aload_n 3, 1) := by decide +kernel
theorem dL_law_626 : decode cL_law 626 = .ok (.invokestatic 164, 3) := by decide +kernel
theorem dL_law_629 : decode cL_law 629 = .ok (.istore 5, 2) := by decide +kernel
theorem dL_law_631 : decode cL_law 631 = .ok (.aload_n 2, 1) := by decide +kernel
theorem dL_law_632 : decode cL_law 632 = .ok (.aload_n 0, 1) := by decide +kernel
theorem dL_law_633 : decode cL_law 633 = .ok (.iload 4, 2) := by decide +kernel
theorem dL_law_635 : decode cL_law 635 = .ok (.iconst 1, 1) := by decide +kernel
theorem dL_law_636 : decode cL_law 636 = .ok (.iadd, 1) := by decide +kernel
theorem dL_law_637 : decode cL_law 637 = .ok (.iaload, 1) := by decide +kernel
theorem dL_law_638 : decode cL_law 638 = .ok (.aload_n 0, 1) := by decide +kernel
theorem dL_law_639 : decode cL_law 639 = .ok (.iload 4, 2) := by decide +kernel
theorem dL_law_641 : decode cL_law 641 = .ok (.iconst 2, 1) := by decide +kernel
theorem dL_law_642 : decode cL_law 642 = .ok (.iadd, 1) := by decide +kernel
theorem dL_law_643 : decode cL_law 643 = .ok (.iaload, 1) := by decide +kernel
theorem dL_law_644 : decode cL_law 644 = .ok (.invokevirtual 167, 3) := by decide +kernel
theorem dL_law_647 : decode cL_law 647 = .ok (.istore 6, 2) := by decide +kernel
theorem dL_law_649 : decode cL_law 649 = .ok (.aload_n 2, 1) := by decide +kernel
theorem dL_law_650 : decode cL_law 650 = .ok (.invokevirtual 142, 3) := by decide +kernel
theorem dL_law_653 : decode cL_law 653 = .ok (.iload 5, 2) := by decide +kernel
theorem dL_law_655 : decode cL_law 655 = .ok (.if_icmp .eq 5, 3) := by decide +kernel
theorem dL_law_658 : decode cL_law 658 = .ok (.iconst 0, 1) := by decide +kernel
theorem dL_law_659 : decode cL_law 659 = .ok (.ireturn, 1) := by decide +kernel
theorem dL_law_660 : decode cL_law 660 = .ok (.iload 5, 2) := by decide +kernel
theorem dL_law_662 : decode cL_law 662 = .ok (.ifCond .ne 15, 3) := by decide +kernel
theorem dL_law_665 : decode cL_law 665 = .ok (.aload_n 3, 1) := by decide +kernel
theorem dL_law_666 : decode cL_law 666 = .ok (.iconst 0, 1) := by decide +kernel
theorem dL_law_667 : decode cL_law 667 = .ok (.laload, 1) := by decide +kernel
theorem dL_law_668 : decode cL_law 668 = .ok (.iload 6, 2) := by decide +kernel
theorem dL_law_670 : decode cL_law 670 = .ok (.i2l, 1) := by decide +kernel
theorem dL_law_671 : decode cL_law 671 = .ok (.lcmp, 1) := by decide +kernel
theorem dL_law_672 : decode cL_law 672 = .ok (.ifCond .eq 5, 3) := by decide +kernel
theorem dL_law_675 : decode cL_law 675 = .ok (.iconst 0, 1) := by decide +kernel
theorem dL_law_676 : decode cL_law 676 = .ok (.ireturn, 1) := by decide +kernel
theorem dL_law_677 : decode cL_law 677 = .ok (.goto 1916, 3) := by decide +kernel
theorem dL_law_680 : decode cL_law 680 = .ok (.aload_n 1, 1) := by decide +kernel
theorem dL_law_681 : decode cL_law 681 = .ok (.aload_n 0, 1) := by decide +kernel
theorem dL_law_682 : decode cL_law 682 = .ok (.iload 4, 2) := by decide +kernel
theorem dL_law_684 : decode cL_law 684 = .ok (.iconst 1, 1) := by decide +kernel
theorem dL_law_685 : decode cL_law 685 = .ok (.iadd, 1) := by decide +kernel
theorem dL_law_686 : decode cL_law 686 = .ok (.iaload, 1) := by decide +kernel
theorem dL_law_687 : decode cL_law 687 = .ok (.aload_n 0, 1) := by decide +kernel
theorem dL_law_688 : decode cL_law 688 = .ok (.iload 4, 2) := by decide +kernel
theorem dL_law_690 : decode cL_law 690 = .ok (.iconst 2, 1) := by decide +kernel
theorem dL_law_691 : decode cL_law 691 = .ok (.iadd, 1) := by decide +kernel
theorem dL_law_692 : decode cL_law 692 = .ok (.iaload, 1) := by decide +kernel
theorem dL_law_693 : decode cL_law 693 = .ok (.aload_n 3, 1) := by decide +kernel
theorem dL_law_694 : decode cL_law 694 = .ok (.invokestatic 168, 3) := by decide +kernel
theorem dL_law_697 : decode cL_law 697 = .ok (.istore 5, 2) := by decide +kernel
theorem dL_law_699 : decode cL_law 699 = .ok (.aload_n 2, 1) := by decide +kernel
theorem dL_law_700 : decode cL_law 700 = .ok (.aload_n 0, 1) := by decide +kernel
theorem dL_law_701 : decode cL_law 701 = .ok (.iload 4, 2) := by decide +kernel
theorem dL_law_703 : decode cL_law 703 = .ok (.iconst 1, 1) := by decide +kernel
theorem dL_law_704 : decode cL_law 704 = .ok (.iadd, 1) := by decide +kernel
theorem dL_law_705 : decode cL_law 705 = .ok (.iaload, 1) := by decide +kernel
theorem dL_law_706 : decode cL_law 706 = .ok (.aload_n 0, 1) := by decide +kernel
theorem dL_law_707 : decode cL_law 707 = .ok (.iload 4, 2) := by decide +kernel
theorem dL_law_709 : decode cL_law 709 = .ok (.iconst 2, 1) := by decide +kernel
theorem dL_law_710 : decode cL_law 710 = .ok (.iadd, 1) := by decide +kernel
theorem dL_law_711 : decode cL_law 711 = .ok (.iaload, 1) := by decide +kernel
theorem dL_law_712 : decode cL_law 712 = .ok (.invokevirtual 170, 3) := by decide +kernel
theorem dL_law_715 : decode cL_law 715 = .ok (.istore 6, 2) := by decide +kernel
theorem dL_law_717 : decode cL_law 717 = .ok (.aload_n 2, 1) := by decide +kernel
theorem dL_law_718 : decode cL_law 718 = .ok (.invokevirtual 142, 3) := by decide +kernel
theorem dL_law_721 : decode cL_law 721 = .ok (.iload 5, 2) := by decide +kernel
theorem dL_law_723 : decode cL_law 723 = .ok (.if_icmp .eq 5, 3) := by decide +kernel
theorem dL_law_726 : decode cL_law 726 = .ok (.iconst 0, 1) := by decide +kernel
theorem dL_law_727 : decode cL_law 727 = .ok (.ireturn, 1) := by decide +kernel
theorem dL_law_728 : decode cL_law 728 = .ok (.iload 5, 2) := by decide +kernel
theorem dL_law_730 : decode cL_law 730 = .ok (.ifCond .ne 22, 3) := by decide +kernel
theorem dL_law_733 : decode cL_law 733 = .ok (.aload_n 3, 1) := by decide +kernel
theorem dL_law_734 : decode cL_law 734 = .ok (.iconst 0, 1) := by decide +kernel
theorem dL_law_735 : decode cL_law 735 = .ok (.laload, 1) := by decide +kernel
theorem dL_law_736 : decode cL_law 736 = .ok (.iload 6, 2) := by decide +kernel
theorem dL_law_738 : decode cL_law 738 = .ok (.ifCond .eq 7, 3) := by decide +kernel
theorem dL_law_741 : decode cL_law 741 = .ok (.lconst 1, 1) := by decide +kernel
theorem dL_law_742 : decode cL_law 742 = .ok (.goto 4, 3) := by decide +kernel
theorem dL_law_745 : decode cL_law 745 = .ok (.lconst 0, 1) := by decide +kernel
theorem dL_law_746 : decode cL_law 746 = .ok (.lcmp, 1) := by decide +kernel
theorem dL_law_747 : decode cL_law 747 = .ok (.ifCond .eq 5, 3) := by decide +kernel
theorem dL_law_750 : decode cL_law 750 = .ok (.iconst 0, 1) := by decide +kernel
theorem dL_law_751 : decode cL_law 751 = .ok (.ireturn, 1) := by decide +kernel
theorem dL_law_752 : decode cL_law 752 = .ok (.goto 1841, 3) := by decide +kernel
theorem dL_law_755 : decode cL_law 755 = .ok (.aload_n 1, 1) := by decide +kernel
theorem dL_law_756 : decode cL_law 756 = .ok (.aload_n 0, 1) := by decide +kernel
theorem dL_law_757 : decode cL_law 757 = .ok (.iload 4, 2) := by decide +kernel
theorem dL_law_759 : decode cL_law 759 = .ok (.iconst 1, 1) := by decide +kernel
theorem dL_law_760 : decode cL_law 760 = .ok (.iadd, 1) := by decide +kernel
theorem dL_law_761 : decode cL_law 761 = .ok (.iaload, 1) := by decide +kernel
theorem dL_law_762 : decode cL_law 762 = .ok (.aload_n 0, 1) := by decide +kernel
theorem dL_law_763 : decode cL_law 763 = .ok (.iload 4, 2) := by decide +kernel
theorem dL_law_765 : decode cL_law 765 = .ok (.iconst 2, 1) := by decide +kernel
theorem dL_law_766 : decode cL_law 766 = .ok (.iadd, 1) := by decide +kernel
theorem dL_law_767 : decode cL_law 767 = .ok (.iaload, 1) := by decide +kernel
theorem dL_law_768 : decode cL_law 768 = .ok (.aload_n 0, 1) := by decide +kernel
theorem dL_law_769 : decode cL_law 769 = .ok (.iload 4, 2) := by decide +kernel
theorem dL_law_771 : decode cL_law 771 = .ok (.iconst 3, 1) := by decide +kernel
theorem dL_law_772 : decode cL_law 772 = .ok (.iadd, 1) := by decide +kernel
theorem dL_law_773 : decode cL_law 773 = .ok (.iaload, 1) := by decide +kernel
theorem dL_law_774 : decode cL_law 774 = .ok (.aload_n 0, 1) := by decide +kernel
theorem dL_law_775 : decode cL_law 775 = .ok (.iload 4, 2) := by decide +kernel
theorem dL_law_777 : decode cL_law 777 = .ok (.iconst 4, 1) := by decide +kernel
theorem dL_law_778 : decode cL_law 778 = .ok (.iadd, 1) := by decide +kernel
theorem dL_law_779 : decode cL_law 779 = .ok (.iaload, 1) := by decide +kernel
theorem dL_law_780 : decode cL_law 780 = .ok (.aload_n 3, 1) := by decide +kernel
theorem dL_law_781 : decode cL_law 781 = .ok (.invokestatic 171, 3) := by decide +kernel
theorem dL_law_784 : decode cL_law 784 = .ok (.istore 5, 2) := by decide +kernel
theorem dL_law_786 : decode cL_law 786 = .ok (.aload_n 2, 1) := by decide +kernel
theorem dL_law_787 : decode cL_law 787 = .ok (.aload_n 0, 1) := by decide +kernel
theorem dL_law_788 : decode cL_law 788 = .ok (.iload 4, 2) := by decide +kernel
theorem dL_law_790 : decode cL_law 790 = .ok (.iconst 1, 1) := by decide +kernel
theorem dL_law_791 : decode cL_law 791 = .ok (.iadd, 1) := by decide +kernel
theorem dL_law_792 : decode cL_law 792 = .ok (.iaload, 1) := by decide +kernel
theorem dL_law_793 : decode cL_law 793 = .ok (.aload_n 0, 1) := by decide +kernel
theorem dL_law_794 : decode cL_law 794 = .ok (.iload 4, 2) := by decide +kernel
theorem dL_law_796 : decode cL_law 796 = .ok (.iconst 2, 1) := by decide +kernel
theorem dL_law_797 : decode cL_law 797 = .ok (.iadd, 1) := by decide +kernel
theorem dL_law_798 : decode cL_law 798 = .ok (.iaload, 1) := by decide +kernel
theorem dL_law_799 : decode cL_law 799 = .ok (.aload_n 0, 1) := by decide +kernel
theorem dL_law_800 : decode cL_law 800 = .ok (.iload 4, 2) := by decide +kernel
theorem dL_law_802 : decode cL_law 802 = .ok (.iconst 3, 1) := by decide +kernel
theorem dL_law_803 : decode cL_law 803 = .ok (.iadd, 1) := by decide +kernel
theorem dL_law_804 : decode cL_law 804 = .ok (.iaload, 1) := by decide +kernel
theorem dL_law_805 : decode cL_law 805 = .ok (.aload_n 0, 1) := by decide +kernel
theorem dL_law_806 : decode cL_law 806 = .ok (.iload 4, 2) := by decide +kernel
theorem dL_law_808 : decode cL_law 808 = .ok (.iconst 4, 1) := by decide +kernel
theorem dL_law_809 : decode cL_law 809 = .ok (.iadd, 1) := by decide +kernel
theorem dL_law_810 : decode cL_law 810 = .ok (.iaload, 1) := by decide +kernel
theorem dL_law_811 : decode cL_law 811 = .ok (.invokevirtual 173, 3) := by decide +kernel
theorem dL_law_814 : decode cL_law 814 = .ok (.istore 6, 2) := by decide +kernel
theorem dL_law_816 : decode cL_law 816 = .ok (.aload_n 2, 1) := by decide +kernel
theorem dL_law_817 : decode cL_law 817 = .ok (.invokevirtual 142, 3) := by decide +kernel
theorem dL_law_820 : decode cL_law 820 = .ok (.iload 5, 2) := by decide +kernel
theorem dL_law_822 : decode cL_law 822 = .ok (.if_icmp .eq 5, 3) := by decide +kernel
theorem dL_law_825 : decode cL_law 825 = .ok (.iconst 0, 1) := by decide +kernel
theorem dL_law_826 : decode cL_law 826 = .ok (.ireturn, 1) := by decide +kernel
theorem dL_law_827 : decode cL_law 827 = .ok (.iload 5, 2) := by decide +kernel
theorem dL_law_829 : decode cL_law 829 = .ok (.ifCond .ne 15, 3) := by decide +kernel
theorem dL_law_832 : decode cL_law 832 = .ok (.aload_n 3, 1) := by decide +kernel
theorem dL_law_833 : decode cL_law 833 = .ok (.iconst 0, 1) := by decide +kernel
theorem dL_law_834 : decode cL_law 834 = .ok (.laload, 1) := by decide +kernel
theorem dL_law_835 : decode cL_law 835 = .ok (.iload 6, 2) := by decide +kernel
theorem dL_law_837 : decode cL_law 837 = .ok (.i2l, 1) := by decide +kernel
theorem dL_law_838 : decode cL_law 838 = .ok (.lcmp, 1) := by decide +kernel
theorem dL_law_839 : decode cL_law 839 = .ok (.ifCond .eq 5, 3) := by decide +kernel
theorem dL_law_842 : decode cL_law 842 = .ok (.iconst 0, 1) := by decide +kernel
theorem dL_law_843 : decode cL_law 843 = .ok (.ireturn, 1) := by decide +kernel
theorem dL_law_844 : decode cL_law 844 = .ok (.goto 1749, 3) := by decide +kernel
theorem dL_law_847 : decode cL_law 847 = .ok (.aload_n 1, 1) := by decide +kernel
theorem dL_law_848 : decode cL_law 848 = .ok (.aload_n 0, 1) := by decide +kernel
theorem dL_law_849 : decode cL_law 849 = .ok (.iload 4, 2) := by decide +kernel
theorem dL_law_851 : decode cL_law 851 = .ok (.iconst 1, 1) := by decide +kernel
theorem dL_law_852 : decode cL_law 852 = .ok (.iadd, 1) := by decide +kernel
theorem dL_law_853 : decode cL_law 853 = .ok (.iaload, 1) := by decide +kernel
theorem dL_law_854 : decode cL_law 854 = .ok (.aload_n 3, 1) := by decide +kernel
theorem dL_law_855 : decode cL_law 855 = .ok (.invokestatic 174, 3) := by decide +kernel
theorem dL_law_858 : decode cL_law 858 = .ok (.istore 5, 2) := by decide +kernel
theorem dL_law_860 : decode cL_law 860 = .ok (.aload_n 2, 1) := by decide +kernel
theorem dL_law_861 : decode cL_law 861 = .ok (.aload_n 0, 1) := by decide +kernel
theorem dL_law_862 : decode cL_law 862 = .ok (.iload 4, 2) := by decide +kernel
theorem dL_law_864 : decode cL_law 864 = .ok (.iconst 1, 1) := by decide +kernel
theorem dL_law_865 : decode cL_law 865 = .ok (.iadd, 1) := by decide +kernel
theorem dL_law_866 : decode cL_law 866 = .ok (.iaload, 1) := by decide +kernel
theorem dL_law_867 : decode cL_law 867 = .ok (.invokevirtual 176, 3) := by decide +kernel
theorem dL_law_870 : decode cL_law 870 = .ok (.istore 6, 2) := by decide +kernel
theorem dL_law_872 : decode cL_law 872 = .ok (.aload_n 2, 1) := by decide +kernel
theorem dL_law_873 : decode cL_law 873 = .ok (.invokevirtual 142, 3) := by decide +kernel
theorem dL_law_876 : decode cL_law 876 = .ok (.iload 5, 2) := by decide +kernel
theorem dL_law_878 : decode cL_law 878 = .ok (.if_icmp .eq 5, 3) := by decide +kernel
theorem dL_law_881 : decode cL_law 881 = .ok (.iconst 0, 1) := by decide +kernel
theorem dL_law_882 : decode cL_law 882 = .ok (.ireturn, 1) := by decide +kernel
theorem dL_law_883 : decode cL_law 883 = .ok (.iload 5, 2) := by decide +kernel
theorem dL_law_885 : decode cL_law 885 = .ok (.ifCond .ne 15, 3) := by decide +kernel
theorem dL_law_888 : decode cL_law 888 = .ok (.aload_n 3, 1) := by decide +kernel
theorem dL_law_889 : decode cL_law 889 = .ok (.iconst 0, 1) := by decide +kernel
theorem dL_law_890 : decode cL_law 890 = .ok (.laload, 1) := by decide +kernel
theorem dL_law_891 : decode cL_law 891 = .ok (.iload 6, 2) := by decide +kernel
theorem dL_law_893 : decode cL_law 893 = .ok (.i2l, 1) := by decide +kernel
theorem dL_law_894 : decode cL_law 894 = .ok (.lcmp, 1) := by decide +kernel
theorem dL_law_895 : decode cL_law 895 = .ok (.ifCond .eq 5, 3) := by decide +kernel
theorem dL_law_898 : decode cL_law 898 = .ok (.iconst 0, 1) := by decide +kernel
theorem dL_law_899 : decode cL_law 899 = .ok (.ireturn, 1) := by decide +kernel
theorem dL_law_900 : decode cL_law 900 = .ok (.goto 1693, 3) := by decide +kernel
theorem dL_law_903 : decode cL_law 903 = .ok (.aload_n 1, 1) := by decide +kernel
theorem dL_law_904 : decode cL_law 904 = .ok (.aload_n 0, 1) := by decide +kernel
theorem dL_law_905 : decode cL_law 905 = .ok (.iload 4, 2) := by decide +kernel
theorem dL_law_907 : decode cL_law 907 = .ok (.iconst 1, 1) := by decide +kernel
theorem dL_law_908 : decode cL_law 908 = .ok (.iadd, 1) := by decide +kernel
theorem dL_law_909 : decode cL_law 909 = .ok (.iaload, 1) := by decide +kernel
theorem dL_law_910 : decode cL_law 910 = .ok (.aload_n 0, 1) := by decide +kernel
theorem dL_law_911 : decode cL_law 911 = .ok (.iload 4, 2) := by decide +kernel
theorem dL_law_913 : decode cL_law 913 = .ok (.iconst 2, 1) := by decide +kernel
theorem dL_law_914 : decode cL_law 914 = .ok (.iadd, 1) := by decide +kernel
theorem dL_law_915 : decode cL_law 915 = .ok (.iaload, 1) := by decide +kernel
theorem dL_law_916 : decode cL_law 916 = .ok (.aload_n 3, 1) := by decide +kernel
theorem dL_law_917 : decode cL_law 917 = .ok (.invokestatic 177, 3) := by decide +kernel
theorem dL_law_920 : decode cL_law 920 = .ok (.istore 5, 2) := by decide +kernel
theorem dL_law_922 : decode cL_law 922 = .ok (.aload_n 2, 1) := by decide +kernel
theorem dL_law_923 : decode cL_law 923 = .ok (.aload_n 0, 1) := by decide +kernel
theorem dL_law_924 : decode cL_law 924 = .ok (.iload 4, 2) := by decide +kernel
theorem dL_law_926 : decode cL_law 926 = .ok (.iconst 1, 1) := by decide +kernel
theorem dL_law_927 : decode cL_law 927 = .ok (.iadd, 1) := by decide +kernel
theorem dL_law_928 : decode cL_law 928 = .ok (.iaload, 1) := by decide +kernel
theorem dL_law_929 : decode cL_law 929 = .ok (.aload_n 0, 1) := by decide +kernel
theorem dL_law_930 : decode cL_law 930 = .ok (.iload 4, 2) := by decide +kernel
theorem dL_law_932 : decode cL_law 932 = .ok (.iconst 2, 1) := by decide +kernel
theorem dL_law_933 : decode cL_law 933 = .ok (.iadd, 1) := by decide +kernel
theorem dL_law_934 : decode cL_law 934 = .ok (.iaload, 1) := by decide +kernel
theorem dL_law_935 : decode cL_law 935 = .ok (.invokevirtual 179, 3) := by decide +kernel
theorem dL_law_938 : decode cL_law 938 = .ok (.istore 6, 2) := by decide +kernel
theorem dL_law_940 : decode cL_law 940 = .ok (.aload_n 2, 1) := by decide +kernel
theorem dL_law_941 : decode cL_law 941 = .ok (.invokevirtual 142, 3) := by decide +kernel
theorem dL_law_944 : decode cL_law 944 = .ok (.iload 5, 2) := by decide +kernel
theorem dL_law_946 : decode cL_law 946 = .ok (.if_icmp .eq 5, 3) := by decide +kernel
theorem dL_law_949 : decode cL_law 949 = .ok (.iconst 0, 1) := by decide +kernel
theorem dL_law_950 : decode cL_law 950 = .ok (.ireturn, 1) := by decide +kernel
theorem dL_law_951 : decode cL_law 951 = .ok (.iload 5, 2) := by decide +kernel
theorem dL_law_953 : decode cL_law 953 = .ok (.ifCond .ne 15, 3) := by decide +kernel
theorem dL_law_956 : decode cL_law 956 = .ok (.aload_n 3, 1) := by decide +kernel
theorem dL_law_957 : decode cL_law 957 = .ok (.iconst 0, 1) := by decide +kernel
theorem dL_law_958 : decode cL_law 958 = .ok (.laload, 1) := by decide +kernel
theorem dL_law_959 : decode cL_law 959 = .ok (.iload 6, 2) := by decide +kernel
theorem dL_law_961 : decode cL_law 961 = .ok (.i2l, 1) := by decide +kernel
theorem dL_law_962 : decode cL_law 962 = .ok (.lcmp, 1) := by decide +kernel
theorem dL_law_963 : decode cL_law 963 = .ok (.ifCond .eq 5, 3) := by decide +kernel
theorem dL_law_966 : decode cL_law 966 = .ok (.iconst 0, 1) := by decide +kernel
theorem dL_law_967 : decode cL_law 967 = .ok (.ireturn, 1) := by decide +kernel
theorem dL_law_968 : decode cL_law 968 = .ok (.goto 1625, 3) := by decide +kernel
theorem dL_law_971 : decode cL_law 971 = .ok (.aload_n 1, 1) := by decide +kernel
theorem dL_law_972 : decode cL_law 972 = .ok (.aload_n 0, 1) := by decide +kernel
theorem dL_law_973 : decode cL_law 973 = .ok (.iload 4, 2) := by decide +kernel
theorem dL_law_975 : decode cL_law 975 = .ok (.iconst 1, 1) := by decide +kernel
theorem dL_law_976 : decode cL_law 976 = .ok (.iadd, 1) := by decide +kernel
theorem dL_law_977 : decode cL_law 977 = .ok (.iaload, 1) := by decide +kernel
theorem dL_law_978 : decode cL_law 978 = .ok (.aload_n 0, 1) := by decide +kernel
theorem dL_law_979 : decode cL_law 979 = .ok (.iload 4, 2) := by decide +kernel
theorem dL_law_981 : decode cL_law 981 = .ok (.iconst 2, 1) := by decide +kernel
theorem dL_law_982 : decode cL_law 982 = .ok (.iadd, 1) := by decide +kernel
theorem dL_law_983 : decode cL_law 983 = .ok (.iaload, 1) := by decide +kernel
theorem dL_law_984 : decode cL_law 984 = .ok (.aload_n 3, 1) := by decide +kernel
theorem dL_law_985 : decode cL_law 985 = .ok (.invokestatic 180, 3) := by decide +kernel
theorem dL_law_988 : decode cL_law 988 = .ok (.istore 5, 2) := by decide +kernel
theorem dL_law_990 : decode cL_law 990 = .ok (.aload_n 2, 1) := by decide +kernel
theorem dL_law_991 : decode cL_law 991 = .ok (.aload_n 0, 1) := by decide +kernel
theorem dL_law_992 : decode cL_law 992 = .ok (.iload 4, 2) := by decide +kernel
theorem dL_law_994 : decode cL_law 994 = .ok (.iconst 1, 1) := by decide +kernel
theorem dL_law_995 : decode cL_law 995 = .ok (.iadd, 1) := by decide +kernel
theorem dL_law_996 : decode cL_law 996 = .ok (.iaload, 1) := by decide +kernel
theorem dL_law_997 : decode cL_law 997 = .ok (.aload_n 0, 1) := by decide +kernel
theorem dL_law_998 : decode cL_law 998 = .ok (.iload 4, 2) := by decide +kernel
theorem dL_law_1000 : decode cL_law 1000 = .ok (.iconst 2, 1) := by decide +kernel
theorem dL_law_1001 : decode cL_law 1001 = .ok (.iadd, 1) := by decide +kernel
theorem dL_law_1002 : decode cL_law 1002 = .ok (.iaload, 1) := by decide +kernel
theorem dL_law_1003 : decode cL_law 1003 = .ok (.invokevirtual 182, 3) := by decide +kernel
theorem dL_law_1006 : decode cL_law 1006 = .ok (.lstore 6, 2) := by decide +kernel
theorem dL_law_1008 : decode cL_law 1008 = .ok (.aload_n 2, 1) := by decide +kernel
theorem dL_law_1009 : decode cL_law 1009 = .ok (.invokevirtual 142, 3) := by decide +kernel
theorem dL_law_1012 : decode cL_law 1012 = .ok (.iload 5, 2) := by decide +kernel
theorem dL_law_1014 : decode cL_law 1014 = .ok (.if_icmp .eq 5, 3) := by decide +kernel
theorem dL_law_1017 : decode cL_law 1017 = .ok (.iconst 0, 1) := by decide +kernel
theorem dL_law_1018 : decode cL_law 1018 = .ok (.ireturn, 1) := by decide +kernel
theorem dL_law_1019 : decode cL_law 1019 = .ok (.iload 5, 2) := by decide +kernel
theorem dL_law_1021 : decode cL_law 1021 = .ok (.ifCond .ne 14, 3) := by decide +kernel
theorem dL_law_1024 : decode cL_law 1024 = .ok (.aload_n 3, 1) := by decide +kernel
theorem dL_law_1025 : decode cL_law 1025 = .ok (.iconst 0, 1) := by decide +kernel
theorem dL_law_1026 : decode cL_law 1026 = .ok (.laload, 1) := by decide +kernel
theorem dL_law_1027 : decode cL_law 1027 = .ok (.lload 6, 2) := by decide +kernel
theorem dL_law_1029 : decode cL_law 1029 = .ok (.lcmp, 1) := by decide +kernel
theorem dL_law_1030 : decode cL_law 1030 = .ok (.ifCond .eq 5, 3) := by decide +kernel
theorem dL_law_1033 : decode cL_law 1033 = .ok (.iconst 0, 1) := by decide +kernel
theorem dL_law_1034 : decode cL_law 1034 = .ok (.ireturn, 1) := by decide +kernel
theorem dL_law_1035 : decode cL_law 1035 = .ok (.goto 1558, 3) := by decide +kernel
theorem dL_law_1038 : decode cL_law 1038 = .ok (.aload_n 1, 1) := by decide +kernel
theorem dL_law_1039 : decode cL_law 1039 = .ok (.aload_n 0, 1) := by decide +kernel
theorem dL_law_1040 : decode cL_law 1040 = .ok (.iload 4, 2) := by decide +kernel
theorem dL_law_1042 : decode cL_law 1042 = .ok (.iconst 1, 1) := by decide +kernel
theorem dL_law_1043 : decode cL_law 1043 = .ok (.iadd, 1) := by decide +kernel
theorem dL_law_1044 : decode cL_law 1044 = .ok (.iaload, 1) := by decide +kernel
theorem dL_law_1045 : decode cL_law 1045 = .ok (.aload_n 0, 1) := by decide +kernel
theorem dL_law_1046 : decode cL_law 1046 = .ok (.iload 4, 2) := by decide +kernel
theorem dL_law_1048 : decode cL_law 1048 = .ok (.iconst 2, 1) := by decide +kernel
theorem dL_law_1049 : decode cL_law 1049 = .ok (.iadd, 1) := by decide +kernel
theorem dL_law_1050 : decode cL_law 1050 = .ok (.iaload, 1) := by decide +kernel
theorem dL_law_1051 : decode cL_law 1051 = .ok (.aload_n 0, 1) := by decide +kernel
theorem dL_law_1052 : decode cL_law 1052 = .ok (.iload 4, 2) := by decide +kernel
theorem dL_law_1054 : decode cL_law 1054 = .ok (.iconst 3, 1) := by decide +kernel
theorem dL_law_1055 : decode cL_law 1055 = .ok (.iadd, 1) := by decide +kernel
theorem dL_law_1056 : decode cL_law 1056 = .ok (.iaload, 1) := by decide +kernel
theorem dL_law_1057 : decode cL_law 1057 = .ok (.aload_n 3, 1) := by decide +kernel
theorem dL_law_1058 : decode cL_law 1058 = .ok (.invokestatic 183, 3) := by decide +kernel
theorem dL_law_1061 : decode cL_law 1061 = .ok (.istore 5, 2) := by decide +kernel
theorem dL_law_1063 : decode cL_law 1063 = .ok (.aload_n 2, 1) := by decide +kernel
theorem dL_law_1064 : decode cL_law 1064 = .ok (.aload_n 0, 1) := by decide +kernel
theorem dL_law_1065 : decode cL_law 1065 = .ok (.iload 4, 2) := by decide +kernel
theorem dL_law_1067 : decode cL_law 1067 = .ok (.iconst 1, 1) := by decide +kernel
theorem dL_law_1068 : decode cL_law 1068 = .ok (.iadd, 1) := by decide +kernel
theorem dL_law_1069 : decode cL_law 1069 = .ok (.iaload, 1) := by decide +kernel
theorem dL_law_1070 : decode cL_law 1070 = .ok (.aload_n 0, 1) := by decide +kernel
theorem dL_law_1071 : decode cL_law 1071 = .ok (.iload 4, 2) := by decide +kernel
theorem dL_law_1073 : decode cL_law 1073 = .ok (.iconst 2, 1) := by decide +kernel
theorem dL_law_1074 : decode cL_law 1074 = .ok (.iadd, 1) := by decide +kernel
theorem dL_law_1075 : decode cL_law 1075 = .ok (.iaload, 1) := by decide +kernel
theorem dL_law_1076 : decode cL_law 1076 = .ok (.aload_n 0, 1) := by decide +kernel
theorem dL_law_1077 : decode cL_law 1077 = .ok (.iload 4, 2) := by decide +kernel
theorem dL_law_1079 : decode cL_law 1079 = .ok (.iconst 3, 1) := by decide +kernel
theorem dL_law_1080 : decode cL_law 1080 = .ok (.iadd, 1) := by decide +kernel
theorem dL_law_1081 : decode cL_law 1081 = .ok (.iaload, 1) := by decide +kernel
theorem dL_law_1082 : decode cL_law 1082 = .ok (.invokevirtual 185, 3) := by decide +kernel
theorem dL_law_1085 : decode cL_law 1085 = .ok (.istore 6, 2) := by decide +kernel
theorem dL_law_1087 : decode cL_law 1087 = .ok (.aload_n 2, 1) := by decide +kernel
theorem dL_law_1088 : decode cL_law 1088 = .ok (.invokevirtual 142, 3) := by decide +kernel
theorem dL_law_1091 : decode cL_law 1091 = .ok (.iload 5, 2) := by decide +kernel
theorem dL_law_1093 : decode cL_law 1093 = .ok (.if_icmp .eq 5, 3) := by decide +kernel
theorem dL_law_1096 : decode cL_law 1096 = .ok (.iconst 0, 1) := by decide +kernel
theorem dL_law_1097 : decode cL_law 1097 = .ok (.ireturn, 1) := by decide +kernel
theorem dL_law_1098 : decode cL_law 1098 = .ok (.iload 5, 2) := by decide +kernel
theorem dL_law_1100 : decode cL_law 1100 = .ok (.ifCond .ne 15, 3) := by decide +kernel
theorem dL_law_1103 : decode cL_law 1103 = .ok (.aload_n 3, 1) := by decide +kernel
theorem dL_law_1104 : decode cL_law 1104 = .ok (.iconst 0, 1) := by decide +kernel
theorem dL_law_1105 : decode cL_law 1105 = .ok (.laload, 1) := by decide +kernel
theorem dL_law_1106 : decode cL_law 1106 = .ok (.iload 6, 2) := by decide +kernel
theorem dL_law_1108 : decode cL_law 1108 = .ok (.i2l, 1) := by decide +kernel
theorem dL_law_1109 : decode cL_law 1109 = .ok (.lcmp, 1) := by decide +kernel
theorem dL_law_1110 : decode cL_law 1110 = .ok (.ifCond .eq 5, 3) := by decide +kernel
theorem dL_law_1113 : decode cL_law 1113 = .ok (.iconst 0, 1) := by decide +kernel
theorem dL_law_1114 : decode cL_law 1114 = .ok (.ireturn, 1) := by decide +kernel
theorem dL_law_1115 : decode cL_law 1115 = .ok (.goto 1478, 3) := by decide +kernel
theorem dL_law_1118 : decode cL_law 1118 = .ok (.aload_n 1, 1) := by decide +kernel
theorem dL_law_1119 : decode cL_law 1119 = .ok (.aload_n 0, 1) := by decide +kernel
theorem dL_law_1120 : decode cL_law 1120 = .ok (.iload 4, 2) := by decide +kernel
theorem dL_law_1122 : decode cL_law 1122 = .ok (.iconst 1, 1) := by decide +kernel
theorem dL_law_1123 : decode cL_law 1123 = .ok (.iadd, 1) := by decide +kernel
theorem dL_law_1124 : decode cL_law 1124 = .ok (.iaload, 1) := by decide +kernel
theorem dL_law_1125 : decode cL_law 1125 = .ok (.aload_n 3, 1) := by decide +kernel
theorem dL_law_1126 : decode cL_law 1126 = .ok (.invokestatic 186, 3) := by decide +kernel
theorem dL_law_1129 : decode cL_law 1129 = .ok (.istore 5, 2) := by decide +kernel
theorem dL_law_1131 : decode cL_law 1131 = .ok (.aload_n 2, 1) := by decide +kernel
theorem dL_law_1132 : decode cL_law 1132 = .ok (.aload_n 0, 1) := by decide +kernel
theorem dL_law_1133 : decode cL_law 1133 = .ok (.iload 4, 2) := by decide +kernel
theorem dL_law_1135 : decode cL_law 1135 = .ok (.iconst 1, 1) := by decide +kernel
theorem dL_law_1136 : decode cL_law 1136 = .ok (.iadd, 1) := by decide +kernel
theorem dL_law_1137 : decode cL_law 1137 = .ok (.iaload, 1) := by decide +kernel
theorem dL_law_1138 : decode cL_law 1138 = .ok (.invokevirtual 188, 3) := by decide +kernel
theorem dL_law_1141 : decode cL_law 1141 = .ok (.istore 6, 2) := by decide +kernel
theorem dL_law_1143 : decode cL_law 1143 = .ok (.aload_n 2, 1) := by decide +kernel
theorem dL_law_1144 : decode cL_law 1144 = .ok (.invokevirtual 142, 3) := by decide +kernel
theorem dL_law_1147 : decode cL_law 1147 = .ok (.iload 5, 2) := by decide +kernel
theorem dL_law_1149 : decode cL_law 1149 = .ok (.if_icmp .eq 5, 3) := by decide +kernel
theorem dL_law_1152 : decode cL_law 1152 = .ok (.iconst 0, 1) := by decide +kernel
theorem dL_law_1153 : decode cL_law 1153 = .ok (.ireturn, 1) := by decide +kernel
theorem dL_law_1154 : decode cL_law 1154 = .ok (.iload 5, 2) := by decide +kernel
theorem dL_law_1156 : decode cL_law 1156 = .ok (.ifCond .ne 15, 3) := by decide +kernel
theorem dL_law_1159 : decode cL_law 1159 = .ok (.aload_n 3, 1) := by decide +kernel
theorem dL_law_1160 : decode cL_law 1160 = .ok (.iconst 0, 1) := by decide +kernel
theorem dL_law_1161 : decode cL_law 1161 = .ok (.laload, 1) := by decide +kernel
theorem dL_law_1162 : decode cL_law 1162 = .ok (.iload 6, 2) := by decide +kernel
theorem dL_law_1164 : decode cL_law 1164 = .ok (.i2l, 1) := by decide +kernel
theorem dL_law_1165 : decode cL_law 1165 = .ok (.lcmp, 1) := by decide +kernel
theorem dL_law_1166 : decode cL_law 1166 = .ok (.ifCond .eq 5, 3) := by decide +kernel
theorem dL_law_1169 : decode cL_law 1169 = .ok (.iconst 0, 1) := by decide +kernel
theorem dL_law_1170 : decode cL_law 1170 = .ok (.ireturn, 1) := by decide +kernel
theorem dL_law_1171 : decode cL_law 1171 = .ok (.goto 1422, 3) := by decide +kernel
theorem dL_law_1174 : decode cL_law 1174 = .ok (.aload_n 1, 1) := by decide +kernel
theorem dL_law_1175 : decode cL_law 1175 = .ok (.aload_n 0, 1) := by decide +kernel
theorem dL_law_1176 : decode cL_law 1176 = .ok (.iload 4, 2) := by decide +kernel
theorem dL_law_1178 : decode cL_law 1178 = .ok (.iconst 1, 1) := by decide +kernel
theorem dL_law_1179 : decode cL_law 1179 = .ok (.iadd, 1) := by decide +kernel
theorem dL_law_1180 : decode cL_law 1180 = .ok (.iaload, 1) := by decide +kernel
theorem dL_law_1181 : decode cL_law 1181 = .ok (.aload_n 0, 1) := by decide +kernel
theorem dL_law_1182 : decode cL_law 1182 = .ok (.iload 4, 2) := by decide +kernel
theorem dL_law_1184 : decode cL_law 1184 = .ok (.iconst 2, 1) := by decide +kernel
theorem dL_law_1185 : decode cL_law 1185 = .ok (.iadd, 1) := by decide +kernel
theorem dL_law_1186 : decode cL_law 1186 = .ok (.iaload, 1) := by decide +kernel
theorem dL_law_1187 : decode cL_law 1187 = .ok (.aload_n 3, 1) := by decide +kernel
theorem dL_law_1188 : decode cL_law 1188 = .ok (.invokestatic 189, 3) := by decide +kernel
theorem dL_law_1191 : decode cL_law 1191 = .ok (.istore 5, 2) := by decide +kernel
theorem dL_law_1193 : decode cL_law 1193 = .ok (.aload_n 2, 1) := by decide +kernel
theorem dL_law_1194 : decode cL_law 1194 = .ok (.aload_n 0, 1) := by decide +kernel
theorem dL_law_1195 : decode cL_law 1195 = .ok (.iload 4, 2) := by decide +kernel
theorem dL_law_1197 : decode cL_law 1197 = .ok (.iconst 1, 1) := by decide +kernel
theorem dL_law_1198 : decode cL_law 1198 = .ok (.iadd, 1) := by decide +kernel
theorem dL_law_1199 : decode cL_law 1199 = .ok (.iaload, 1) := by decide +kernel
theorem dL_law_1200 : decode cL_law 1200 = .ok (.aload_n 0, 1) := by decide +kernel
theorem dL_law_1201 : decode cL_law 1201 = .ok (.iload 4, 2) := by decide +kernel
theorem dL_law_1203 : decode cL_law 1203 = .ok (.iconst 2, 1) := by decide +kernel
theorem dL_law_1204 : decode cL_law 1204 = .ok (.iadd, 1) := by decide +kernel
theorem dL_law_1205 : decode cL_law 1205 = .ok (.iaload, 1) := by decide +kernel
theorem dL_law_1206 : decode cL_law 1206 = .ok (.invokevirtual 191, 3) := by decide +kernel
theorem dL_law_1209 : decode cL_law 1209 = .ok (.istore 6, 2) := by decide +kernel
theorem dL_law_1211 : decode cL_law 1211 = .ok (.aload_n 2, 1) := by decide +kernel
theorem dL_law_1212 : decode cL_law 1212 = .ok (.invokevirtual 142, 3) := by decide +kernel
theorem dL_law_1215 : decode cL_law 1215 = .ok (.iload 5, 2) := by decide +kernel
theorem dL_law_1217 : decode cL_law 1217 = .ok (.if_icmp .eq 5, 3) := by decide +kernel
theorem dL_law_1220 : decode cL_law 1220 = .ok (.iconst 0, 1) := by decide +kernel
theorem dL_law_1221 : decode cL_law 1221 = .ok (.ireturn, 1) := by decide +kernel
theorem dL_law_1222 : decode cL_law 1222 = .ok (.iload 5, 2) := by decide +kernel
theorem dL_law_1224 : decode cL_law 1224 = .ok (.ifCond .ne 22, 3) := by decide +kernel
theorem dL_law_1227 : decode cL_law 1227 = .ok (.aload_n 3, 1) := by decide +kernel
theorem dL_law_1228 : decode cL_law 1228 = .ok (.iconst 0, 1) := by decide +kernel
theorem dL_law_1229 : decode cL_law 1229 = .ok (.laload, 1) := by decide +kernel
theorem dL_law_1230 : decode cL_law 1230 = .ok (.iload 6, 2) := by decide +kernel
theorem dL_law_1232 : decode cL_law 1232 = .ok (.ifCond .eq 7, 3) := by decide +kernel
theorem dL_law_1235 : decode cL_law 1235 = .ok (.lconst 1, 1) := by decide +kernel
theorem dL_law_1236 : decode cL_law 1236 = .ok (.goto 4, 3) := by decide +kernel
theorem dL_law_1239 : decode cL_law 1239 = .ok (.lconst 0, 1) := by decide +kernel
theorem dL_law_1240 : decode cL_law 1240 = .ok (.lcmp, 1) := by decide +kernel
theorem dL_law_1241 : decode cL_law 1241 = .ok (.ifCond .eq 5, 3) := by decide +kernel
theorem dL_law_1244 : decode cL_law 1244 = .ok (.iconst 0, 1) := by decide +kernel
theorem dL_law_1245 : decode cL_law 1245 = .ok (.ireturn, 1) := by decide +kernel
theorem dL_law_1246 : decode cL_law 1246 = .ok (.goto 1347, 3) := by decide +kernel
theorem dL_law_1249 : decode cL_law 1249 = .ok (.aload_n 1, 1) := by decide +kernel
theorem dL_law_1250 : decode cL_law 1250 = .ok (.aload_n 0, 1) := by decide +kernel
theorem dL_law_1251 : decode cL_law 1251 = .ok (.iload 4, 2) := by decide +kernel
theorem dL_law_1253 : decode cL_law 1253 = .ok (.iconst 1, 1) := by decide +kernel
theorem dL_law_1254 : decode cL_law 1254 = .ok (.iadd, 1) := by decide +kernel
theorem dL_law_1255 : decode cL_law 1255 = .ok (.iaload, 1) := by decide +kernel
theorem dL_law_1256 : decode cL_law 1256 = .ok (.aload_n 0, 1) := by decide +kernel
theorem dL_law_1257 : decode cL_law 1257 = .ok (.iload 4, 2) := by decide +kernel
theorem dL_law_1259 : decode cL_law 1259 = .ok (.iconst 2, 1) := by decide +kernel
theorem dL_law_1260 : decode cL_law 1260 = .ok (.iadd, 1) := by decide +kernel
theorem dL_law_1261 : decode cL_law 1261 = .ok (.iaload, 1) := by decide +kernel
theorem dL_law_1262 : decode cL_law 1262 = .ok (.aload_n 3, 1) := by decide +kernel
theorem dL_law_1263 : decode cL_law 1263 = .ok (.invokestatic 192, 3) := by decide +kernel
theorem dL_law_1266 : decode cL_law 1266 = .ok (.istore 5, 2) := by decide +kernel
theorem dL_law_1268 : decode cL_law 1268 = .ok (.aload_n 2, 1) := by decide +kernel
theorem dL_law_1269 : decode cL_law 1269 = .ok (.aload_n 0, 1) := by decide +kernel
theorem dL_law_1270 : decode cL_law 1270 = .ok (.iload 4, 2) := by decide +kernel
theorem dL_law_1272 : decode cL_law 1272 = .ok (.iconst 1, 1) := by decide +kernel
theorem dL_law_1273 : decode cL_law 1273 = .ok (.iadd, 1) := by decide +kernel
theorem dL_law_1274 : decode cL_law 1274 = .ok (.iaload, 1) := by decide +kernel
theorem dL_law_1275 : decode cL_law 1275 = .ok (.aload_n 0, 1) := by decide +kernel
theorem dL_law_1276 : decode cL_law 1276 = .ok (.iload 4, 2) := by decide +kernel
theorem dL_law_1278 : decode cL_law 1278 = .ok (.iconst 2, 1) := by decide +kernel
theorem dL_law_1279 : decode cL_law 1279 = .ok (.iadd, 1) := by decide +kernel
theorem dL_law_1280 : decode cL_law 1280 = .ok (.iaload, 1) := by decide +kernel
theorem dL_law_1281 : decode cL_law 1281 = .ok (.invokevirtual 194, 3) := by decide +kernel
theorem dL_law_1284 : decode cL_law 1284 = .ok (.istore 6, 2) := by decide +kernel
theorem dL_law_1286 : decode cL_law 1286 = .ok (.aload_n 2, 1) := by decide +kernel
theorem dL_law_1287 : decode cL_law 1287 = .ok (.invokevirtual 142, 3) := by decide +kernel
theorem dL_law_1290 : decode cL_law 1290 = .ok (.iload 5, 2) := by decide +kernel
theorem dL_law_1292 : decode cL_law 1292 = .ok (.if_icmp .eq 5, 3) := by decide +kernel
theorem dL_law_1295 : decode cL_law 1295 = .ok (.iconst 0, 1) := by decide +kernel
theorem dL_law_1296 : decode cL_law 1296 = .ok (.ireturn, 1) := by decide +kernel
theorem dL_law_1297 : decode cL_law 1297 = .ok (.iload 5, 2) := by decide +kernel
theorem dL_law_1299 : decode cL_law 1299 = .ok (.ifCond .ne 15, 3) := by decide +kernel
theorem dL_law_1302 : decode cL_law 1302 = .ok (.aload_n 3, 1) := by decide +kernel
theorem dL_law_1303 : decode cL_law 1303 = .ok (.iconst 0, 1) := by decide +kernel
theorem dL_law_1304 : decode cL_law 1304 = .ok (.laload, 1) := by decide +kernel
theorem dL_law_1305 : decode cL_law 1305 = .ok (.iload 6, 2) := by decide +kernel
theorem dL_law_1307 : decode cL_law 1307 = .ok (.i2l, 1) := by decide +kernel
theorem dL_law_1308 : decode cL_law 1308 = .ok (.lcmp, 1) := by decide +kernel
theorem dL_law_1309 : decode cL_law 1309 = .ok (.ifCond .eq 5, 3) := by decide +kernel
theorem dL_law_1312 : decode cL_law 1312 = .ok (.iconst 0, 1) := by decide +kernel
theorem dL_law_1313 : decode cL_law 1313 = .ok (.ireturn, 1) := by decide +kernel
theorem dL_law_1314 : decode cL_law 1314 = .ok (.goto 1279, 3) := by decide +kernel
theorem dL_law_1317 : decode cL_law 1317 = .ok (.aload_n 1, 1) := by decide +kernel
theorem dL_law_1318 : decode cL_law 1318 = .ok (.aload_n 0, 1) := by decide +kernel
theorem dL_law_1319 : decode cL_law 1319 = .ok (.iload 4, 2) := by decide +kernel
theorem dL_law_1321 : decode cL_law 1321 = .ok (.iconst 1, 1) := by decide +kernel
theorem dL_law_1322 : decode cL_law 1322 = .ok (.iadd, 1) := by decide +kernel
theorem dL_law_1323 : decode cL_law 1323 = .ok (.iaload, 1) := by decide +kernel
theorem dL_law_1324 : decode cL_law 1324 = .ok (.aload_n 0, 1) := by decide +kernel
theorem dL_law_1325 : decode cL_law 1325 = .ok (.iload 4, 2) := by decide +kernel
theorem dL_law_1327 : decode cL_law 1327 = .ok (.iconst 2, 1) := by decide +kernel
theorem dL_law_1328 : decode cL_law 1328 = .ok (.iadd, 1) := by decide +kernel
theorem dL_law_1329 : decode cL_law 1329 = .ok (.iaload, 1) := by decide +kernel
theorem dL_law_1330 : decode cL_law 1330 = .ok (.aload_n 3, 1) := by decide +kernel
theorem dL_law_1331 : decode cL_law 1331 = .ok (.invokestatic 195, 3) := by decide +kernel
theorem dL_law_1334 : decode cL_law 1334 = .ok (.istore 5, 2) := by decide +kernel
theorem dL_law_1336 : decode cL_law 1336 = .ok (.aload_n 2, 1) := by decide +kernel
theorem dL_law_1337 : decode cL_law 1337 = .ok (.aload_n 0, 1) := by decide +kernel
theorem dL_law_1338 : decode cL_law 1338 = .ok (.iload 4, 2) := by decide +kernel
theorem dL_law_1340 : decode cL_law 1340 = .ok (.iconst 1, 1) := by decide +kernel
theorem dL_law_1341 : decode cL_law 1341 = .ok (.iadd, 1) := by decide +kernel
theorem dL_law_1342 : decode cL_law 1342 = .ok (.iaload, 1) := by decide +kernel
theorem dL_law_1343 : decode cL_law 1343 = .ok (.aload_n 0, 1) := by decide +kernel
theorem dL_law_1344 : decode cL_law 1344 = .ok (.iload 4, 2) := by decide +kernel
theorem dL_law_1346 : decode cL_law 1346 = .ok (.iconst 2, 1) := by decide +kernel
theorem dL_law_1347 : decode cL_law 1347 = .ok (.iadd, 1) := by decide +kernel
theorem dL_law_1348 : decode cL_law 1348 = .ok (.iaload, 1) := by decide +kernel
theorem dL_law_1349 : decode cL_law 1349 = .ok (.invokevirtual 197, 3) := by decide +kernel
theorem dL_law_1352 : decode cL_law 1352 = .ok (.istore 6, 2) := by decide +kernel
theorem dL_law_1354 : decode cL_law 1354 = .ok (.aload_n 2, 1) := by decide +kernel
theorem dL_law_1355 : decode cL_law 1355 = .ok (.invokevirtual 142, 3) := by decide +kernel
theorem dL_law_1358 : decode cL_law 1358 = .ok (.iload 5, 2) := by decide +kernel
theorem dL_law_1360 : decode cL_law 1360 = .ok (.if_icmp .eq 5, 3) := by decide +kernel
theorem dL_law_1363 : decode cL_law 1363 = .ok (.iconst 0, 1) := by decide +kernel
theorem dL_law_1364 : decode cL_law 1364 = .ok (.ireturn, 1) := by decide +kernel
theorem dL_law_1365 : decode cL_law 1365 = .ok (.iload 5, 2) := by decide +kernel
theorem dL_law_1367 : decode cL_law 1367 = .ok (.ifCond .ne 15, 3) := by decide +kernel
theorem dL_law_1370 : decode cL_law 1370 = .ok (.aload_n 3, 1) := by decide +kernel
theorem dL_law_1371 : decode cL_law 1371 = .ok (.iconst 0, 1) := by decide +kernel
theorem dL_law_1372 : decode cL_law 1372 = .ok (.laload, 1) := by decide +kernel
theorem dL_law_1373 : decode cL_law 1373 = .ok (.iload 6, 2) := by decide +kernel
theorem dL_law_1375 : decode cL_law 1375 = .ok (.i2l, 1) := by decide +kernel
theorem dL_law_1376 : decode cL_law 1376 = .ok (.lcmp, 1) := by decide +kernel
theorem dL_law_1377 : decode cL_law 1377 = .ok (.ifCond .eq 5, 3) := by decide +kernel
theorem dL_law_1380 : decode cL_law 1380 = .ok (.iconst 0, 1) := by decide +kernel
theorem dL_law_1381 : decode cL_law 1381 = .ok (.ireturn, 1) := by decide +kernel
theorem dL_law_1382 : decode cL_law 1382 = .ok (.goto 1211, 3) := by decide +kernel
theorem dL_law_1385 : decode cL_law 1385 = .ok (.aload_n 1, 1) := by decide +kernel
theorem dL_law_1386 : decode cL_law 1386 = .ok (.aload_n 0, 1) := by decide +kernel
theorem dL_law_1387 : decode cL_law 1387 = .ok (.iload 4, 2) := by decide +kernel
theorem dL_law_1389 : decode cL_law 1389 = .ok (.iconst 1, 1) := by decide +kernel
theorem dL_law_1390 : decode cL_law 1390 = .ok (.iadd, 1) := by decide +kernel
theorem dL_law_1391 : decode cL_law 1391 = .ok (.iaload, 1) := by decide +kernel
theorem dL_law_1392 : decode cL_law 1392 = .ok (.aload_n 3, 1) := by decide +kernel
theorem dL_law_1393 : decode cL_law 1393 = .ok (.invokestatic 198, 3) := by decide +kernel
theorem dL_law_1396 : decode cL_law 1396 = .ok (.istore 5, 2) := by decide +kernel
theorem dL_law_1398 : decode cL_law 1398 = .ok (.aload_n 2, 1) := by decide +kernel
theorem dL_law_1399 : decode cL_law 1399 = .ok (.aload_n 0, 1) := by decide +kernel
theorem dL_law_1400 : decode cL_law 1400 = .ok (.iload 4, 2) := by decide +kernel
theorem dL_law_1402 : decode cL_law 1402 = .ok (.iconst 1, 1) := by decide +kernel
theorem dL_law_1403 : decode cL_law 1403 = .ok (.iadd, 1) := by decide +kernel
theorem dL_law_1404 : decode cL_law 1404 = .ok (.iaload, 1) := by decide +kernel
theorem dL_law_1405 : decode cL_law 1405 = .ok (.invokevirtual 200, 3) := by decide +kernel
theorem dL_law_1408 : decode cL_law 1408 = .ok (.istore 6, 2) := by decide +kernel
theorem dL_law_1410 : decode cL_law 1410 = .ok (.aload_n 2, 1) := by decide +kernel
theorem dL_law_1411 : decode cL_law 1411 = .ok (.invokevirtual 142, 3) := by decide +kernel
theorem dL_law_1414 : decode cL_law 1414 = .ok (.iload 5, 2) := by decide +kernel
theorem dL_law_1416 : decode cL_law 1416 = .ok (.if_icmp .eq 5, 3) := by decide +kernel
theorem dL_law_1419 : decode cL_law 1419 = .ok (.iconst 0, 1) := by decide +kernel
theorem dL_law_1420 : decode cL_law 1420 = .ok (.ireturn, 1) := by decide +kernel
theorem dL_law_1421 : decode cL_law 1421 = .ok (.iload 5, 2) := by decide +kernel
theorem dL_law_1423 : decode cL_law 1423 = .ok (.ifCond .ne 15, 3) := by decide +kernel
theorem dL_law_1426 : decode cL_law 1426 = .ok (.aload_n 3, 1) := by decide +kernel
theorem dL_law_1427 : decode cL_law 1427 = .ok (.iconst 0, 1) := by decide +kernel
theorem dL_law_1428 : decode cL_law 1428 = .ok (.laload, 1) := by decide +kernel
theorem dL_law_1429 : decode cL_law 1429 = .ok (.iload 6, 2) := by decide +kernel
theorem dL_law_1431 : decode cL_law 1431 = .ok (.i2l, 1) := by decide +kernel
theorem dL_law_1432 : decode cL_law 1432 = .ok (.lcmp, 1) := by decide +kernel
theorem dL_law_1433 : decode cL_law 1433 = .ok (.ifCond .eq 5, 3) := by decide +kernel
theorem dL_law_1436 : decode cL_law 1436 = .ok (.iconst 0, 1) := by decide +kernel
theorem dL_law_1437 : decode cL_law 1437 = .ok (.ireturn, 1) := by decide +kernel
theorem dL_law_1438 : decode cL_law 1438 = .ok (.goto 1155, 3) := by decide +kernel
theorem dL_law_1441 : decode cL_law 1441 = .ok (.aload_n 1, 1) := by decide +kernel
theorem dL_law_1442 : decode cL_law 1442 = .ok (.aload_n 0, 1) := by decide +kernel
theorem dL_law_1443 : decode cL_law 1443 = .ok (.iload 4, 2) := by decide +kernel
theorem dL_law_1445 : decode cL_law 1445 = .ok (.iconst 1, 1) := by decide +kernel
theorem dL_law_1446 : decode cL_law 1446 = .ok (.iadd, 1) := by decide +kernel
theorem dL_law_1447 : decode cL_law 1447 = .ok (.iaload, 1) := by decide +kernel
theorem dL_law_1448 : decode cL_law 1448 = .ok (.aload_n 3, 1) := by decide +kernel
theorem dL_law_1449 : decode cL_law 1449 = .ok (.invokestatic 201, 3) := by decide +kernel
theorem dL_law_1452 : decode cL_law 1452 = .ok (.istore 5, 2) := by decide +kernel
theorem dL_law_1454 : decode cL_law 1454 = .ok (.aload_n 2, 1) := by decide +kernel
theorem dL_law_1455 : decode cL_law 1455 = .ok (.aload_n 0, 1) := by decide +kernel
theorem dL_law_1456 : decode cL_law 1456 = .ok (.iload 4, 2) := by decide +kernel
theorem dL_law_1458 : decode cL_law 1458 = .ok (.iconst 1, 1) := by decide +kernel
theorem dL_law_1459 : decode cL_law 1459 = .ok (.iadd, 1) := by decide +kernel
theorem dL_law_1460 : decode cL_law 1460 = .ok (.iaload, 1) := by decide +kernel
theorem dL_law_1461 : decode cL_law 1461 = .ok (.invokevirtual 203, 3) := by decide +kernel
theorem dL_law_1464 : decode cL_law 1464 = .ok (.istore 6, 2) := by decide +kernel
theorem dL_law_1466 : decode cL_law 1466 = .ok (.aload_n 2, 1) := by decide +kernel
theorem dL_law_1467 : decode cL_law 1467 = .ok (.invokevirtual 142, 3) := by decide +kernel
theorem dL_law_1470 : decode cL_law 1470 = .ok (.iload 5, 2) := by decide +kernel
theorem dL_law_1472 : decode cL_law 1472 = .ok (.if_icmp .eq 5, 3) := by decide +kernel
theorem dL_law_1475 : decode cL_law 1475 = .ok (.iconst 0, 1) := by decide +kernel
theorem dL_law_1476 : decode cL_law 1476 = .ok (.ireturn, 1) := by decide +kernel
theorem dL_law_1477 : decode cL_law 1477 = .ok (.iload 5, 2) := by decide +kernel
theorem dL_law_1479 : decode cL_law 1479 = .ok (.ifCond .ne 15, 3) := by decide +kernel
theorem dL_law_1482 : decode cL_law 1482 = .ok (.aload_n 3, 1) := by decide +kernel
theorem dL_law_1483 : decode cL_law 1483 = .ok (.iconst 0, 1) := by decide +kernel
theorem dL_law_1484 : decode cL_law 1484 = .ok (.laload, 1) := by decide +kernel
theorem dL_law_1485 : decode cL_law 1485 = .ok (.iload 6, 2) := by decide +kernel
theorem dL_law_1487 : decode cL_law 1487 = .ok (.i2l, 1) := by decide +kernel
theorem dL_law_1488 : decode cL_law 1488 = .ok (.lcmp, 1) := by decide +kernel
theorem dL_law_1489 : decode cL_law 1489 = .ok (.ifCond .eq 5, 3) := by decide +kernel
theorem dL_law_1492 : decode cL_law 1492 = .ok (.iconst 0, 1) := by decide +kernel
theorem dL_law_1493 : decode cL_law 1493 = .ok (.ireturn, 1) := by decide +kernel
theorem dL_law_1494 : decode cL_law 1494 = .ok (.goto 1099, 3) := by decide +kernel
theorem dL_law_1497 : decode cL_law 1497 = .ok (.aload_n 1, 1) := by decide +kernel
theorem dL_law_1498 : decode cL_law 1498 = .ok (.aload_n 0, 1) := by decide +kernel
theorem dL_law_1499 : decode cL_law 1499 = .ok (.iload 4, 2) := by decide +kernel
theorem dL_law_1501 : decode cL_law 1501 = .ok (.iconst 1, 1) := by decide +kernel
theorem dL_law_1502 : decode cL_law 1502 = .ok (.iadd, 1) := by decide +kernel
theorem dL_law_1503 : decode cL_law 1503 = .ok (.iaload, 1) := by decide +kernel
theorem dL_law_1504 : decode cL_law 1504 = .ok (.aload_n 0, 1) := by decide +kernel
theorem dL_law_1505 : decode cL_law 1505 = .ok (.iload 4, 2) := by decide +kernel
theorem dL_law_1507 : decode cL_law 1507 = .ok (.iconst 2, 1) := by decide +kernel
theorem dL_law_1508 : decode cL_law 1508 = .ok (.iadd, 1) := by decide +kernel
theorem dL_law_1509 : decode cL_law 1509 = .ok (.iaload, 1) := by decide +kernel
theorem dL_law_1510 : decode cL_law 1510 = .ok (.aload_n 0, 1) := by decide +kernel
theorem dL_law_1511 : decode cL_law 1511 = .ok (.iload 4, 2) := by decide +kernel
theorem dL_law_1513 : decode cL_law 1513 = .ok (.iconst 3, 1) := by decide +kernel
theorem dL_law_1514 : decode cL_law 1514 = .ok (.iadd, 1) := by decide +kernel
theorem dL_law_1515 : decode cL_law 1515 = .ok (.iaload, 1) := by decide +kernel
theorem dL_law_1516 : decode cL_law 1516 = .ok (.aload_n 3, 1) := by decide +kernel
theorem dL_law_1517 : decode cL_law 1517 = .ok (.invokestatic 204, 3) := by decide +kernel
theorem dL_law_1520 : decode cL_law 1520 = .ok (.istore 5, 2) := by decide +kernel
theorem dL_law_1522 : decode cL_law 1522 = .ok (.aload_n 2, 1) := by decide +kernel
theorem dL_law_1523 : decode cL_law 1523 = .ok (.aload_n 0, 1) := by decide +kernel
theorem dL_law_1524 : decode cL_law 1524 = .ok (.iload 4, 2) := by decide +kernel
theorem dL_law_1526 : decode cL_law 1526 = .ok (.iconst 1, 1) := by decide +kernel
theorem dL_law_1527 : decode cL_law 1527 = .ok (.iadd, 1) := by decide +kernel
theorem dL_law_1528 : decode cL_law 1528 = .ok (.iaload, 1) := by decide +kernel
theorem dL_law_1529 : decode cL_law 1529 = .ok (.aload_n 0, 1) := by decide +kernel
theorem dL_law_1530 : decode cL_law 1530 = .ok (.iload 4, 2) := by decide +kernel
theorem dL_law_1532 : decode cL_law 1532 = .ok (.iconst 2, 1) := by decide +kernel
theorem dL_law_1533 : decode cL_law 1533 = .ok (.iadd, 1) := by decide +kernel
theorem dL_law_1534 : decode cL_law 1534 = .ok (.iaload, 1) := by decide +kernel
theorem dL_law_1535 : decode cL_law 1535 = .ok (.aload_n 0, 1) := by decide +kernel
theorem dL_law_1536 : decode cL_law 1536 = .ok (.iload 4, 2) := by decide +kernel
theorem dL_law_1538 : decode cL_law 1538 = .ok (.iconst 3, 1) := by decide +kernel
theorem dL_law_1539 : decode cL_law 1539 = .ok (.iadd, 1) := by decide +kernel
theorem dL_law_1540 : decode cL_law 1540 = .ok (.iaload, 1) := by decide +kernel
theorem dL_law_1541 : decode cL_law 1541 = .ok (.invokevirtual 206, 3) := by decide +kernel
theorem dL_law_1544 : decode cL_law 1544 = .ok (.istore 6, 2) := by decide +kernel
theorem dL_law_1546 : decode cL_law 1546 = .ok (.aload_n 2, 1) := by decide +kernel
theorem dL_law_1547 : decode cL_law 1547 = .ok (.invokevirtual 142, 3) := by decide +kernel
theorem dL_law_1550 : decode cL_law 1550 = .ok (.iload 5, 2) := by decide +kernel
theorem dL_law_1552 : decode cL_law 1552 = .ok (.if_icmp .eq 5, 3) := by decide +kernel
theorem dL_law_1555 : decode cL_law 1555 = .ok (.iconst 0, 1) := by decide +kernel
theorem dL_law_1556 : decode cL_law 1556 = .ok (.ireturn, 1) := by decide +kernel
theorem dL_law_1557 : decode cL_law 1557 = .ok (.iload 5, 2) := by decide +kernel
theorem dL_law_1559 : decode cL_law 1559 = .ok (.ifCond .ne 15, 3) := by decide +kernel
theorem dL_law_1562 : decode cL_law 1562 = .ok (.aload_n 3, 1) := by decide +kernel
theorem dL_law_1563 : decode cL_law 1563 = .ok (.iconst 0, 1) := by decide +kernel
theorem dL_law_1564 : decode cL_law 1564 = .ok (.laload, 1) := by decide +kernel
theorem dL_law_1565 : decode cL_law 1565 = .ok (.iload 6, 2) := by decide +kernel
theorem dL_law_1567 : decode cL_law 1567 = .ok (.i2l, 1) := by decide +kernel
theorem dL_law_1568 : decode cL_law 1568 = .ok (.lcmp, 1) := by decide +kernel
theorem dL_law_1569 : decode cL_law 1569 = .ok (.ifCond .eq 5, 3) := by decide +kernel
theorem dL_law_1572 : decode cL_law 1572 = .ok (.iconst 0, 1) := by decide +kernel
theorem dL_law_1573 : decode cL_law 1573 = .ok (.ireturn, 1) := by decide +kernel
theorem dL_law_1574 : decode cL_law 1574 = .ok (.goto 1019, 3) := by decide +kernel
theorem dL_law_1577 : decode cL_law 1577 = .ok (.aload_n 1, 1) := by decide +kernel
theorem dL_law_1578 : decode cL_law 1578 = .ok (.aload_n 0, 1) := by decide +kernel
theorem dL_law_1579 : decode cL_law 1579 = .ok (.iload 4, 2) := by decide +kernel
theorem dL_law_1581 : decode cL_law 1581 = .ok (.iconst 1, 1) := by decide +kernel
theorem dL_law_1582 : decode cL_law 1582 = .ok (.iadd, 1) := by decide +kernel
theorem dL_law_1583 : decode cL_law 1583 = .ok (.iaload, 1) := by decide +kernel
theorem dL_law_1584 : decode cL_law 1584 = .ok (.aload_n 3, 1) := by decide +kernel
theorem dL_law_1585 : decode cL_law 1585 = .ok (.invokestatic 207, 3) := by decide +kernel
theorem dL_law_1588 : decode cL_law 1588 = .ok (.istore 5, 2) := by decide +kernel
theorem dL_law_1590 : decode cL_law 1590 = .ok (.aload_n 2, 1) := by decide +kernel
theorem dL_law_1591 : decode cL_law 1591 = .ok (.aload_n 0, 1) := by decide +kernel
theorem dL_law_1592 : decode cL_law 1592 = .ok (.iload 4, 2) := by decide +kernel
theorem dL_law_1594 : decode cL_law 1594 = .ok (.iconst 1, 1) := by decide +kernel
theorem dL_law_1595 : decode cL_law 1595 = .ok (.iadd, 1) := by decide +kernel
theorem dL_law_1596 : decode cL_law 1596 = .ok (.iaload, 1) := by decide +kernel
theorem dL_law_1597 : decode cL_law 1597 = .ok (.invokevirtual 209, 3) := by decide +kernel
theorem dL_law_1600 : decode cL_law 1600 = .ok (.istore 6, 2) := by decide +kernel
theorem dL_law_1602 : decode cL_law 1602 = .ok (.aload_n 2, 1) := by decide +kernel
theorem dL_law_1603 : decode cL_law 1603 = .ok (.invokevirtual 142, 3) := by decide +kernel
theorem dL_law_1606 : decode cL_law 1606 = .ok (.iload 5, 2) := by decide +kernel
theorem dL_law_1608 : decode cL_law 1608 = .ok (.if_icmp .eq 5, 3) := by decide +kernel
theorem dL_law_1611 : decode cL_law 1611 = .ok (.iconst 0, 1) := by decide +kernel
theorem dL_law_1612 : decode cL_law 1612 = .ok (.ireturn, 1) := by decide +kernel
theorem dL_law_1613 : decode cL_law 1613 = .ok (.iload 5, 2) := by decide +kernel
theorem dL_law_1615 : decode cL_law 1615 = .ok (.ifCond .ne 15, 3) := by decide +kernel
theorem dL_law_1618 : decode cL_law 1618 = .ok (.aload_n 3, 1) := by decide +kernel
theorem dL_law_1619 : decode cL_law 1619 = .ok (.iconst 0, 1) := by decide +kernel
theorem dL_law_1620 : decode cL_law 1620 = .ok (.laload, 1) := by decide +kernel
theorem dL_law_1621 : decode cL_law 1621 = .ok (.iload 6, 2) := by decide +kernel
theorem dL_law_1623 : decode cL_law 1623 = .ok (.i2l, 1) := by decide +kernel
theorem dL_law_1624 : decode cL_law 1624 = .ok (.lcmp, 1) := by decide +kernel
theorem dL_law_1625 : decode cL_law 1625 = .ok (.ifCond .eq 5, 3) := by decide +kernel
theorem dL_law_1628 : decode cL_law 1628 = .ok (.iconst 0, 1) := by decide +kernel
theorem dL_law_1629 : decode cL_law 1629 = .ok (.ireturn, 1) := by decide +kernel
theorem dL_law_1630 : decode cL_law 1630 = .ok (.goto 963, 3) := by decide +kernel
theorem dL_law_1633 : decode cL_law 1633 = .ok (.aload_n 1, 1) := by decide +kernel
theorem dL_law_1634 : decode cL_law 1634 = .ok (.aload_n 0, 1) := by decide +kernel
theorem dL_law_1635 : decode cL_law 1635 = .ok (.iload 4, 2) := by decide +kernel
theorem dL_law_1637 : decode cL_law 1637 = .ok (.iconst 1, 1) := by decide +kernel
theorem dL_law_1638 : decode cL_law 1638 = .ok (.iadd, 1) := by decide +kernel
theorem dL_law_1639 : decode cL_law 1639 = .ok (.iaload, 1) := by decide +kernel
theorem dL_law_1640 : decode cL_law 1640 = .ok (.aload_n 0, 1) := by decide +kernel
theorem dL_law_1641 : decode cL_law 1641 = .ok (.iload 4, 2) := by decide +kernel
theorem dL_law_1643 : decode cL_law 1643 = .ok (.iconst 2, 1) := by decide +kernel
theorem dL_law_1644 : decode cL_law 1644 = .ok (.iadd, 1) := by decide +kernel
theorem dL_law_1645 : decode cL_law 1645 = .ok (.iaload, 1) := by decide +kernel
theorem dL_law_1646 : decode cL_law 1646 = .ok (.aload_n 0, 1) := by decide +kernel
theorem dL_law_1647 : decode cL_law 1647 = .ok (.iload 4, 2) := by decide +kernel
theorem dL_law_1649 : decode cL_law 1649 = .ok (.iconst 3, 1) := by decide +kernel
theorem dL_law_1650 : decode cL_law 1650 = .ok (.iadd, 1) := by decide +kernel
theorem dL_law_1651 : decode cL_law 1651 = .ok (.iaload, 1) := by decide +kernel
theorem dL_law_1652 : decode cL_law 1652 = .ok (.aload_n 3, 1) := by decide +kernel
theorem dL_law_1653 : decode cL_law 1653 = .ok (.invokestatic 210, 3) := by decide +kernel
theorem dL_law_1656 : decode cL_law 1656 = .ok (.istore 5, 2) := by decide +kernel
theorem dL_law_1658 : decode cL_law 1658 = .ok (.aload_n 2, 1) := by decide +kernel
theorem dL_law_1659 : decode cL_law 1659 = .ok (.aload_n 0, 1) := by decide +kernel
theorem dL_law_1660 : decode cL_law 1660 = .ok (.iload 4, 2) := by decide +kernel
theorem dL_law_1662 : decode cL_law 1662 = .ok (.iconst 1, 1) := by decide +kernel
theorem dL_law_1663 : decode cL_law 1663 = .ok (.iadd, 1) := by decide +kernel
theorem dL_law_1664 : decode cL_law 1664 = .ok (.iaload, 1) := by decide +kernel
theorem dL_law_1665 : decode cL_law 1665 = .ok (.aload_n 0, 1) := by decide +kernel
theorem dL_law_1666 : decode cL_law 1666 = .ok (.iload 4, 2) := by decide +kernel
theorem dL_law_1668 : decode cL_law 1668 = .ok (.iconst 2, 1) := by decide +kernel
theorem dL_law_1669 : decode cL_law 1669 = .ok (.iadd, 1) := by decide +kernel
theorem dL_law_1670 : decode cL_law 1670 = .ok (.iaload, 1) := by decide +kernel
theorem dL_law_1671 : decode cL_law 1671 = .ok (.aload_n 0, 1) := by decide +kernel
theorem dL_law_1672 : decode cL_law 1672 = .ok (.iload 4, 2) := by decide +kernel
theorem dL_law_1674 : decode cL_law 1674 = .ok (.iconst 3, 1) := by decide +kernel
theorem dL_law_1675 : decode cL_law 1675 = .ok (.iadd, 1) := by decide +kernel
theorem dL_law_1676 : decode cL_law 1676 = .ok (.iaload, 1) := by decide +kernel
theorem dL_law_1677 : decode cL_law 1677 = .ok (.invokevirtual 212, 3) := by decide +kernel
theorem dL_law_1680 : decode cL_law 1680 = .ok (.istore 6, 2) := by decide +kernel
theorem dL_law_1682 : decode cL_law 1682 = .ok (.aload_n 2, 1) := by decide +kernel
theorem dL_law_1683 : decode cL_law 1683 = .ok (.invokevirtual 142, 3) := by decide +kernel
theorem dL_law_1686 : decode cL_law 1686 = .ok (.iload 5, 2) := by decide +kernel
theorem dL_law_1688 : decode cL_law 1688 = .ok (.if_icmp .eq 5, 3) := by decide +kernel
theorem dL_law_1691 : decode cL_law 1691 = .ok (.iconst 0, 1) := by decide +kernel
theorem dL_law_1692 : decode cL_law 1692 = .ok (.ireturn, 1) := by decide +kernel
theorem dL_law_1693 : decode cL_law 1693 = .ok (.iload 5, 2) := by decide +kernel
theorem dL_law_1695 : decode cL_law 1695 = .ok (.ifCond .ne 15, 3) := by decide +kernel
theorem dL_law_1698 : decode cL_law 1698 = .ok (.aload_n 3, 1) := by decide +kernel
theorem dL_law_1699 : decode cL_law 1699 = .ok (.iconst 0, 1) := by decide +kernel
theorem dL_law_1700 : decode cL_law 1700 = .ok (.laload, 1) := by decide +kernel
theorem dL_law_1701 : decode cL_law 1701 = .ok (.iload 6, 2) := by decide +kernel
theorem dL_law_1703 : decode cL_law 1703 = .ok (.i2l, 1) := by decide +kernel
theorem dL_law_1704 : decode cL_law 1704 = .ok (.lcmp, 1) := by decide +kernel
theorem dL_law_1705 : decode cL_law 1705 = .ok (.ifCond .eq 5, 3) := by decide +kernel
theorem dL_law_1708 : decode cL_law 1708 = .ok (.iconst 0, 1) := by decide +kernel
theorem dL_law_1709 : decode cL_law 1709 = .ok (.ireturn, 1) := by decide +kernel
theorem dL_law_1710 : decode cL_law 1710 = .ok (.goto 883, 3) := by decide +kernel
theorem dL_law_1713 : decode cL_law 1713 = .ok (.aload_n 1, 1) := by decide +kernel
theorem dL_law_1714 : decode cL_law 1714 = .ok (.aload_n 0, 1) := by decide +kernel
theorem dL_law_1715 : decode cL_law 1715 = .ok (.iload 4, 2) := by decide +kernel
theorem dL_law_1717 : decode cL_law 1717 = .ok (.iconst 1, 1) := by decide +kernel
theorem dL_law_1718 : decode cL_law 1718 = .ok (.iadd, 1) := by decide +kernel
theorem dL_law_1719 : decode cL_law 1719 = .ok (.iaload, 1) := by decide +kernel
theorem dL_law_1720 : decode cL_law 1720 = .ok (.aload_n 3, 1) := by decide +kernel
theorem dL_law_1721 : decode cL_law 1721 = .ok (.invokestatic 213, 3) := by decide +kernel
theorem dL_law_1724 : decode cL_law 1724 = .ok (.istore 5, 2) := by decide +kernel
theorem dL_law_1726 : decode cL_law 1726 = .ok (.aload_n 2, 1) := by decide +kernel
theorem dL_law_1727 : decode cL_law 1727 = .ok (.aload_n 0, 1) := by decide +kernel
theorem dL_law_1728 : decode cL_law 1728 = .ok (.iload 4, 2) := by decide +kernel
theorem dL_law_1730 : decode cL_law 1730 = .ok (.iconst 1, 1) := by decide +kernel
theorem dL_law_1731 : decode cL_law 1731 = .ok (.iadd, 1) := by decide +kernel
theorem dL_law_1732 : decode cL_law 1732 = .ok (.iaload, 1) := by decide +kernel
theorem dL_law_1733 : decode cL_law 1733 = .ok (.invokevirtual 215, 3) := by decide +kernel
theorem dL_law_1736 : decode cL_law 1736 = .ok (.istore 6, 2) := by decide +kernel
theorem dL_law_1738 : decode cL_law 1738 = .ok (.aload_n 2, 1) := by decide +kernel
theorem dL_law_1739 : decode cL_law 1739 = .ok (.invokevirtual 142, 3) := by decide +kernel
theorem dL_law_1742 : decode cL_law 1742 = .ok (.iload 5, 2) := by decide +kernel
theorem dL_law_1744 : decode cL_law 1744 = .ok (.if_icmp .eq 5, 3) := by decide +kernel
theorem dL_law_1747 : decode cL_law 1747 = .ok (.iconst 0, 1) := by decide +kernel
theorem dL_law_1748 : decode cL_law 1748 = .ok (.ireturn, 1) := by decide +kernel
theorem dL_law_1749 : decode cL_law 1749 = .ok (.iload 5, 2) := by decide +kernel
theorem dL_law_1751 : decode cL_law 1751 = .ok (.ifCond .ne 15, 3) := by decide +kernel
theorem dL_law_1754 : decode cL_law 1754 = .ok (.aload_n 3, 1) := by decide +kernel
theorem dL_law_1755 : decode cL_law 1755 = .ok (.iconst 0, 1) := by decide +kernel
theorem dL_law_1756 : decode cL_law 1756 = .ok (.laload, 1) := by decide +kernel
theorem dL_law_1757 : decode cL_law 1757 = .ok (.iload 6, 2) := by decide +kernel
theorem dL_law_1759 : decode cL_law 1759 = .ok (.i2l, 1) := by decide +kernel
theorem dL_law_1760 : decode cL_law 1760 = .ok (.lcmp, 1) := by decide +kernel
theorem dL_law_1761 : decode cL_law 1761 = .ok (.ifCond .eq 5, 3) := by decide +kernel
theorem dL_law_1764 : decode cL_law 1764 = .ok (.iconst 0, 1) := by decide +kernel
theorem dL_law_1765 : decode cL_law 1765 = .ok (.ireturn, 1) := by decide +kernel
theorem dL_law_1766 : decode cL_law 1766 = .ok (.goto 827, 3) := by decide +kernel
theorem dL_law_1769 : decode cL_law 1769 = .ok (.aload_n 1, 1) := by decide +kernel
theorem dL_law_1770 : decode cL_law 1770 = .ok (.aload_n 0, 1) := by decide +kernel
theorem dL_law_1771 : decode cL_law 1771 = .ok (.iload 4, 2) := by decide +kernel
theorem dL_law_1773 : decode cL_law 1773 = .ok (.iconst 1, 1) := by decide +kernel
theorem dL_law_1774 : decode cL_law 1774 = .ok (.iadd, 1) := by decide +kernel
theorem dL_law_1775 : decode cL_law 1775 = .ok (.iaload, 1) := by decide +kernel
theorem dL_law_1776 : decode cL_law 1776 = .ok (.aload_n 0, 1) := by decide +kernel
theorem dL_law_1777 : decode cL_law 1777 = .ok (.iload 4, 2) := by decide +kernel
theorem dL_law_1779 : decode cL_law 1779 = .ok (.iconst 2, 1) := by decide +kernel
theorem dL_law_1780 : decode cL_law 1780 = .ok (.iadd, 1) := by decide +kernel
theorem dL_law_1781 : decode cL_law 1781 = .ok (.iaload, 1) := by decide +kernel
theorem dL_law_1782 : decode cL_law 1782 = .ok (.invokestatic 216, 3) := by decide +kernel
theorem dL_law_1785 : decode cL_law 1785 = .ok (.istore 5, 2) := by decide +kernel
theorem dL_law_1787 : decode cL_law 1787 = .ok (.aload_n 2, 1) := by decide +kernel
theorem dL_law_1788 : decode cL_law 1788 = .ok (.aload_n 0, 1) := by decide +kernel
theorem dL_law_1789 : decode cL_law 1789 = .ok (.iload 4, 2) := by decide +kernel
theorem dL_law_1791 : decode cL_law 1791 = .ok (.iconst 1, 1) := by decide +kernel
theorem dL_law_1792 : decode cL_law 1792 = .ok (.iadd, 1) := by decide +kernel
theorem dL_law_1793 : decode cL_law 1793 = .ok (.iaload, 1) := by decide +kernel
theorem dL_law_1794 : decode cL_law 1794 = .ok (.aload_n 0, 1) := by decide +kernel
theorem dL_law_1795 : decode cL_law 1795 = .ok (.iload 4, 2) := by decide +kernel
theorem dL_law_1797 : decode cL_law 1797 = .ok (.iconst 2, 1) := by decide +kernel
theorem dL_law_1798 : decode cL_law 1798 = .ok (.iadd, 1) := by decide +kernel
theorem dL_law_1799 : decode cL_law 1799 = .ok (.iaload, 1) := by decide +kernel
theorem dL_law_1800 : decode cL_law 1800 = .ok (.invokevirtual 218, 3) := by decide +kernel
theorem dL_law_1803 : decode cL_law 1803 = .ok (.aload_n 2, 1) := by decide +kernel
theorem dL_law_1804 : decode cL_law 1804 = .ok (.invokevirtual 142, 3) := by decide +kernel
theorem dL_law_1807 : decode cL_law 1807 = .ok (.iload 5, 2) := by decide +kernel
theorem dL_law_1809 : decode cL_law 1809 = .ok (.if_icmp .eq 5, 3) := by decide +kernel
theorem dL_law_1812 : decode cL_law 1812 = .ok (.iconst 0, 1) := by decide +kernel
theorem dL_law_1813 : decode cL_law 1813 = .ok (.ireturn, 1) := by decide +kernel
theorem dL_law_1814 : decode cL_law 1814 = .ok (.goto 779, 3) := by decide +kernel
theorem dL_law_1817 : decode cL_law 1817 = .ok (.aload_n 1, 1) := by decide +kernel
theorem dL_law_1818 : decode cL_law 1818 = .ok (.aload_n 0, 1) := by decide +kernel
theorem dL_law_1819 : decode cL_law 1819 = .ok (.iload 4, 2) := by decide +kernel
theorem dL_law_1821 : decode cL_law 1821 = .ok (.iconst 1, 1) := by decide +kernel
theorem dL_law_1822 : decode cL_law 1822 = .ok (.iadd, 1) := by decide +kernel
theorem dL_law_1823 : decode cL_law 1823 = .ok (.iaload, 1) := by decide +kernel
theorem dL_law_1824 : decode cL_law 1824 = .ok (.aload_n 0, 1) := by decide +kernel
theorem dL_law_1825 : decode cL_law 1825 = .ok (.iload 4, 2) := by decide +kernel
theorem dL_law_1827 : decode cL_law 1827 = .ok (.iconst 2, 1) := by decide +kernel
theorem dL_law_1828 : decode cL_law 1828 = .ok (.iadd, 1) := by decide +kernel
theorem dL_law_1829 : decode cL_law 1829 = .ok (.iaload, 1) := by decide +kernel
theorem dL_law_1830 : decode cL_law 1830 = .ok (.aload_n 3, 1) := by decide +kernel
theorem dL_law_1831 : decode cL_law 1831 = .ok (.invokestatic 219, 3) := by decide +kernel
theorem dL_law_1834 : decode cL_law 1834 = .ok (.istore 5, 2) := by decide +kernel
theorem dL_law_1836 : decode cL_law 1836 = .ok (.aload_n 2, 1) := by decide +kernel
theorem dL_law_1837 : decode cL_law 1837 = .ok (.aload_n 0, 1) := by decide +kernel
theorem dL_law_1838 : decode cL_law 1838 = .ok (.iload 4, 2) := by decide +kernel
theorem dL_law_1840 : decode cL_law 1840 = .ok (.iconst 1, 1) := by decide +kernel
theorem dL_law_1841 : decode cL_law 1841 = .ok (.iadd, 1) := by decide +kernel
theorem dL_law_1842 : decode cL_law 1842 = .ok (.iaload, 1) := by decide +kernel
theorem dL_law_1843 : decode cL_law 1843 = .ok (.aload_n 0, 1) := by decide +kernel
theorem dL_law_1844 : decode cL_law 1844 = .ok (.iload 4, 2) := by decide +kernel
theorem dL_law_1846 : decode cL_law 1846 = .ok (.iconst 2, 1) := by decide +kernel
theorem dL_law_1847 : decode cL_law 1847 = .ok (.iadd, 1) := by decide +kernel
theorem dL_law_1848 : decode cL_law 1848 = .ok (.iaload, 1) := by decide +kernel
theorem dL_law_1849 : decode cL_law 1849 = .ok (.invokevirtual 221, 3) := by decide +kernel
theorem dL_law_1852 : decode cL_law 1852 = .ok (.istore 6, 2) := by decide +kernel
theorem dL_law_1854 : decode cL_law 1854 = .ok (.aload_n 2, 1) := by decide +kernel
theorem dL_law_1855 : decode cL_law 1855 = .ok (.invokevirtual 142, 3) := by decide +kernel
theorem dL_law_1858 : decode cL_law 1858 = .ok (.iload 5, 2) := by decide +kernel
theorem dL_law_1860 : decode cL_law 1860 = .ok (.if_icmp .eq 5, 3) := by decide +kernel
theorem dL_law_1863 : decode cL_law 1863 = .ok (.iconst 0, 1) := by decide +kernel
theorem dL_law_1864 : decode cL_law 1864 = .ok (.ireturn, 1) := by decide +kernel
theorem dL_law_1865 : decode cL_law 1865 = .ok (.iload 5, 2) := by decide +kernel
theorem dL_law_1867 : decode cL_law 1867 = .ok (.ifCond .ne 15, 3) := by decide +kernel
theorem dL_law_1870 : decode cL_law 1870 = .ok (.aload_n 3, 1) := by decide +kernel
theorem dL_law_1871 : decode cL_law 1871 = .ok (.iconst 0, 1) := by decide +kernel
theorem dL_law_1872 : decode cL_law 1872 = .ok (.laload, 1) := by decide +kernel
theorem dL_law_1873 : decode cL_law 1873 = .ok (.iload 6, 2) := by decide +kernel
theorem dL_law_1875 : decode cL_law 1875 = .ok (.i2l, 1) := by decide +kernel
theorem dL_law_1876 : decode cL_law 1876 = .ok (.lcmp, 1) := by decide +kernel
theorem dL_law_1877 : decode cL_law 1877 = .ok (.ifCond .eq 5, 3) := by decide +kernel
theorem dL_law_1880 : decode cL_law 1880 = .ok (.iconst 0, 1) := by decide +kernel
theorem dL_law_1881 : decode cL_law 1881 = .ok (.ireturn, 1) := by decide +kernel
theorem dL_law_1882 : decode cL_law 1882 = .ok (.goto 711, 3) := by decide +kernel
theorem dL_law_1885 : decode cL_law 1885 = .ok (.aload_n 1, 1) := by decide +kernel
theorem dL_law_1886 : decode cL_law 1886 = .ok (.invokevirtual 222, 3) := by decide +kernel
theorem dL_law_1889 : decode cL_law 1889 = .ok (.aload_n 2, 1) := by decide +kernel
theorem dL_law_1890 : decode cL_law 1890 = .ok (.invokevirtual 225, 3) := by decide +kernel
theorem dL_law_1893 : decode cL_law 1893 = .ok (.if_icmp .eq 700, 3) := by decide +kernel
theorem dL_law_1896 : decode cL_law 1896 = .ok (.iconst 0, 1) := by decide +kernel
theorem dL_law_1897 : decode cL_law 1897 = .ok (.ireturn, 1) := by decide +kernel
theorem dL_law_1898 : decode cL_law 1898 = .ok (.aload_n 1, 1) := by decide +kernel
theorem dL_law_1899 : decode cL_law 1899 = .ok (.aload_n 0, 1) := by decide +kernel
theorem dL_law_1900 : decode cL_law 1900 = .ok (.iload 4, 2) := by decide +kernel
theorem dL_law_1902 : decode cL_law 1902 = .ok (.iconst 1, 1) := by decide +kernel
theorem dL_law_1903 : decode cL_law 1903 = .ok (.iadd, 1) := by decide +kernel
theorem dL_law_1904 : decode cL_law 1904 = .ok (.iaload, 1) := by decide +kernel
theorem dL_law_1905 : decode cL_law 1905 = .ok (.aload_n 3, 1) := by decide +kernel
theorem dL_law_1906 : decode cL_law 1906 = .ok (.invokestatic 226, 3) := by decide +kernel
theorem dL_law_1909 : decode cL_law 1909 = .ok (.istore 5, 2) := by decide +kernel
theorem dL_law_1911 : decode cL_law 1911 = .ok (.aload_n 2, 1) := by decide +kernel
theorem dL_law_1912 : decode cL_law 1912 = .ok (.aload_n 0, 1) := by decide +kernel
theorem dL_law_1913 : decode cL_law 1913 = .ok (.iload 4, 2) := by decide +kernel
theorem dL_law_1915 : decode cL_law 1915 = .ok (.iconst 1, 1) := by decide +kernel
theorem dL_law_1916 : decode cL_law 1916 = .ok (.iadd, 1) := by decide +kernel
theorem dL_law_1917 : decode cL_law 1917 = .ok (.iaload, 1) := by decide +kernel
theorem dL_law_1918 : decode cL_law 1918 = .ok (.invokevirtual 228, 3) := by decide +kernel
theorem dL_law_1921 : decode cL_law 1921 = .ok (.istore 6, 2) := by decide +kernel
theorem dL_law_1923 : decode cL_law 1923 = .ok (.aload_n 2, 1) := by decide +kernel
theorem dL_law_1924 : decode cL_law 1924 = .ok (.invokevirtual 142, 3) := by decide +kernel
theorem dL_law_1927 : decode cL_law 1927 = .ok (.iload 5, 2) := by decide +kernel
theorem dL_law_1929 : decode cL_law 1929 = .ok (.if_icmp .eq 5, 3) := by decide +kernel
theorem dL_law_1932 : decode cL_law 1932 = .ok (.iconst 0, 1) := by decide +kernel
theorem dL_law_1933 : decode cL_law 1933 = .ok (.ireturn, 1) := by decide +kernel
theorem dL_law_1934 : decode cL_law 1934 = .ok (.iload 5, 2) := by decide +kernel
theorem dL_law_1936 : decode cL_law 1936 = .ok (.ifCond .ne 15, 3) := by decide +kernel
theorem dL_law_1939 : decode cL_law 1939 = .ok (.aload_n 3, 1) := by decide +kernel
theorem dL_law_1940 : decode cL_law 1940 = .ok (.iconst 0, 1) := by decide +kernel
theorem dL_law_1941 : decode cL_law 1941 = .ok (.laload, 1) := by decide +kernel
theorem dL_law_1942 : decode cL_law 1942 = .ok (.iload 6, 2) := by decide +kernel
theorem dL_law_1944 : decode cL_law 1944 = .ok (.i2l, 1) := by decide +kernel
theorem dL_law_1945 : decode cL_law 1945 = .ok (.lcmp, 1) := by decide +kernel
theorem dL_law_1946 : decode cL_law 1946 = .ok (.ifCond .eq 5, 3) := by decide +kernel
theorem dL_law_1949 : decode cL_law 1949 = .ok (.iconst 0, 1) := by decide +kernel
theorem dL_law_1950 : decode cL_law 1950 = .ok (.ireturn, 1) := by decide +kernel
theorem dL_law_1951 : decode cL_law 1951 = .ok (.goto 642, 3) := by decide +kernel
theorem dL_law_1954 : decode cL_law 1954 = .ok (.aload_n 1, 1) := by decide +kernel
theorem dL_law_1955 : decode cL_law 1955 = .ok (.aload_n 0, 1) := by decide +kernel
theorem dL_law_1956 : decode cL_law 1956 = .ok (.iload 4, 2) := by decide +kernel
theorem dL_law_1958 : decode cL_law 1958 = .ok (.iconst 1, 1) := by decide +kernel
theorem dL_law_1959 : decode cL_law 1959 = .ok (.iadd, 1) := by decide +kernel
theorem dL_law_1960 : decode cL_law 1960 = .ok (.iaload, 1) := by decide +kernel
theorem dL_law_1961 : decode cL_law 1961 = .ok (.aload_n 3, 1) := by decide +kernel
theorem dL_law_1962 : decode cL_law 1962 = .ok (.invokestatic 229, 3) := by decide +kernel
theorem dL_law_1965 : decode cL_law 1965 = .ok (.istore 5, 2) := by decide +kernel
theorem dL_law_1967 : decode cL_law 1967 = .ok (.aload_n 2, 1) := by decide +kernel
theorem dL_law_1968 : decode cL_law 1968 = .ok (.aload_n 0, 1) := by decide +kernel
theorem dL_law_1969 : decode cL_law 1969 = .ok (.iload 4, 2) := by decide +kernel
theorem dL_law_1971 : decode cL_law 1971 = .ok (.iconst 1, 1) := by decide +kernel
theorem dL_law_1972 : decode cL_law 1972 = .ok (.iadd, 1) := by decide +kernel
theorem dL_law_1973 : decode cL_law 1973 = .ok (.iaload, 1) := by decide +kernel
theorem dL_law_1974 : decode cL_law 1974 = .ok (.invokevirtual 231, 3) := by decide +kernel
theorem dL_law_1977 : decode cL_law 1977 = .ok (.istore 6, 2) := by decide +kernel
theorem dL_law_1979 : decode cL_law 1979 = .ok (.aload_n 2, 1) := by decide +kernel
theorem dL_law_1980 : decode cL_law 1980 = .ok (.invokevirtual 142, 3) := by decide +kernel
theorem dL_law_1983 : decode cL_law 1983 = .ok (.iload 5, 2) := by decide +kernel
theorem dL_law_1985 : decode cL_law 1985 = .ok (.if_icmp .eq 5, 3) := by decide +kernel
theorem dL_law_1988 : decode cL_law 1988 = .ok (.iconst 0, 1) := by decide +kernel
theorem dL_law_1989 : decode cL_law 1989 = .ok (.ireturn, 1) := by decide +kernel
theorem dL_law_1990 : decode cL_law 1990 = .ok (.iload 5, 2) := by decide +kernel
theorem dL_law_1992 : decode cL_law 1992 = .ok (.ifCond .ne 15, 3) := by decide +kernel
theorem dL_law_1995 : decode cL_law 1995 = .ok (.aload_n 3, 1) := by decide +kernel
theorem dL_law_1996 : decode cL_law 1996 = .ok (.iconst 0, 1) := by decide +kernel
theorem dL_law_1997 : decode cL_law 1997 = .ok (.laload, 1) := by decide +kernel
theorem dL_law_1998 : decode cL_law 1998 = .ok (.iload 6, 2) := by decide +kernel
theorem dL_law_2000 : decode cL_law 2000 = .ok (.i2l, 1) := by decide +kernel
theorem dL_law_2001 : decode cL_law 2001 = .ok (.lcmp, 1) := by decide +kernel
theorem dL_law_2002 : decode cL_law 2002 = .ok (.ifCond .eq 5, 3) := by decide +kernel
theorem dL_law_2005 : decode cL_law 2005 = .ok (.iconst 0, 1) := by decide +kernel
theorem dL_law_2006 : decode cL_law 2006 = .ok (.ireturn, 1) := by decide +kernel
theorem dL_law_2007 : decode cL_law 2007 = .ok (.goto 586, 3) := by decide +kernel
theorem dL_law_2010 : decode cL_law 2010 = .ok (.aload_n 1, 1) := by decide +kernel
theorem dL_law_2011 : decode cL_law 2011 = .ok (.aload_n 0, 1) := by decide +kernel
theorem dL_law_2012 : decode cL_law 2012 = .ok (.iload 4, 2) := by decide +kernel
theorem dL_law_2014 : decode cL_law 2014 = .ok (.iconst 1, 1) := by decide +kernel
theorem dL_law_2015 : decode cL_law 2015 = .ok (.iadd, 1) := by decide +kernel
theorem dL_law_2016 : decode cL_law 2016 = .ok (.iaload, 1) := by decide +kernel
theorem dL_law_2017 : decode cL_law 2017 = .ok (.aload_n 3, 1) := by decide +kernel
theorem dL_law_2018 : decode cL_law 2018 = .ok (.invokestatic 232, 3) := by decide +kernel
theorem dL_law_2021 : decode cL_law 2021 = .ok (.istore 5, 2) := by decide +kernel
theorem dL_law_2023 : decode cL_law 2023 = .ok (.aload_n 2, 1) := by decide +kernel
theorem dL_law_2024 : decode cL_law 2024 = .ok (.aload_n 0, 1) := by decide +kernel
theorem dL_law_2025 : decode cL_law 2025 = .ok (.iload 4, 2) := by decide +kernel
theorem dL_law_2027 : decode cL_law 2027 = .ok (.iconst 1, 1) := by decide +kernel
theorem dL_law_2028 : decode cL_law 2028 = .ok (.iadd, 1) := by decide +kernel
theorem dL_law_2029 : decode cL_law 2029 = .ok (.iaload, 1) := by decide +kernel
theorem dL_law_2030 : decode cL_law 2030 = .ok (.invokevirtual 234, 3) := by decide +kernel
theorem dL_law_2033 : decode cL_law 2033 = .ok (.istore 6, 2) := by decide +kernel
theorem dL_law_2035 : decode cL_law 2035 = .ok (.aload_n 2, 1) := by decide +kernel
theorem dL_law_2036 : decode cL_law 2036 = .ok (.invokevirtual 142, 3) := by decide +kernel
theorem dL_law_2039 : decode cL_law 2039 = .ok (.iload 5, 2) := by decide +kernel
theorem dL_law_2041 : decode cL_law 2041 = .ok (.if_icmp .eq 5, 3) := by decide +kernel
theorem dL_law_2044 : decode cL_law 2044 = .ok (.iconst 0, 1) := by decide +kernel
theorem dL_law_2045 : decode cL_law 2045 = .ok (.ireturn, 1) := by decide +kernel
theorem dL_law_2046 : decode cL_law 2046 = .ok (.iload 5, 2) := by decide +kernel
theorem dL_law_2048 : decode cL_law 2048 = .ok (.ifCond .ne 15, 3) := by decide +kernel
theorem dL_law_2051 : decode cL_law 2051 = .ok (.aload_n 3, 1) := by decide +kernel
theorem dL_law_2052 : decode cL_law 2052 = .ok (.iconst 0, 1) := by decide +kernel
theorem dL_law_2053 : decode cL_law 2053 = .ok (.laload, 1) := by decide +kernel
theorem dL_law_2054 : decode cL_law 2054 = .ok (.iload 6, 2) := by decide +kernel
theorem dL_law_2056 : decode cL_law 2056 = .ok (.i2l, 1) := by decide +kernel
theorem dL_law_2057 : decode cL_law 2057 = .ok (.lcmp, 1) := by decide +kernel
theorem dL_law_2058 : decode cL_law 2058 = .ok (.ifCond .eq 5, 3) := by decide +kernel
theorem dL_law_2061 : decode cL_law 2061 = .ok (.iconst 0, 1) := by decide +kernel
theorem dL_law_2062 : decode cL_law 2062 = .ok (.ireturn, 1) := by decide +kernel
theorem dL_law_2063 : decode cL_law 2063 = .ok (.goto 530, 3) := by decide +kernel
theorem dL_law_2066 : decode cL_law 2066 = .ok (.aload_n 1, 1) := by decide +kernel
theorem dL_law_2067 : decode cL_law 2067 = .ok (.aload_n 0, 1) := by decide +kernel
theorem dL_law_2068 : decode cL_law 2068 = .ok (.iload 4, 2) := by decide +kernel
theorem dL_law_2070 : decode cL_law 2070 = .ok (.iconst 1, 1) := by decide +kernel
theorem dL_law_2071 : decode cL_law 2071 = .ok (.iadd, 1) := by decide +kernel
theorem dL_law_2072 : decode cL_law 2072 = .ok (.iaload, 1) := by decide +kernel
theorem dL_law_2073 : decode cL_law 2073 = .ok (.aload_n 3, 1) := by decide +kernel
theorem dL_law_2074 : decode cL_law 2074 = .ok (.invokestatic 235, 3) := by decide +kernel
theorem dL_law_2077 : decode cL_law 2077 = .ok (.istore 5, 2) := by decide +kernel
theorem dL_law_2079 : decode cL_law 2079 = .ok (.aload_n 2, 1) := by decide +kernel
theorem dL_law_2080 : decode cL_law 2080 = .ok (.aload_n 0, 1) := by decide +kernel
theorem dL_law_2081 : decode cL_law 2081 = .ok (.iload 4, 2) := by decide +kernel
theorem dL_law_2083 : decode cL_law 2083 = .ok (.iconst 1, 1) := by decide +kernel
theorem dL_law_2084 : decode cL_law 2084 = .ok (.iadd, 1) := by decide +kernel
theorem dL_law_2085 : decode cL_law 2085 = .ok (.iaload, 1) := by decide +kernel
theorem dL_law_2086 : decode cL_law 2086 = .ok (.invokevirtual 237, 3) := by decide +kernel
theorem dL_law_2089 : decode cL_law 2089 = .ok (.istore 6, 2) := by decide +kernel
theorem dL_law_2091 : decode cL_law 2091 = .ok (.aload_n 2, 1) := by decide +kernel
theorem dL_law_2092 : decode cL_law 2092 = .ok (.invokevirtual 142, 3) := by decide +kernel
theorem dL_law_2095 : decode cL_law 2095 = .ok (.iload 5, 2) := by decide +kernel
theorem dL_law_2097 : decode cL_law 2097 = .ok (.if_icmp .eq 5, 3) := by decide +kernel
theorem dL_law_2100 : decode cL_law 2100 = .ok (.iconst 0, 1) := by decide +kernel
theorem dL_law_2101 : decode cL_law 2101 = .ok (.ireturn, 1) := by decide +kernel
theorem dL_law_2102 : decode cL_law 2102 = .ok (.iload 5, 2) := by decide +kernel
theorem dL_law_2104 : decode cL_law 2104 = .ok (.ifCond .ne 15, 3) := by decide +kernel
theorem dL_law_2107 : decode cL_law 2107 = .ok (.aload_n 3, 1) := by decide +kernel
theorem dL_law_2108 : decode cL_law 2108 = .ok (.iconst 0, 1) := by decide +kernel
theorem dL_law_2109 : decode cL_law 2109 = .ok (.laload, 1) := by decide +kernel
theorem dL_law_2110 : decode cL_law 2110 = .ok (.iload 6, 2) := by decide +kernel
theorem dL_law_2112 : decode cL_law 2112 = .ok (.i2l, 1) := by decide +kernel
theorem dL_law_2113 : decode cL_law 2113 = .ok (.lcmp, 1) := by decide +kernel
theorem dL_law_2114 : decode cL_law 2114 = .ok (.ifCond .eq 5, 3) := by decide +kernel
theorem dL_law_2117 : decode cL_law 2117 = .ok (.iconst 0, 1) := by decide +kernel
theorem dL_law_2118 : decode cL_law 2118 = .ok (.ireturn, 1) := by decide +kernel
theorem dL_law_2119 : decode cL_law 2119 = .ok (.goto 474, 3) := by decide +kernel
theorem dL_law_2122 : decode cL_law 2122 = .ok (.aload_n 1, 1) := by decide +kernel
theorem dL_law_2123 : decode cL_law 2123 = .ok (.aload_n 0, 1) := by decide +kernel
theorem dL_law_2124 : decode cL_law 2124 = .ok (.iload 4, 2) := by decide +kernel
theorem dL_law_2126 : decode cL_law 2126 = .ok (.iconst 1, 1) := by decide +kernel
theorem dL_law_2127 : decode cL_law 2127 = .ok (.iadd, 1) := by decide +kernel
theorem dL_law_2128 : decode cL_law 2128 = .ok (.iaload, 1) := by decide +kernel
theorem dL_law_2129 : decode cL_law 2129 = .ok (.aload_n 0, 1) := by decide +kernel
theorem dL_law_2130 : decode cL_law 2130 = .ok (.iload 4, 2) := by decide +kernel
theorem dL_law_2132 : decode cL_law 2132 = .ok (.iconst 2, 1) := by decide +kernel
theorem dL_law_2133 : decode cL_law 2133 = .ok (.iadd, 1) := by decide +kernel
theorem dL_law_2134 : decode cL_law 2134 = .ok (.iaload, 1) := by decide +kernel
theorem dL_law_2135 : decode cL_law 2135 = .ok (.aload_n 0, 1) := by decide +kernel
theorem dL_law_2136 : decode cL_law 2136 = .ok (.iload 4, 2) := by decide +kernel
theorem dL_law_2138 : decode cL_law 2138 = .ok (.iconst 3, 1) := by decide +kernel
theorem dL_law_2139 : decode cL_law 2139 = .ok (.iadd, 1) := by decide +kernel
theorem dL_law_2140 : decode cL_law 2140 = .ok (.iaload, 1) := by decide +kernel
theorem dL_law_2141 : decode cL_law 2141 = .ok (.invokestatic 238, 3) := by decide +kernel
theorem dL_law_2144 : decode cL_law 2144 = .ok (.istore 5, 2) := by decide +kernel
theorem dL_law_2146 : decode cL_law 2146 = .ok (.aload_n 2, 1) := by decide +kernel
theorem dL_law_2147 : decode cL_law 2147 = .ok (.aload_n 0, 1) := by decide +kernel
theorem dL_law_2148 : decode cL_law 2148 = .ok (.iload 4, 2) := by decide +kernel
theorem dL_law_2150 : decode cL_law 2150 = .ok (.iconst 1, 1) := by decide +kernel
theorem dL_law_2151 : decode cL_law 2151 = .ok (.iadd, 1) := by decide +kernel
theorem dL_law_2152 : decode cL_law 2152 = .ok (.iaload, 1) := by decide +kernel
theorem dL_law_2153 : decode cL_law 2153 = .ok (.aload_n 0, 1) := by decide +kernel
theorem dL_law_2154 : decode cL_law 2154 = .ok (.iload 4, 2) := by decide +kernel
theorem dL_law_2156 : decode cL_law 2156 = .ok (.iconst 2, 1) := by decide +kernel
theorem dL_law_2157 : decode cL_law 2157 = .ok (.iadd, 1) := by decide +kernel
theorem dL_law_2158 : decode cL_law 2158 = .ok (.iaload, 1) := by decide +kernel
theorem dL_law_2159 : decode cL_law 2159 = .ok (.aload_n 0, 1) := by decide +kernel
theorem dL_law_2160 : decode cL_law 2160 = .ok (.iload 4, 2) := by decide +kernel
theorem dL_law_2162 : decode cL_law 2162 = .ok (.iconst 3, 1) := by decide +kernel
theorem dL_law_2163 : decode cL_law 2163 = .ok (.iadd, 1) := by decide +kernel
theorem dL_law_2164 : decode cL_law 2164 = .ok (.iaload, 1) := by decide +kernel
theorem dL_law_2165 : decode cL_law 2165 = .ok (.invokevirtual 241, 3) := by decide +kernel
theorem dL_law_2168 : decode cL_law 2168 = .ok (.aload_n 2, 1) := by decide +kernel
theorem dL_law_2169 : decode cL_law 2169 = .ok (.invokevirtual 142, 3) := by decide +kernel
theorem dL_law_2172 : decode cL_law 2172 = .ok (.iload 5, 2) := by decide +kernel
theorem dL_law_2174 : decode cL_law 2174 = .ok (.if_icmp .eq 5, 3) := by decide +kernel
theorem dL_law_2177 : decode cL_law 2177 = .ok (.iconst 0, 1) := by decide +kernel
theorem dL_law_2178 : decode cL_law 2178 = .ok (.ireturn, 1) := by decide +kernel
theorem dL_law_2179 : decode cL_law 2179 = .ok (.goto 414, 3) := by decide +kernel
theorem dL_law_2182 : decode cL_law 2182 = .ok (.aload_n 1, 1) := by decide +kernel
theorem dL_law_2183 : decode cL_law 2183 = .ok (.aload_n 0, 1) := by decide +kernel
theorem dL_law_2184 : decode cL_law 2184 = .ok (.iload 4, 2) := by decide +kernel
theorem dL_law_2186 : decode cL_law 2186 = .ok (.iconst 1, 1) := by decide +kernel
theorem dL_law_2187 : decode cL_law 2187 = .ok (.iadd, 1) := by decide +kernel
theorem dL_law_2188 : decode cL_law 2188 = .ok (.iaload, 1) := by decide +kernel
theorem dL_law_2189 : decode cL_law 2189 = .ok (.aload_n 3, 1) := by decide +kernel
theorem dL_law_2190 : decode cL_law 2190 = .ok (.invokestatic 242, 3) := by decide +kernel
theorem dL_law_2193 : decode cL_law 2193 = .ok (.istore 5, 2) := by decide +kernel
theorem dL_law_2195 : decode cL_law 2195 = .ok (.aload_n 2, 1) := by decide +kernel
theorem dL_law_2196 : decode cL_law 2196 = .ok (.aload_n 0, 1) := by decide +kernel
theorem dL_law_2197 : decode cL_law 2197 = .ok (.iload 4, 2) := by decide +kernel
theorem dL_law_2199 : decode cL_law 2199 = .ok (.iconst 1, 1) := by decide +kernel
theorem dL_law_2200 : decode cL_law 2200 = .ok (.iadd, 1) := by decide +kernel
theorem dL_law_2201 : decode cL_law 2201 = .ok (.iaload, 1) := by decide +kernel
theorem dL_law_2202 : decode cL_law 2202 = .ok (.invokevirtual 244, 3) := by decide +kernel
theorem dL_law_2205 : decode cL_law 2205 = .ok (.istore 6, 2) := by decide +kernel
theorem dL_law_2207 : decode cL_law 2207 = .ok (.aload_n 2, 1) := by decide +kernel
theorem dL_law_2208 : decode cL_law 2208 = .ok (.invokevirtual 142, 3) := by decide +kernel
theorem dL_law_2211 : decode cL_law 2211 = .ok (.iload 5, 2) := by decide +kernel
theorem dL_law_2213 : decode cL_law 2213 = .ok (.if_icmp .eq 5, 3) := by decide +kernel
theorem dL_law_2216 : decode cL_law 2216 = .ok (.iconst 0, 1) := by decide +kernel
theorem dL_law_2217 : decode cL_law 2217 = .ok (.ireturn, 1) := by decide +kernel
theorem dL_law_2218 : decode cL_law 2218 = .ok (.iload 5, 2) := by decide +kernel
theorem dL_law_2220 : decode cL_law 2220 = .ok (.ifCond .ne 15, 3) := by decide +kernel
theorem dL_law_2223 : decode cL_law 2223 = .ok (.aload_n 3, 1) := by decide +kernel
theorem dL_law_2224 : decode cL_law 2224 = .ok (.iconst 0, 1) := by decide +kernel
theorem dL_law_2225 : decode cL_law 2225 = .ok (.laload, 1) := by decide +kernel
theorem dL_law_2226 : decode cL_law 2226 = .ok (.iload 6, 2) := by decide +kernel
theorem dL_law_2228 : decode cL_law 2228 = .ok (.i2l, 1) := by decide +kernel
theorem dL_law_2229 : decode cL_law 2229 = .ok (.lcmp, 1) := by decide +kernel
theorem dL_law_2230 : decode cL_law 2230 = .ok (.ifCond .eq 5, 3) := by decide +kernel
theorem dL_law_2233 : decode cL_law 2233 = .ok (.iconst 0, 1) := by decide +kernel
theorem dL_law_2234 : decode cL_law 2234 = .ok (.ireturn, 1) := by decide +kernel
theorem dL_law_2235 : decode cL_law 2235 = .ok (.goto 358, 3) := by decide +kernel
theorem dL_law_2238 : decode cL_law 2238 = .ok (.aload_n 1, 1) := by decide +kernel
theorem dL_law_2239 : decode cL_law 2239 = .ok (.aload_n 0, 1) := by decide +kernel
theorem dL_law_2240 : decode cL_law 2240 = .ok (.iload 4, 2) := by decide +kernel
theorem dL_law_2242 : decode cL_law 2242 = .ok (.iconst 1, 1) := by decide +kernel
theorem dL_law_2243 : decode cL_law 2243 = .ok (.iadd, 1) := by decide +kernel
theorem dL_law_2244 : decode cL_law 2244 = .ok (.iaload, 1) := by decide +kernel
theorem dL_law_2245 : decode cL_law 2245 = .ok (.aload_n 3, 1) := by decide +kernel
theorem dL_law_2246 : decode cL_law 2246 = .ok (.invokestatic 245, 3) := by decide +kernel
theorem dL_law_2249 : decode cL_law 2249 = .ok (.istore 5, 2) := by decide +kernel
theorem dL_law_2251 : decode cL_law 2251 = .ok (.aload_n 2, 1) := by decide +kernel
theorem dL_law_2252 : decode cL_law 2252 = .ok (.aload_n 0, 1) := by decide +kernel
theorem dL_law_2253 : decode cL_law 2253 = .ok (.iload 4, 2) := by decide +kernel
theorem dL_law_2255 : decode cL_law 2255 = .ok (.iconst 1, 1) := by decide +kernel
theorem dL_law_2256 : decode cL_law 2256 = .ok (.iadd, 1) := by decide +kernel
theorem dL_law_2257 : decode cL_law 2257 = .ok (.iaload, 1) := by decide +kernel
theorem dL_law_2258 : decode cL_law 2258 = .ok (.invokevirtual 247, 3) := by decide +kernel
theorem dL_law_2261 : decode cL_law 2261 = .ok (.istore 6, 2) := by decide +kernel
theorem dL_law_2263 : decode cL_law 2263 = .ok (.aload_n 2, 1) := by decide +kernel
theorem dL_law_2264 : decode cL_law 2264 = .ok (.invokevirtual 142, 3) := by decide +kernel
theorem dL_law_2267 : decode cL_law 2267 = .ok (.iload 5, 2) := by decide +kernel
theorem dL_law_2269 : decode cL_law 2269 = .ok (.if_icmp .eq 5, 3) := by decide +kernel
theorem dL_law_2272 : decode cL_law 2272 = .ok (.iconst 0, 1) := by decide +kernel
theorem dL_law_2273 : decode cL_law 2273 = .ok (.ireturn, 1) := by decide +kernel
theorem dL_law_2274 : decode cL_law 2274 = .ok (.iload 5, 2) := by decide +kernel
theorem dL_law_2276 : decode cL_law 2276 = .ok (.ifCond .ne 15, 3) := by decide +kernel
theorem dL_law_2279 : decode cL_law 2279 = .ok (.aload_n 3, 1) := by decide +kernel
theorem dL_law_2280 : decode cL_law 2280 = .ok (.iconst 0, 1) := by decide +kernel
theorem dL_law_2281 : decode cL_law 2281 = .ok (.laload, 1) := by decide +kernel
theorem dL_law_2282 : decode cL_law 2282 = .ok (.iload 6, 2) := by decide +kernel
theorem dL_law_2284 : decode cL_law 2284 = .ok (.i2l, 1) := by decide +kernel
theorem dL_law_2285 : decode cL_law 2285 = .ok (.lcmp, 1) := by decide +kernel
theorem dL_law_2286 : decode cL_law 2286 = .ok (.ifCond .eq 5, 3) := by decide +kernel
theorem dL_law_2289 : decode cL_law 2289 = .ok (.iconst 0, 1) := by decide +kernel
theorem dL_law_2290 : decode cL_law 2290 = .ok (.ireturn, 1) := by decide +kernel
theorem dL_law_2291 : decode cL_law 2291 = .ok (.goto 302, 3) := by decide +kernel
theorem dL_law_2294 : decode cL_law 2294 = .ok (.aload_n 1, 1) := by decide +kernel
theorem dL_law_2295 : decode cL_law 2295 = .ok (.aload_n 0, 1) := by decide +kernel
theorem dL_law_2296 : decode cL_law 2296 = .ok (.iload 4, 2) := by decide +kernel
theorem dL_law_2298 : decode cL_law 2298 = .ok (.iconst 1, 1) := by decide +kernel
theorem dL_law_2299 : decode cL_law 2299 = .ok (.iadd, 1) := by decide +kernel
theorem dL_law_2300 : decode cL_law 2300 = .ok (.iaload, 1) := by decide +kernel
theorem dL_law_2301 : decode cL_law 2301 = .ok (.aload_n 0, 1) := by decide +kernel
theorem dL_law_2302 : decode cL_law 2302 = .ok (.iload 4, 2) := by decide +kernel
theorem dL_law_2304 : decode cL_law 2304 = .ok (.iconst 2, 1) := by decide +kernel
theorem dL_law_2305 : decode cL_law 2305 = .ok (.iadd, 1) := by decide +kernel
theorem dL_law_2306 : decode cL_law 2306 = .ok (.iaload, 1) := by decide +kernel
theorem dL_law_2307 : decode cL_law 2307 = .ok (.aload_n 3, 1) := by decide +kernel
theorem dL_law_2308 : decode cL_law 2308 = .ok (.invokestatic 248, 3) := by decide +kernel
theorem dL_law_2311 : decode cL_law 2311 = .ok (.istore 5, 2) := by decide +kernel
theorem dL_law_2313 : decode cL_law 2313 = .ok (.aload_n 2, 1) := by decide +kernel
theorem dL_law_2314 : decode cL_law 2314 = .ok (.aload_n 0, 1) := by decide +kernel
theorem dL_law_2315 : decode cL_law 2315 = .ok (.iload 4, 2) := by decide +kernel
theorem dL_law_2317 : decode cL_law 2317 = .ok (.iconst 1, 1) := by decide +kernel
theorem dL_law_2318 : decode cL_law 2318 = .ok (.iadd, 1) := by decide +kernel
theorem dL_law_2319 : decode cL_law 2319 = .ok (.iaload, 1) := by decide +kernel
theorem dL_law_2320 : decode cL_law 2320 = .ok (.aload_n 0, 1) := by decide +kernel
theorem dL_law_2321 : decode cL_law 2321 = .ok (.iload 4, 2) := by decide +kernel
theorem dL_law_2323 : decode cL_law 2323 = .ok (.iconst 2, 1) := by decide +kernel
theorem dL_law_2324 : decode cL_law 2324 = .ok (.iadd, 1) := by decide +kernel
theorem dL_law_2325 : decode cL_law 2325 = .ok (.iaload, 1) := by decide +kernel
theorem dL_law_2326 : decode cL_law 2326 = .ok (.invokevirtual 250, 3) := by decide +kernel
theorem dL_law_2329 : decode cL_law 2329 = .ok (.istore 6, 2) := by decide +kernel
theorem dL_law_2331 : decode cL_law 2331 = .ok (.aload_n 2, 1) := by decide +kernel
theorem dL_law_2332 : decode cL_law 2332 = .ok (.invokevirtual 142, 3) := by decide +kernel
theorem dL_law_2335 : decode cL_law 2335 = .ok (.iload 5, 2) := by decide +kernel
theorem dL_law_2337 : decode cL_law 2337 = .ok (.if_icmp .eq 5, 3) := by decide +kernel
theorem dL_law_2340 : decode cL_law 2340 = .ok (.iconst 0, 1) := by decide +kernel
theorem dL_law_2341 : decode cL_law 2341 = .ok (.ireturn, 1) := by decide +kernel
theorem dL_law_2342 : decode cL_law 2342 = .ok (.iload 5, 2) := by decide +kernel
theorem dL_law_2344 : decode cL_law 2344 = .ok (.ifCond .ne 15, 3) := by decide +kernel
theorem dL_law_2347 : decode cL_law 2347 = .ok (.aload_n 3, 1) := by decide +kernel
theorem dL_law_2348 : decode cL_law 2348 = .ok (.iconst 0, 1) := by decide +kernel
theorem dL_law_2349 : decode cL_law 2349 = .ok (.laload, 1) := by decide +kernel
theorem dL_law_2350 : decode cL_law 2350 = .ok (.iload 6, 2) := by decide +kernel
theorem dL_law_2352 : decode cL_law 2352 = .ok (.i2l, 1) := by decide +kernel
theorem dL_law_2353 : decode cL_law 2353 = .ok (.lcmp, 1) := by decide +kernel
theorem dL_law_2354 : decode cL_law 2354 = .ok (.ifCond .eq 5, 3) := by decide +kernel
theorem dL_law_2357 : decode cL_law 2357 = .ok (.iconst 0, 1) := by decide +kernel
theorem dL_law_2358 : decode cL_law 2358 = .ok (.ireturn, 1) := by decide +kernel
theorem dL_law_2359 : decode cL_law 2359 = .ok (.goto 234, 3) := by decide +kernel
theorem dL_law_2362 : decode cL_law 2362 = .ok (.aload_n 1, 1) := by decide +kernel
theorem dL_law_2363 : decode cL_law 2363 = .ok (.invokevirtual 251, 3) := by decide +kernel
theorem dL_law_2366 : decode cL_law 2366 = .ok (.aload_n 2, 1) := by decide +kernel
theorem dL_law_2367 : decode cL_law 2367 = .ok (.invokevirtual 254, 3) := by decide +kernel
theorem dL_law_2370 : decode cL_law 2370 = .ok (.if_icmp .eq 223, 3) := by decide +kernel
theorem dL_law_2373 : decode cL_law 2373 = .ok (.iconst 0, 1) := by decide +kernel
theorem dL_law_2374 : decode cL_law 2374 = .ok (.ireturn, 1) := by decide +kernel
theorem dL_law_2375 : decode cL_law 2375 = .ok (.aload_n 1, 1) := by decide +kernel
theorem dL_law_2376 : decode cL_law 2376 = .ok (.invokevirtual 255, 3) := by decide +kernel
theorem dL_law_2379 : decode cL_law 2379 = .ok (.aload_n 2, 1) := by decide +kernel
theorem dL_law_2380 : decode cL_law 2380 = .ok (.invokevirtual 258, 3) := by decide +kernel
theorem dL_law_2383 : decode cL_law 2383 = .ok (.if_icmp .eq 210, 3) := by decide +kernel
theorem dL_law_2386 : decode cL_law 2386 = .ok (.iconst 0, 1) := by decide +kernel
theorem dL_law_2387 : decode cL_law 2387 = .ok (.ireturn, 1) := by decide +kernel
theorem dL_law_2388 : decode cL_law 2388 = .ok (.aload_n 1, 1) := by decide +kernel
theorem dL_law_2389 : decode cL_law 2389 = .ok (.invokevirtual 259, 3) := by decide +kernel
theorem dL_law_2392 : decode cL_law 2392 = .ok (.aload_n 2, 1) := by decide +kernel
theorem dL_law_2393 : decode cL_law 2393 = .ok (.invokevirtual 262, 3) := by decide +kernel
theorem dL_law_2396 : decode cL_law 2396 = .ok (.if_icmp .eq 197, 3) := by decide +kernel
theorem dL_law_2399 : decode cL_law 2399 = .ok (.iconst 0, 1) := by decide +kernel
theorem dL_law_2400 : decode cL_law 2400 = .ok (.ireturn, 1) := by decide +kernel
theorem dL_law_2401 : decode cL_law 2401 = .ok (.aload_n 1, 1) := by decide +kernel
theorem dL_law_2402 : decode cL_law 2402 = .ok (.aload_n 0, 1) := by decide +kernel
theorem dL_law_2403 : decode cL_law 2403 = .ok (.iload 4, 2) := by decide +kernel
theorem dL_law_2405 : decode cL_law 2405 = .ok (.iconst 1, 1) := by decide +kernel
theorem dL_law_2406 : decode cL_law 2406 = .ok (.iadd, 1) := by decide +kernel
theorem dL_law_2407 : decode cL_law 2407 = .ok (.iaload, 1) := by decide +kernel
theorem dL_law_2408 : decode cL_law 2408 = .ok (.aload_n 3, 1) := by decide +kernel
theorem dL_law_2409 : decode cL_law 2409 = .ok (.invokestatic 263, 3) := by decide +kernel
theorem dL_law_2412 : decode cL_law 2412 = .ok (.istore 5, 2) := by decide +kernel
theorem dL_law_2414 : decode cL_law 2414 = .ok (.aload_n 2, 1) := by decide +kernel
theorem dL_law_2415 : decode cL_law 2415 = .ok (.aload_n 0, 1) := by decide +kernel
theorem dL_law_2416 : decode cL_law 2416 = .ok (.iload 4, 2) := by decide +kernel
theorem dL_law_2418 : decode cL_law 2418 = .ok (.iconst 1, 1) := by decide +kernel
theorem dL_law_2419 : decode cL_law 2419 = .ok (.iadd, 1) := by decide +kernel
theorem dL_law_2420 : decode cL_law 2420 = .ok (.iaload, 1) := by decide +kernel
theorem dL_law_2421 : decode cL_law 2421 = .ok (.invokevirtual 265, 3) := by decide +kernel
theorem dL_law_2424 : decode cL_law 2424 = .ok (.istore 6, 2) := by decide +kernel
theorem dL_law_2426 : decode cL_law 2426 = .ok (.aload_n 2, 1) := by decide +kernel
theorem dL_law_2427 : decode cL_law 2427 = .ok (.invokevirtual 142, 3) := by decide +kernel
theorem dL_law_2430 : decode cL_law 2430 = .ok (.iload 5, 2) := by decide +kernel
theorem dL_law_2432 : decode cL_law 2432 = .ok (.if_icmp .eq 5, 3) := by decide +kernel
theorem dL_law_2435 : decode cL_law 2435 = .ok (.iconst 0, 1) := by decide +kernel
theorem dL_law_2436 : decode cL_law 2436 = .ok (.ireturn, 1) := by decide +kernel
theorem dL_law_2437 : decode cL_law 2437 = .ok (.iload 5, 2) := by decide +kernel
theorem dL_law_2439 : decode cL_law 2439 = .ok (.ifCond .ne 15, 3) := by decide +kernel
theorem dL_law_2442 : decode cL_law 2442 = .ok (.aload_n 3, 1) := by decide +kernel
theorem dL_law_2443 : decode cL_law 2443 = .ok (.iconst 0, 1) := by decide +kernel
theorem dL_law_2444 : decode cL_law 2444 = .ok (.laload, 1) := by decide +kernel
theorem dL_law_2445 : decode cL_law 2445 = .ok (.iload 6, 2) := by decide +kernel
theorem dL_law_2447 : decode cL_law 2447 = .ok (.i2l, 1) := by decide +kernel
theorem dL_law_2448 : decode cL_law 2448 = .ok (.lcmp, 1) := by decide +kernel
theorem dL_law_2449 : decode cL_law 2449 = .ok (.ifCond .eq 5, 3) := by decide +kernel
theorem dL_law_2452 : decode cL_law 2452 = .ok (.iconst 0, 1) := by decide +kernel
theorem dL_law_2453 : decode cL_law 2453 = .ok (.ireturn, 1) := by decide +kernel
theorem dL_law_2454 : decode cL_law 2454 = .ok (.goto 139, 3) := by decide +kernel
theorem dL_law_2457 : decode cL_law 2457 = .ok (.aload_n 1, 1) := by decide +kernel
theorem dL_law_2458 : decode cL_law 2458 = .ok (.aload_n 0, 1) := by decide +kernel
theorem dL_law_2459 : decode cL_law 2459 = .ok (.iload 4, 2) := by decide +kernel
theorem dL_law_2461 : decode cL_law 2461 = .ok (.iconst 1, 1) := by decide +kernel
theorem dL_law_2462 : decode cL_law 2462 = .ok (.iadd, 1) := by decide +kernel
theorem dL_law_2463 : decode cL_law 2463 = .ok (.iaload, 1) := by decide +kernel
theorem dL_law_2464 : decode cL_law 2464 = .ok (.aload_n 0, 1) := by decide +kernel
theorem dL_law_2465 : decode cL_law 2465 = .ok (.iload 4, 2) := by decide +kernel
theorem dL_law_2467 : decode cL_law 2467 = .ok (.iconst 2, 1) := by decide +kernel
theorem dL_law_2468 : decode cL_law 2468 = .ok (.iadd, 1) := by decide +kernel
theorem dL_law_2469 : decode cL_law 2469 = .ok (.iaload, 1) := by decide +kernel
theorem dL_law_2470 : decode cL_law 2470 = .ok (.aload_n 3, 1) := by decide +kernel
theorem dL_law_2471 : decode cL_law 2471 = .ok (.invokestatic 266, 3) := by decide +kernel
theorem dL_law_2474 : decode cL_law 2474 = .ok (.istore 5, 2) := by decide +kernel
theorem dL_law_2476 : decode cL_law 2476 = .ok (.aload_n 2, 1) := by decide +kernel
theorem dL_law_2477 : decode cL_law 2477 = .ok (.aload_n 0, 1) := by decide +kernel
theorem dL_law_2478 : decode cL_law 2478 = .ok (.iload 4, 2) := by decide +kernel
theorem dL_law_2480 : decode cL_law 2480 = .ok (.iconst 1, 1) := by decide +kernel
theorem dL_law_2481 : decode cL_law 2481 = .ok (.iadd, 1) := by decide +kernel
theorem dL_law_2482 : decode cL_law 2482 = .ok (.iaload, 1) := by decide +kernel
theorem dL_law_2483 : decode cL_law 2483 = .ok (.aload_n 0, 1) := by decide +kernel
theorem dL_law_2484 : decode cL_law 2484 = .ok (.iload 4, 2) := by decide +kernel
theorem dL_law_2486 : decode cL_law 2486 = .ok (.iconst 2, 1) := by decide +kernel
theorem dL_law_2487 : decode cL_law 2487 = .ok (.iadd, 1) := by decide +kernel
theorem dL_law_2488 : decode cL_law 2488 = .ok (.iaload, 1) := by decide +kernel
theorem dL_law_2489 : decode cL_law 2489 = .ok (.invokevirtual 268, 3) := by decide +kernel
theorem dL_law_2492 : decode cL_law 2492 = .ok (.istore 6, 2) := by decide +kernel
theorem dL_law_2494 : decode cL_law 2494 = .ok (.aload_n 2, 1) := by decide +kernel
theorem dL_law_2495 : decode cL_law 2495 = .ok (.invokevirtual 142, 3) := by decide +kernel
theorem dL_law_2498 : decode cL_law 2498 = .ok (.iload 5, 2) := by decide +kernel
theorem dL_law_2500 : decode cL_law 2500 = .ok (.if_icmp .eq 5, 3) := by decide +kernel
theorem dL_law_2503 : decode cL_law 2503 = .ok (.iconst 0, 1) := by decide +kernel
theorem dL_law_2504 : decode cL_law 2504 = .ok (.ireturn, 1) := by decide +kernel
theorem dL_law_2505 : decode cL_law 2505 = .ok (.iload 5, 2) := by decide +kernel
theorem dL_law_2507 : decode cL_law 2507 = .ok (.ifCond .ne 15, 3) := by decide +kernel
theorem dL_law_2510 : decode cL_law 2510 = .ok (.aload_n 3, 1) := by decide +kernel
theorem dL_law_2511 : decode cL_law 2511 = .ok (.iconst 0, 1) := by decide +kernel
theorem dL_law_2512 : decode cL_law 2512 = .ok (.laload, 1) := by decide +kernel
theorem dL_law_2513 : decode cL_law 2513 = .ok (.iload 6, 2) := by decide +kernel
theorem dL_law_2515 : decode cL_law 2515 = .ok (.i2l, 1) := by decide +kernel
theorem dL_law_2516 : decode cL_law 2516 = .ok (.lcmp, 1) := by decide +kernel
theorem dL_law_2517 : decode cL_law 2517 = .ok (.ifCond .eq 5, 3) := by decide +kernel
theorem dL_law_2520 : decode cL_law 2520 = .ok (.iconst 0, 1) := by decide +kernel
theorem dL_law_2521 : decode cL_law 2521 = .ok (.ireturn, 1) := by decide +kernel
theorem dL_law_2522 : decode cL_law 2522 = .ok (.goto 71, 3) := by decide +kernel
theorem dL_law_2525 : decode cL_law 2525 = .ok (.aload_n 1, 1) := by decide +kernel
theorem dL_law_2526 : decode cL_law 2526 = .ok (.aload_n 0, 1) := by decide +kernel
theorem dL_law_2527 : decode cL_law 2527 = .ok (.iload 4, 2) := by decide +kernel
theorem dL_law_2529 : decode cL_law 2529 = .ok (.iconst 1, 1) := by decide +kernel
theorem dL_law_2530 : decode cL_law 2530 = .ok (.iadd, 1) := by decide +kernel
theorem dL_law_2531 : decode cL_law 2531 = .ok (.iaload, 1) := by decide +kernel
theorem dL_law_2532 : decode cL_law 2532 = .ok (.aload_n 0, 1) := by decide +kernel
theorem dL_law_2533 : decode cL_law 2533 = .ok (.iload 4, 2) := by decide +kernel
theorem dL_law_2535 : decode cL_law 2535 = .ok (.iconst 2, 1) := by decide +kernel
theorem dL_law_2536 : decode cL_law 2536 = .ok (.iadd, 1) := by decide +kernel
theorem dL_law_2537 : decode cL_law 2537 = .ok (.iaload, 1) := by decide +kernel
theorem dL_law_2538 : decode cL_law 2538 = .ok (.aload_n 3, 1) := by decide +kernel
theorem dL_law_2539 : decode cL_law 2539 = .ok (.invokestatic 269, 3) := by decide +kernel
theorem dL_law_2542 : decode cL_law 2542 = .ok (.istore 5, 2) := by decide +kernel
theorem dL_law_2544 : decode cL_law 2544 = .ok (.aload_n 2, 1) := by decide +kernel
theorem dL_law_2545 : decode cL_law 2545 = .ok (.aload_n 0, 1) := by decide +kernel
theorem dL_law_2546 : decode cL_law 2546 = .ok (.iload 4, 2) := by decide +kernel
theorem dL_law_2548 : decode cL_law 2548 = .ok (.iconst 1, 1) := by decide +kernel
theorem dL_law_2549 : decode cL_law 2549 = .ok (.iadd, 1) := by decide +kernel
theorem dL_law_2550 : decode cL_law 2550 = .ok (.iaload, 1) := by decide +kernel
theorem dL_law_2551 : decode cL_law 2551 = .ok (.aload_n 0, 1) := by decide +kernel
theorem dL_law_2552 : decode cL_law 2552 = .ok (.iload 4, 2) := by decide +kernel
theorem dL_law_2554 : decode cL_law 2554 = .ok (.iconst 2, 1) := by decide +kernel
theorem dL_law_2555 : decode cL_law 2555 = .ok (.iadd, 1) := by decide +kernel
theorem dL_law_2556 : decode cL_law 2556 = .ok (.iaload, 1) := by decide +kernel
theorem dL_law_2557 : decode cL_law 2557 = .ok (.invokevirtual 271, 3) := by decide +kernel
theorem dL_law_2560 : decode cL_law 2560 = .ok (.istore 6, 2) := by decide +kernel
theorem dL_law_2562 : decode cL_law 2562 = .ok (.aload_n 2, 1) := by decide +kernel
theorem dL_law_2563 : decode cL_law 2563 = .ok (.invokevirtual 142, 3) := by decide +kernel
theorem dL_law_2566 : decode cL_law 2566 = .ok (.iload 5, 2) := by decide +kernel
theorem dL_law_2568 : decode cL_law 2568 = .ok (.if_icmp .eq 5, 3) := by decide +kernel
theorem dL_law_2571 : decode cL_law 2571 = .ok (.iconst 0, 1) := by decide +kernel
theorem dL_law_2572 : decode cL_law 2572 = .ok (.ireturn, 1) := by decide +kernel
theorem dL_law_2573 : decode cL_law 2573 = .ok (.iload 5, 2) := by decide +kernel
theorem dL_law_2575 : decode cL_law 2575 = .ok (.ifCond .ne 15, 3) := by decide +kernel
theorem dL_law_2578 : decode cL_law 2578 = .ok (.aload_n 3, 1) := by decide +kernel
theorem dL_law_2579 : decode cL_law 2579 = .ok (.iconst 0, 1) := by decide +kernel
theorem dL_law_2580 : decode cL_law 2580 = .ok (.laload, 1) := by decide +kernel
theorem dL_law_2581 : decode cL_law 2581 = .ok (.iload 6, 2) := by decide +kernel
theorem dL_law_2583 : decode cL_law 2583 = .ok (.i2l, 1) := by decide +kernel
theorem dL_law_2584 : decode cL_law 2584 = .ok (.lcmp, 1) := by decide +kernel
theorem dL_law_2585 : decode cL_law 2585 = .ok (.ifCond .eq 5, 3) := by decide +kernel
theorem dL_law_2588 : decode cL_law 2588 = .ok (.iconst 0, 1) := by decide +kernel
theorem dL_law_2589 : decode cL_law 2589 = .ok (.ireturn, 1) := by decide +kernel
theorem dL_law_2590 : decode cL_law 2590 = .ok (.goto 3, 3) := by decide +kernel
theorem dL_law_2593 : decode cL_law 2593 = .ok (.iinc 4 5, 3) := by decide +kernel
theorem dL_law_2596 : decode cL_law 2596 = .ok (.goto (-2573), 3) := by decide +kernel
theorem dL_law_2599 : decode cL_law 2599 = .ok (.iconst 1, 1) := by decide +kernel
theorem dL_law_2600 : decode cL_law 2600 = .ok (.ireturn, 1) := by decide +kernel
