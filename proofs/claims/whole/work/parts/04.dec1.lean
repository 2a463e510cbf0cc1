theorem dJ7_fill_53178_0 : decode cJ7_fill_53178 0 = .ok (.iconst 0, 1) := by decide +kernel
theorem dJ7_fill_53178_1 : decode cJ7_fill_53178 1 = .ok (.istore_n 2, 1) := by decide +kernel
theorem dJ7_fill_53178_2 : decode cJ7_fill_53178 2 = .ok (.aload_n 0, 1) := by decide +kernel
theorem dJ7_fill_53178_3 : decode cJ7_fill_53178 3 = .ok (.arraylength, 1) := by decide +kernel
theorem dJ7_fill_53178_4 : decode cJ7_fill_53178 4 = .ok (.istore_n 3, 1) := by decide +kernel
theorem dJ7_fill_53178_5 : decode cJ7_fill_53178 5 = .ok (.iload_n 2, 1) := by decide +kernel
theorem dJ7_fill_53178_6 : decode cJ7_fill_53178 6 = .ok (.iload_n 3, 1) := by decide +kernel
theorem dJ7_fill_53178_7 : decode cJ7_fill_53178 7 = .ok (.if_icmp .ge 13, 3) := by decide +kernel
theorem dJ7_fill_53178_10 : decode cJ7_fill_53178 10 = .ok (.aload_n 0, 1) := by decide +kernel
theorem dJ7_fill_53178_11 : decode cJ7_fill_53178 11 = .ok (.iload_n 2, 1) := by decide +kernel
theorem dJ7_fill_53178_12 : decode cJ7_fill_53178 12 = .ok (.iload_n 1, 1) := by decide +kernel
theorem dJ7_fill_53178_13 : decode cJ7_fill_53178 13 = .ok (.iastore, 1) := by decide +kernel
theorem dJ7_fill_53178_14 : decode cJ7_fill_53178 14 = .ok (.iinc 2 1, 3) := by decide +kernel
theorem dJ7_fill_53178_17 : decode cJ7_fill_53178 17 = .ok (.goto (-12), 3) := by decide +kernel
theorem dJ7_fill_53178_20 : decode cJ7_fill_53178 20 = .ok (.return_, 1) := by decide +kernel
theorem dX0_close_0 : decode cX0_close 0 = .ok (.aload_n 0, 1) := by decide +kernel
theorem dX0_close_1 : decode cX0_close 1 = .ok (.getfield 24, 3) := by decide +kernel
theorem dX0_close_4 : decode cX0_close 4 = .ok (.aload_n 0, 1) := by decide +kernel
theorem dX0_close_5 : decode cX0_close 5 = .ok (.getfield 38, 3) := by decide +kernel
theorem dX0_close_8 : decode cX0_close 8 = .ok (.iconst 1, 1) := by decide +kernel
theorem dX0_close_9 : decode cX0_close 9 = .ok (.isub, 1) := by decide +kernel
theorem dX0_close_10 : decode cX0_close 10 = .ok (.iaload, 1) := by decide +kernel
theorem dX0_close_11 : decode cX0_close 11 = .ok (.iload_n 1, 1) := by decide +kernel
theorem dX0_close_12 : decode cX0_close 12 = .ok (.if_icmp .ne 7, 3) := by decide +kernel
theorem dX0_close_15 : decode cX0_close 15 = .ok (.iconst 1, 1) := by decide +kernel
theorem dX0_close_16 : decode cX0_close 16 = .ok (.goto 4, 3) := by decide +kernel
theorem dX0_close_19 : decode cX0_close 19 = .ok (.iconst 0, 1) := by decide +kernel
theorem dX0_close_20 : decode cX0_close 20 = .ok (.istore_n 2, 1) := by decide +kernel
theorem dX0_close_21 : decode cX0_close 21 = .ok (.aload_n 0, 1) := by decide +kernel
theorem dX0_close_22 : decode cX0_close 22 = .ok (.getfield 38, 3) := by decide +kernel
theorem dX0_close_25 : decode cX0_close 25 = .ok (.iconst 1, 1) := by decide +kernel
theorem dX0_close_26 : decode cX0_close 26 = .ok (.isub, 1) := by decide +kernel
theorem dX0_close_27 : decode cX0_close 27 = .ok (.istore_n 3, 1) := by decide +kernel
theorem dX0_close_28 : decode cX0_close 28 = .ok (.iload_n 3, 1) := by decide +kernel
theorem dX0_close_29 : decode cX0_close 29 = .ok (.ifCond .lt 49, 3) := by decide +kernel
theorem dX0_close_32 : decode cX0_close 32 = .ok (.aload_n 0, 1) := by decide +kernel
theorem dX0_close_33 : decode cX0_close 33 = .ok (.getfield 24, 3) := by decide +kernel
theorem dX0_close_36 : decode cX0_close 36 = .ok (.iload_n 3, 1) := by decide +kernel
theorem dX0_close_37 : decode cX0_close 37 = .ok (.iaload, 1) := by decide +kernel
theorem dX0_close_38 : decode cX0_close 38 = .ok (.istore 4, 2) := by decide +kernel
theorem dX0_close_40 : decode cX0_close 40 = .ok (.aload_n 0, 1) := by decide +kernel
theorem dX0_close_41 : decode cX0_close 41 = .ok (.getfield 27, 3) := by decide +kernel
theorem dX0_close_44 : decode cX0_close 44 = .ok (.iload 4, 2) := by decide +kernel
theorem dX0_close_46 : decode cX0_close 46 = .ok (.iconst 0, 1) := by decide +kernel
theorem dX0_close_47 : decode cX0_close 47 = .ok (.bastore, 1) := by decide +kernel
theorem dX0_close_48 : decode cX0_close 48 = .ok (.aload_n 0, 1) := by decide +kernel
theorem dX0_close_49 : decode cX0_close 49 = .ok (.iload_n 3, 1) := by decide +kernel
theorem dX0_close_50 : decode cX0_close 50 = .ok (.putfield 38, 3) := by decide +kernel
theorem dX0_close_53 : decode cX0_close 53 = .ok (.iload_n 2, 1) := by decide +kernel
theorem dX0_close_54 : decode cX0_close 54 = .ok (.ifCond .ne 9, 3) := by decide +kernel
theorem dX0_close_57 : decode cX0_close 57 = .ok (.aload_n 0, 1) := by decide +kernel
theorem dX0_close_58 : decode cX0_close 58 = .ok (.iload 4, 2) := by decide +kernel
theorem dX0_close_60 : decode cX0_close 60 = .ok (.invokevirtual 61, 3) := by decide +kernel
theorem dX0_close_63 : decode cX0_close 63 = .ok (.iload 4, 2) := by decide +kernel
theorem dX0_close_65 : decode cX0_close 65 = .ok (.iload_n 1, 1) := by decide +kernel
theorem dX0_close_66 : decode cX0_close 66 = .ok (.if_icmp .ne 6, 3) := by decide +kernel
theorem dX0_close_69 : decode cX0_close 69 = .ok (.goto 9, 3) := by decide +kernel
theorem dX0_close_72 : decode cX0_close 72 = .ok (.iinc 3 (-1), 3) := by decide +kernel
theorem dX0_close_75 : decode cX0_close 75 = .ok (.goto (-47), 3) := by decide +kernel
theorem dX0_close_78 : decode cX0_close 78 = .ok (.return_, 1) := by decide +kernel
theorem dX0_discover_0 : decode cX0_discover 0 = .ok (.aload_n 0, 1) := by decide +kernel
theorem dX0_discover_1 : decode cX0_discover 1 = .ok (.dup, 1) := by decide +kernel
theorem dX0_discover_2 : decode cX0_discover 2 = .ok (.getfield 31, 3) := by decide +kernel
theorem dX0_discover_5 : decode cX0_discover 5 = .ok (.iconst 1, 1) := by decide +kernel
theorem dX0_discover_6 : decode cX0_discover 6 = .ok (.iadd, 1) := by decide +kernel
theorem dX0_discover_7 : decode cX0_discover 7 = .ok (.putfield 31, 3) := by decide +kernel
theorem dX0_discover_10 : decode cX0_discover 10 = .ok (.aload_n 0, 1) := by decide +kernel
theorem dX0_discover_11 : decode cX0_discover 11 = .ok (.getfield 9, 3) := by decide +kernel
theorem dX0_discover_14 : decode cX0_discover 14 = .ok (.iload_n 1, 1) := by decide +kernel
theorem dX0_discover_15 : decode cX0_discover 15 = .ok (.aload_n 0, 1) := by decide +kernel
theorem dX0_discover_16 : decode cX0_discover 16 = .ok (.getfield 31, 3) := by decide +kernel
theorem dX0_discover_19 : decode cX0_discover 19 = .ok (.iastore, 1) := by decide +kernel
theorem dX0_discover_20 : decode cX0_discover 20 = .ok (.aload_n 0, 1) := by decide +kernel
theorem dX0_discover_21 : decode cX0_discover 21 = .ok (.getfield 15, 3) := by decide +kernel
theorem dX0_discover_24 : decode cX0_discover 24 = .ok (.iload_n 1, 1) := by decide +kernel
theorem dX0_discover_25 : decode cX0_discover 25 = .ok (.aload_n 0, 1) := by decide +kernel
theorem dX0_discover_26 : decode cX0_discover 26 = .ok (.getfield 31, 3) := by decide +kernel
theorem dX0_discover_29 : decode cX0_discover 29 = .ok (.iastore, 1) := by decide +kernel
theorem dX0_discover_30 : decode cX0_discover 30 = .ok (.aload_n 0, 1) := by decide +kernel
theorem dX0_discover_31 : decode cX0_discover 31 = .ok (.getfield 21, 3) := by decide +kernel
theorem dX0_discover_34 : decode cX0_discover 34 = .ok (.aload_n 0, 1) := by decide +kernel
theorem dX0_discover_35 : decode cX0_discover 35 = .ok (.getfield 35, 3) := by decide +kernel
theorem dX0_discover_38 : decode cX0_discover 38 = .ok (.iload_n 1, 1) := by decide +kernel
theorem dX0_discover_39 : decode cX0_discover 39 = .ok (.iastore, 1) := by decide +kernel
theorem dX0_discover_40 : decode cX0_discover 40 = .ok (.aload_n 0, 1) := by decide +kernel
theorem dX0_discover_41 : decode cX0_discover 41 = .ok (.dup, 1) := by decide +kernel
theorem dX0_discover_42 : decode cX0_discover 42 = .ok (.getfield 35, 3) := by decide +kernel
theorem dX0_discover_45 : decode cX0_discover 45 = .ok (.iconst 1, 1) := by decide +kernel
theorem dX0_discover_46 : decode cX0_discover 46 = .ok (.iadd, 1) := by decide +kernel
theorem dX0_discover_47 : decode cX0_discover 47 = .ok (.putfield 35, 3) := by decide +kernel
theorem dX0_discover_50 : decode cX0_discover 50 = .ok (.aload_n 0, 1) := by decide +kernel
theorem dX0_discover_51 : decode cX0_discover 51 = .ok (.getfield 24, 3) := by decide +kernel
theorem dX0_discover_54 : decode cX0_discover 54 = .ok (.aload_n 0, 1) := by decide +kernel
theorem dX0_discover_55 : decode cX0_discover 55 = .ok (.getfield 38, 3) := by decide +kernel
theorem dX0_discover_58 : decode cX0_discover 58 = .ok (.iload_n 1, 1) := by decide +kernel
theorem dX0_discover_59 : decode cX0_discover 59 = .ok (.iastore, 1) := by decide +kernel
theorem dX0_discover_60 : decode cX0_discover 60 = .ok (.aload_n 0, 1) := by decide +kernel
theorem dX0_discover_61 : decode cX0_discover 61 = .ok (.dup, 1) := by decide +kernel
theorem dX0_discover_62 : decode cX0_discover 62 = .ok (.getfield 38, 3) := by decide +kernel
theorem dX0_discover_65 : decode cX0_discover 65 = .ok (.iconst 1, 1) := by decide +kernel
theorem dX0_discover_66 : decode cX0_discover 66 = .ok (.iadd, 1) := by decide +kernel
theorem dX0_discover_67 : decode cX0_discover 67 = .ok (.putfield 38, 3) := by decide +kernel
theorem dX0_discover_70 : decode cX0_discover 70 = .ok (.aload_n 0, 1) := by decide +kernel
theorem dX0_discover_71 : decode cX0_discover 71 = .ok (.getfield 27, 3) := by decide +kernel
theorem dX0_discover_74 : decode cX0_discover 74 = .ok (.iload_n 1, 1) := by decide +kernel
theorem dX0_discover_75 : decode cX0_discover 75 = .ok (.iconst 1, 1) := by decide +kernel
theorem dX0_discover_76 : decode cX0_discover 76 = .ok (.bastore, 1) := by decide +kernel
theorem dX0_discover_77 : decode cX0_discover 77 = .ok (.return_, 1) := by decide +kernel
theorem dX0_leave_0 : decode cX0_leave 0 = .ok (.aload_n 0, 1) := by decide +kernel
theorem dX0_leave_1 : decode cX0_leave 1 = .ok (.dup, 1) := by decide +kernel
theorem dX0_leave_2 : decode cX0_leave 2 = .ok (.getfield 35, 3) := by decide +kernel
theorem dX0_leave_5 : decode cX0_leave 5 = .ok (.iconst 1, 1) := by decide +kernel
theorem dX0_leave_6 : decode cX0_leave 6 = .ok (.isub, 1) := by decide +kernel
theorem dX0_leave_7 : decode cX0_leave 7 = .ok (.putfield 35, 3) := by decide +kernel
theorem dX0_leave_10 : decode cX0_leave 10 = .ok (.aload_n 0, 1) := by decide +kernel
theorem dX0_leave_11 : decode cX0_leave 11 = .ok (.getfield 35, 3) := by decide +kernel
theorem dX0_leave_14 : decode cX0_leave 14 = .ok (.ifCond .le 36, 3) := by decide +kernel
theorem dX0_leave_17 : decode cX0_leave 17 = .ok (.aload_n 0, 1) := by decide +kernel
theorem dX0_leave_18 : decode cX0_leave 18 = .ok (.getfield 21, 3) := by decide +kernel
theorem dX0_leave_21 : decode cX0_leave 21 = .ok (.aload_n 0, 1) := by decide +kernel
theorem dX0_leave_22 : decode cX0_leave 22 = .ok (.getfield 35, 3) := by decide +kernel
theorem dX0_leave_25 : decode cX0_leave 25 = .ok (.iconst 1, 1) := by decide +kernel
theorem dX0_leave_26 : decode cX0_leave 26 = .ok (.isub, 1) := by decide +kernel
theorem dX0_leave_27 : decode cX0_leave 27 = .ok (.iaload, 1) := by decide +kernel
theorem dX0_leave_28 : decode cX0_leave 28 = .ok (.istore_n 2, 1) := by decide +kernel
theorem dX0_leave_29 : decode cX0_leave 29 = .ok (.aload_n 0, 1) := by decide +kernel
theorem dX0_leave_30 : decode cX0_leave 30 = .ok (.getfield 15, 3) := by decide +kernel
theorem dX0_leave_33 : decode cX0_leave 33 = .ok (.iload_n 2, 1) := by decide +kernel
theorem dX0_leave_34 : decode cX0_leave 34 = .ok (.aload_n 0, 1) := by decide +kernel
theorem dX0_leave_35 : decode cX0_leave 35 = .ok (.getfield 15, 3) := by decide +kernel
theorem dX0_leave_38 : decode cX0_leave 38 = .ok (.iload_n 2, 1) := by decide +kernel
theorem dX0_leave_39 : decode cX0_leave 39 = .ok (.iaload, 1) := by decide +kernel
theorem dX0_leave_40 : decode cX0_leave 40 = .ok (.aload_n 0, 1) := by decide +kernel
theorem dX0_leave_41 : decode cX0_leave 41 = .ok (.getfield 15, 3) := by decide +kernel
theorem dX0_leave_44 : decode cX0_leave 44 = .ok (.iload_n 1, 1) := by decide +kernel
theorem dX0_leave_45 : decode cX0_leave 45 = .ok (.iaload, 1) := by decide +kernel
theorem dX0_leave_46 : decode cX0_leave 46 = .ok (.invokestatic 64, 3) := by decide +kernel
theorem dX0_leave_49 : decode cX0_leave 49 = .ok (.iastore, 1) := by decide +kernel
theorem dX0_leave_50 : decode cX0_leave 50 = .ok (.aload_n 0, 1) := by decide +kernel
theorem dX0_leave_51 : decode cX0_leave 51 = .ok (.getfield 15, 3) := by decide +kernel
theorem dX0_leave_54 : decode cX0_leave 54 = .ok (.iload_n 1, 1) := by decide +kernel
theorem dX0_leave_55 : decode cX0_leave 55 = .ok (.iaload, 1) := by decide +kernel
theorem dX0_leave_56 : decode cX0_leave 56 = .ok (.aload_n 0, 1) := by decide +kernel
theorem dX0_leave_57 : decode cX0_leave 57 = .ok (.getfield 9, 3) := by decide +kernel
theorem dX0_leave_60 : decode cX0_leave 60 = .ok (.iload_n 1, 1) := by decide +kernel
theorem dX0_leave_61 : decode cX0_leave 61 = .ok (.iaload, 1) := by decide +kernel
theorem dX0_leave_62 : decode cX0_leave 62 = .ok (.if_icmp .ne 8, 3) := by decide +kernel
theorem dX0_leave_65 : decode cX0_leave 65 = .ok (.aload_n 0, 1) := by decide +kernel
theorem dX0_leave_66 : decode cX0_leave 66 = .ok (.iload_n 1, 1) := by decide +kernel
theorem dX0_leave_67 : decode cX0_leave 67 = .ok (.invokevirtual 70, 3) := by decide +kernel
theorem dX0_leave_70 : decode cX0_leave 70 = .ok (.return_, 1) := by decide +kernel
theorem dX0_lowest_0 : decode cX0_lowest 0 = .ok (.aload_n 0, 1) := by decide +kernel
theorem dX0_lowest_1 : decode cX0_lowest 1 = .ok (.getfield 9, 3) := by decide +kernel
theorem dX0_lowest_4 : decode cX0_lowest 4 = .ok (.iconst 0, 1) := by decide +kernel
theorem dX0_lowest_5 : decode cX0_lowest 5 = .ok (.invokestatic 44, 3) := by decide +kernel
theorem dX0_lowest_8 : decode cX0_lowest 8 = .ok (.aload_n 0, 1) := by decide +kernel
theorem dX0_lowest_9 : decode cX0_lowest 9 = .ok (.getfield 18, 3) := by decide +kernel
theorem dX0_lowest_12 : decode cX0_lowest 12 = .ok (.iconst 0, 1) := by decide +kernel
theorem dX0_lowest_13 : decode cX0_lowest 13 = .ok (.invokestatic 44, 3) := by decide +kernel
theorem dX0_lowest_16 : decode cX0_lowest 16 = .ok (.aload_n 0, 1) := by decide +kernel
theorem dX0_lowest_17 : decode cX0_lowest 17 = .ok (.iconst 0, 1) := by decide +kernel
theorem dX0_lowest_18 : decode cX0_lowest 18 = .ok (.putfield 31, 3) := by decide +kernel
theorem dX0_lowest_21 : decode cX0_lowest 21 = .ok (.aload_n 0, 1) := by decide +kernel
theorem dX0_lowest_22 : decode cX0_lowest 22 = .ok (.iconst 0, 1) := by decide +kernel
theorem dX0_lowest_23 : decode cX0_lowest 23 = .ok (.putfield 35, 3) := by decide +kernel
theorem dX0_lowest_26 : decode cX0_lowest 26 = .ok (.aload_n 0, 1) := by decide +kernel
theorem dX0_lowest_27 : decode cX0_lowest 27 = .ok (.iconst 0, 1) := by decide +kernel
theorem dX0_lowest_28 : decode cX0_lowest 28 = .ok (.putfield 38, 3) := by decide +kernel
theorem dX0_lowest_31 : decode cX0_lowest 31 = .ok (.aload_n 0, 1) := by decide +kernel
theorem dX0_lowest_32 : decode cX0_lowest 32 = .ok (.bipush (-4), 2) := by decide +kernel
theorem dX0_lowest_34 : decode cX0_lowest 34 = .ok (.putfield 41, 3) := by decide +kernel
theorem dX0_lowest_37 : decode cX0_lowest 37 = .ok (.aload_n 0, 1) := by decide +kernel
theorem dX0_lowest_38 : decode cX0_lowest 38 = .ok (.iconst 0, 1) := by decide +kernel
theorem dX0_lowest_39 : decode cX0_lowest 39 = .ok (.invokevirtual 50, 3) := by decide +kernel
theorem dX0_lowest_42 : decode cX0_lowest 42 = .ok (.iconst 0, 1) := by decide +kernel
theorem dX0_lowest_43 : decode cX0_lowest 43 = .ok (.istore_n 3, 1) := by decide +kernel
theorem dX0_lowest_44 : decode cX0_lowest 44 = .ok (.iload_n 3, 1) := by decide +kernel
theorem dX0_lowest_45 : decode cX0_lowest 45 = .ok (.sipush 10500, 3) := by decide +kernel
theorem dX0_lowest_48 : decode cX0_lowest 48 = .ok (.if_icmp .ge 71, 3) := by decide +kernel
theorem dX0_lowest_51 : decode cX0_lowest 51 = .ok (.aload_n 0, 1) := by decide +kernel
theorem dX0_lowest_52 : decode cX0_lowest 52 = .ok (.getfield 35, 3) := by decide +kernel
theorem dX0_lowest_55 : decode cX0_lowest 55 = .ok (.ifCond .le 64, 3) := by decide +kernel
theorem dX0_lowest_58 : decode cX0_lowest 58 = .ok (.aload_n 0, 1) := by decide +kernel
theorem dX0_lowest_59 : decode cX0_lowest 59 = .ok (.getfield 21, 3) := by decide +kernel
theorem dX0_lowest_62 : decode cX0_lowest 62 = .ok (.aload_n 0, 1) := by decide +kernel
theorem dX0_lowest_63 : decode cX0_lowest 63 = .ok (.getfield 35, 3) := by decide +kernel
theorem dX0_lowest_66 : decode cX0_lowest 66 = .ok (.iconst 1, 1) := by decide +kernel
theorem dX0_lowest_67 : decode cX0_lowest 67 = .ok (.isub, 1) := by decide +kernel
theorem dX0_lowest_68 : decode cX0_lowest 68 = .ok (.iaload, 1) := by decide +kernel
theorem dX0_lowest_69 : decode cX0_lowest 69 = .ok (.istore 4, 2) := by decide +kernel
theorem dX0_lowest_71 : decode cX0_lowest 71 = .ok (.aload_n 0, 1) := by decide +kernel
theorem dX0_lowest_72 : decode cX0_lowest 72 = .ok (.getfield 18, 3) := by decide +kernel
theorem dX0_lowest_75 : decode cX0_lowest 75 = .ok (.iload 4, 2) := by decide +kernel
theorem dX0_lowest_77 : decode cX0_lowest 77 = .ok (.iaload, 1) := by decide +kernel
theorem dX0_lowest_78 : decode cX0_lowest 78 = .ok (.bipush 6, 2) := by decide +kernel
theorem dX0_lowest_80 : decode cX0_lowest 80 = .ok (.if_icmp .ge 27, 3) := by decide +kernel
theorem dX0_lowest_83 : decode cX0_lowest 83 = .ok (.aload_n 0, 1) := by decide +kernel
theorem dX0_lowest_84 : decode cX0_lowest 84 = .ok (.iload 4, 2) := by decide +kernel
theorem dX0_lowest_86 : decode cX0_lowest 86 = .ok (.aload_n 1, 1) := by decide +kernel
theorem dX0_lowest_87 : decode cX0_lowest 87 = .ok (.iload 4, 2) := by decide +kernel
theorem dX0_lowest_89 : decode cX0_lowest 89 = .ok (.bipush 6, 2) := by decide +kernel
theorem dX0_lowest_91 : decode cX0_lowest 91 = .ok (.imul, 1) := by decide +kernel
theorem dX0_lowest_92 : decode cX0_lowest 92 = .ok (.aload_n 0, 1) := by decide +kernel
theorem dX0_lowest_93 : decode cX0_lowest 93 = .ok (.getfield 18, 3) := by decide +kernel
theorem dX0_lowest_96 : decode cX0_lowest 96 = .ok (.iload 4, 2) := by decide +kernel
theorem dX0_lowest_98 : decode cX0_lowest 98 = .ok (.iaload, 1) := by decide +kernel
theorem dX0_lowest_99 : decode cX0_lowest 99 = .ok (.iadd, 1) := by decide +kernel
theorem dX0_lowest_100 : decode cX0_lowest 100 = .ok (.iaload, 1) := by decide +kernel
theorem dX0_lowest_101 : decode cX0_lowest 101 = .ok (.invokevirtual 54, 3) := by decide +kernel
theorem dX0_lowest_104 : decode cX0_lowest 104 = .ok (.goto 9, 3) := by decide +kernel
theorem dX0_lowest_107 : decode cX0_lowest 107 = .ok (.aload_n 0, 1) := by decide +kernel
theorem dX0_lowest_108 : decode cX0_lowest 108 = .ok (.iload 4, 2) := by decide +kernel
theorem dX0_lowest_110 : decode cX0_lowest 110 = .ok (.invokevirtual 58, 3) := by decide +kernel
theorem dX0_lowest_113 : decode cX0_lowest 113 = .ok (.iinc 3 1, 3) := by decide +kernel
theorem dX0_lowest_116 : decode cX0_lowest 116 = .ok (.goto (-72), 3) := by decide +kernel
theorem dX0_lowest_119 : decode cX0_lowest 119 = .ok (.aload_n 0, 1) := by decide +kernel
theorem dX0_lowest_120 : decode cX0_lowest 120 = .ok (.getfield 41, 3) := by decide +kernel
theorem dX0_lowest_123 : decode cX0_lowest 123 = .ok (.ireturn, 1) := by decide +kernel
theorem dX0_note_0 : decode cX0_note 0 = .ok (.aload_n 0, 1) := by decide +kernel
theorem dX0_note_1 : decode cX0_note 1 = .ok (.getfield 41, 3) := by decide +kernel
theorem dX0_note_4 : decode cX0_note 4 = .ok (.bipush (-4), 2) := by decide +kernel
theorem dX0_note_6 : decode cX0_note 6 = .ok (.if_icmp .eq 11, 3) := by decide +kernel
theorem dX0_note_9 : decode cX0_note 9 = .ok (.iload_n 1, 1) := by decide +kernel
theorem dX0_note_10 : decode cX0_note 10 = .ok (.aload_n 0, 1) := by decide +kernel
theorem dX0_note_11 : decode cX0_note 11 = .ok (.getfield 41, 3) := by decide +kernel
theorem dX0_note_14 : decode cX0_note 14 = .ok (.if_icmp .ge 8, 3) := by decide +kernel
theorem dX0_note_17 : decode cX0_note 17 = .ok (.aload_n 0, 1) := by decide +kernel
theorem dX0_note_18 : decode cX0_note 18 = .ok (.iload_n 1, 1) := by decide +kernel
theorem dX0_note_19 : decode cX0_note 19 = .ok (.putfield 41, 3) := by decide +kernel
theorem dX0_note_22 : decode cX0_note 22 = .ok (.return_, 1) := by decide +kernel
theorem dX0_tryNext_0 : decode cX0_tryNext 0 = .ok (.aload_n 0, 1) := by decide +kernel
theorem dX0_tryNext_1 : decode cX0_tryNext 1 = .ok (.getfield 18, 3) := by decide +kernel
theorem dX0_tryNext_4 : decode cX0_tryNext 4 = .ok (.iload_n 1, 1) := by decide +kernel
theorem dX0_tryNext_5 : decode cX0_tryNext 5 = .ok (.dup2, 1) := by decide +kernel
theorem dX0_tryNext_6 : decode cX0_tryNext 6 = .ok (.iaload, 1) := by decide +kernel
theorem dX0_tryNext_7 : decode cX0_tryNext 7 = .ok (.iconst 1, 1) := by decide +kernel
theorem dX0_tryNext_8 : decode cX0_tryNext 8 = .ok (.iadd, 1) := by decide +kernel
theorem dX0_tryNext_9 : decode cX0_tryNext 9 = .ok (.iastore, 1) := by decide +kernel
theorem dX0_tryNext_10 : decode cX0_tryNext 10 = .ok (.iload_n 2, 1) := by decide +kernel
theorem dX0_tryNext_11 : decode cX0_tryNext 11 = .ok (.bipush (-4), 2) := by decide +kernel
theorem dX0_tryNext_13 : decode cX0_tryNext 13 = .ok (.if_icmp .ne 4, 3) := by decide +kernel
theorem dX0_tryNext_16 : decode cX0_tryNext 16 = .ok (.return_, 1) := by decide +kernel
theorem dX0_tryNext_17 : decode cX0_tryNext 17 = .ok (.iload_n 2, 1) := by decide +kernel
theorem dX0_tryNext_18 : decode cX0_tryNext 18 = .ok (.iload_n 1, 1) := by decide +kernel
theorem dX0_tryNext_19 : decode cX0_tryNext 19 = .ok (.if_icmp .ne 11, 3) := by decide +kernel
theorem dX0_tryNext_22 : decode cX0_tryNext 22 = .ok (.aload_n 0, 1) := by decide +kernel
theorem dX0_tryNext_23 : decode cX0_tryNext 23 = .ok (.iload_n 1, 1) := by decide +kernel
theorem dX0_tryNext_24 : decode cX0_tryNext 24 = .ok (.invokevirtual 61, 3) := by decide +kernel
theorem dX0_tryNext_27 : decode cX0_tryNext 27 = .ok (.goto 50, 3) := by decide +kernel
theorem dX0_tryNext_30 : decode cX0_tryNext 30 = .ok (.aload_n 0, 1) := by decide +kernel
theorem dX0_tryNext_31 : decode cX0_tryNext 31 = .ok (.getfield 9, 3) := by decide +kernel
theorem dX0_tryNext_34 : decode cX0_tryNext 34 = .ok (.iload_n 2, 1) := by decide +kernel
theorem dX0_tryNext_35 : decode cX0_tryNext 35 = .ok (.iaload, 1) := by decide +kernel
theorem dX0_tryNext_36 : decode cX0_tryNext 36 = .ok (.ifCond .ne 11, 3) := by decide +kernel
theorem dX0_tryNext_39 : decode cX0_tryNext 39 = .ok (.aload_n 0, 1) := by decide +kernel
theorem dX0_tryNext_40 : decode cX0_tryNext 40 = .ok (.iload_n 2, 1) := by decide +kernel
theorem dX0_tryNext_41 : decode cX0_tryNext 41 = .ok (.invokevirtual 50, 3) := by decide +kernel
theorem dX0_tryNext_44 : decode cX0_tryNext 44 = .ok (.goto 33, 3) := by decide +kernel
theorem dX0_tryNext_47 : decode cX0_tryNext 47 = .ok (.aload_n 0, 1) := by decide +kernel
theorem dX0_tryNext_48 : decode cX0_tryNext 48 = .ok (.getfield 27, 3) := by decide +kernel
theorem dX0_tryNext_51 : decode cX0_tryNext 51 = .ok (.iload_n 2, 1) := by decide +kernel
theorem dX0_tryNext_52 : decode cX0_tryNext 52 = .ok (.baload, 1) := by decide +kernel
theorem dX0_tryNext_53 : decode cX0_tryNext 53 = .ok (.ifCond .eq 24, 3) := by decide +kernel
theorem dX0_tryNext_56 : decode cX0_tryNext 56 = .ok (.aload_n 0, 1) := by decide +kernel
theorem dX0_tryNext_57 : decode cX0_tryNext 57 = .ok (.getfield 15, 3) := by decide +kernel
theorem dX0_tryNext_60 : decode cX0_tryNext 60 = .ok (.iload_n 1, 1) := by decide +kernel
theorem dX0_tryNext_61 : decode cX0_tryNext 61 = .ok (.aload_n 0, 1) := by decide +kernel
theorem dX0_tryNext_62 : decode cX0_tryNext 62 = .ok (.getfield 15, 3) := by decide +kernel
theorem dX0_tryNext_65 : decode cX0_tryNext 65 = .ok (.iload_n 1, 1) := by decide +kernel
theorem dX0_tryNext_66 : decode cX0_tryNext 66 = .ok (.iaload, 1) := by decide +kernel
theorem dX0_tryNext_67 : decode cX0_tryNext 67 = .ok (.aload_n 0, 1) := by decide +kernel
theorem dX0_tryNext_68 : decode cX0_tryNext 68 = .ok (.getfield 9, 3) := by decide +kernel
theorem dX0_tryNext_71 : decode cX0_tryNext 71 = .ok (.iload_n 2, 1) := by decide +kernel
theorem dX0_tryNext_72 : decode cX0_tryNext 72 = .ok (.iaload, 1) := by decide +kernel
theorem dX0_tryNext_73 : decode cX0_tryNext 73 = .ok (.invokestatic 64, 3) := by decide +kernel
theorem dX0_tryNext_76 : decode cX0_tryNext 76 = .ok (.iastore, 1) := by decide +kernel
theorem dX0_tryNext_77 : decode cX0_tryNext 77 = .ok (.return_, 1) := by decide +kernel
theorem dX1_choiceOfWalk_0 : decode cX1_choiceOfWalk 0 = .ok (.iload_n 2, 1) := by decide +kernel
theorem dX1_choiceOfWalk_1 : decode cX1_choiceOfWalk 1 = .ok (.aload_n 0, 1) := by decide +kernel
theorem dX1_choiceOfWalk_2 : decode cX1_choiceOfWalk 2 = .ok (.getfield 34, 3) := by decide +kernel
theorem dX1_choiceOfWalk_5 : decode cX1_choiceOfWalk 5 = .ok (.iload_n 1, 1) := by decide +kernel
theorem dX1_choiceOfWalk_6 : decode cX1_choiceOfWalk 6 = .ok (.iaload, 1) := by decide +kernel
theorem dX1_choiceOfWalk_7 : decode cX1_choiceOfWalk 7 = .ok (.if_icmp .lt 6, 3) := by decide +kernel
theorem dX1_choiceOfWalk_10 : decode cX1_choiceOfWalk 10 = .ok (.bipush (-4), 2) := by decide +kernel
theorem dX1_choiceOfWalk_12 : decode cX1_choiceOfWalk 12 = .ok (.ireturn, 1) := by decide +kernel
theorem dX1_choiceOfWalk_13 : decode cX1_choiceOfWalk 13 = .ok (.iload_n 1, 1) := by decide +kernel
theorem dX1_choiceOfWalk_14 : decode cX1_choiceOfWalk 14 = .ok (.istore_n 3, 1) := by decide +kernel
theorem dX1_choiceOfWalk_15 : decode cX1_choiceOfWalk 15 = .ok (.aload_n 0, 1) := by decide +kernel
theorem dX1_choiceOfWalk_16 : decode cX1_choiceOfWalk 16 = .ok (.getfield 34, 3) := by decide +kernel
theorem dX1_choiceOfWalk_19 : decode cX1_choiceOfWalk 19 = .ok (.iload_n 1, 1) := by decide +kernel
theorem dX1_choiceOfWalk_20 : decode cX1_choiceOfWalk 20 = .ok (.iaload, 1) := by decide +kernel
theorem dX1_choiceOfWalk_21 : decode cX1_choiceOfWalk 21 = .ok (.iconst 1, 1) := by decide +kernel
theorem dX1_choiceOfWalk_22 : decode cX1_choiceOfWalk 22 = .ok (.isub, 1) := by decide +kernel
theorem dX1_choiceOfWalk_23 : decode cX1_choiceOfWalk 23 = .ok (.istore 4, 2) := by decide +kernel
theorem dX1_choiceOfWalk_25 : decode cX1_choiceOfWalk 25 = .ok (.iload 4, 2) := by decide +kernel
theorem dX1_choiceOfWalk_27 : decode cX1_choiceOfWalk 27 = .ok (.iload_n 2, 1) := by decide +kernel
theorem dX1_choiceOfWalk_28 : decode cX1_choiceOfWalk 28 = .ok (.if_icmp .le 16, 3) := by decide +kernel
theorem dX1_choiceOfWalk_31 : decode cX1_choiceOfWalk 31 = .ok (.aload_n 0, 1) := by decide +kernel
theorem dX1_choiceOfWalk_32 : decode cX1_choiceOfWalk 32 = .ok (.getfield 28, 3) := by decide +kernel
theorem dX1_choiceOfWalk_35 : decode cX1_choiceOfWalk 35 = .ok (.iload_n 3, 1) := by decide +kernel
theorem dX1_choiceOfWalk_36 : decode cX1_choiceOfWalk 36 = .ok (.iaload, 1) := by decide +kernel
theorem dX1_choiceOfWalk_37 : decode cX1_choiceOfWalk 37 = .ok (.istore_n 3, 1) := by decide +kernel
theorem dX1_choiceOfWalk_38 : decode cX1_choiceOfWalk 38 = .ok (.iinc 4 (-1), 3) := by decide +kernel
theorem dX1_choiceOfWalk_41 : decode cX1_choiceOfWalk 41 = .ok (.goto (-16), 3) := by decide +kernel
theorem dX1_choiceOfWalk_44 : decode cX1_choiceOfWalk 44 = .ok (.aload_n 0, 1) := by decide +kernel
theorem dX1_choiceOfWalk_45 : decode cX1_choiceOfWalk 45 = .ok (.getfield 31, 3) := by decide +kernel
theorem dX1_choiceOfWalk_48 : decode cX1_choiceOfWalk 48 = .ok (.iload_n 3, 1) := by decide +kernel
theorem dX1_choiceOfWalk_49 : decode cX1_choiceOfWalk 49 = .ok (.iaload, 1) := by decide +kernel
theorem dX1_choiceOfWalk_50 : decode cX1_choiceOfWalk 50 = .ok (.ireturn, 1) := by decide +kernel
theorem dX1_countPairs_0 : decode cX1_countPairs 0 = .ok (.iconst 0, 1) := by decide +kernel
theorem dX1_countPairs_1 : decode cX1_countPairs 1 = .ok (.istore_n 1, 1) := by decide +kernel
theorem dX1_countPairs_2 : decode cX1_countPairs 2 = .ok (.iconst 0, 1) := by decide +kernel
theorem dX1_countPairs_3 : decode cX1_countPairs 3 = .ok (.istore_n 2, 1) := by decide +kernel
theorem dX1_countPairs_4 : decode cX1_countPairs 4 = .ok (.iload_n 2, 1) := by decide +kernel
theorem dX1_countPairs_5 : decode cX1_countPairs 5 = .ok (.aload_n 0, 1) := by decide +kernel
theorem dX1_countPairs_6 : decode cX1_countPairs 6 = .ok (.getfield 57, 3) := by decide +kernel
theorem dX1_countPairs_9 : decode cX1_countPairs 9 = .ok (.bipush 6, 2) := by decide +kernel
theorem dX1_countPairs_11 : decode cX1_countPairs 11 = .ok (.imul, 1) := by decide +kernel
theorem dX1_countPairs_12 : decode cX1_countPairs 12 = .ok (.if_icmp .ge 23, 3) := by decide +kernel
theorem dX1_countPairs_15 : decode cX1_countPairs 15 = .ok (.aload_n 0, 1) := by decide +kernel
theorem dX1_countPairs_16 : decode cX1_countPairs 16 = .ok (.getfield 25, 3) := by decide +kernel
theorem dX1_countPairs_19 : decode cX1_countPairs 19 = .ok (.iload_n 2, 1) := by decide +kernel
theorem dX1_countPairs_20 : decode cX1_countPairs 20 = .ok (.iaload, 1) := by decide +kernel
theorem dX1_countPairs_21 : decode cX1_countPairs 21 = .ok (.bipush (-4), 2) := by decide +kernel
theorem dX1_countPairs_23 : decode cX1_countPairs 23 = .ok (.if_icmp .eq 6, 3) := by decide +kernel
theorem dX1_countPairs_26 : decode cX1_countPairs 26 = .ok (.iinc 1 1, 3) := by decide +kernel
theorem dX1_countPairs_29 : decode cX1_countPairs 29 = .ok (.iinc 2 1, 3) := by decide +kernel
theorem dX1_countPairs_32 : decode cX1_countPairs 32 = .ok (.goto (-28), 3) := by decide +kernel
theorem dX1_countPairs_35 : decode cX1_countPairs 35 = .ok (.iload_n 1, 1) := by decide +kernel
theorem dX1_countPairs_36 : decode cX1_countPairs 36 = .ok (.ireturn, 1) := by decide +kernel
theorem dX1_countResults_0 : decode cX1_countResults 0 = .ok (.aload_n 0, 1) := by decide +kernel
theorem dX1_countResults_1 : decode cX1_countResults 1 = .ok (.getfield 40, 3) := by decide +kernel
theorem dX1_countResults_4 : decode cX1_countResults 4 = .ok (.iconst 0, 1) := by decide +kernel
theorem dX1_countResults_5 : decode cX1_countResults 5 = .ok (.invokestatic 99, 3) := by decide +kernel
theorem dX1_countResults_8 : decode cX1_countResults 8 = .ok (.iconst 0, 1) := by decide +kernel
theorem dX1_countResults_9 : decode cX1_countResults 9 = .ok (.istore_n 1, 1) := by decide +kernel
theorem dX1_countResults_10 : decode cX1_countResults 10 = .ok (.iconst 0, 1) := by decide +kernel
theorem dX1_countResults_11 : decode cX1_countResults 11 = .ok (.istore_n 2, 1) := by decide +kernel
theorem dX1_countResults_12 : decode cX1_countResults 12 = .ok (.iload_n 2, 1) := by decide +kernel
theorem dX1_countResults_13 : decode cX1_countResults 13 = .ok (.aload_n 0, 1) := by decide +kernel
theorem dX1_countResults_14 : decode cX1_countResults 14 = .ok (.getfield 57, 3) := by decide +kernel
theorem dX1_countResults_17 : decode cX1_countResults 17 = .ok (.if_icmp .ge 32, 3) := by decide +kernel
theorem dX1_countResults_20 : decode cX1_countResults 20 = .ok (.aload_n 0, 1) := by decide +kernel
theorem dX1_countResults_21 : decode cX1_countResults 21 = .ok (.getfield 37, 3) := by decide +kernel
theorem dX1_countResults_24 : decode cX1_countResults 24 = .ok (.iload_n 2, 1) := by decide +kernel
theorem dX1_countResults_25 : decode cX1_countResults 25 = .ok (.iaload, 1) := by decide +kernel
theorem dX1_countResults_26 : decode cX1_countResults 26 = .ok (.iconst 3, 1) := by decide +kernel
theorem dX1_countResults_27 : decode cX1_countResults 27 = .ok (.iand, 1) := by decide +kernel
theorem dX1_countResults_28 : decode cX1_countResults 28 = .ok (.iconst 1, 1) := by decide +kernel
theorem dX1_countResults_29 : decode cX1_countResults 29 = .ok (.if_icmp .ne 14, 3) := by decide +kernel
theorem dX1_countResults_32 : decode cX1_countResults 32 = .ok (.aload_n 0, 1) := by decide +kernel
theorem dX1_countResults_33 : decode cX1_countResults 33 = .ok (.iload_n 2, 1) := by decide +kernel
theorem dX1_countResults_34 : decode cX1_countResults 34 = .ok (.invokevirtual 184, 3) := by decide +kernel
theorem dX1_countResults_37 : decode cX1_countResults 37 = .ok (.ifCond .eq 6, 3) := by decide +kernel
theorem dX1_countResults_40 : decode cX1_countResults 40 = .ok (.iinc 1 1, 3) := by decide +kernel
theorem dX1_countResults_43 : decode cX1_countResults 43 = .ok (.iinc 2 1, 3) := by decide +kernel
theorem dX1_countResults_46 : decode cX1_countResults 46 = .ok (.goto (-34), 3) := by decide +kernel
theorem dX1_countResults_49 : decode cX1_countResults 49 = .ok (.iload_n 1, 1) := by decide +kernel
theorem dX1_countResults_50 : decode cX1_countResults 50 = .ok (.ireturn, 1) := by decide +kernel
theorem dX1_countTrait_0 : decode cX1_countTrait 0 = .ok (.iconst 0, 1) := by decide +kernel
theorem dX1_countTrait_1 : decode cX1_countTrait 1 = .ok (.istore_n 2, 1) := by decide +kernel
theorem dX1_countTrait_2 : decode cX1_countTrait 2 = .ok (.iconst 0, 1) := by decide +kernel
theorem dX1_countTrait_3 : decode cX1_countTrait 3 = .ok (.istore_n 3, 1) := by decide +kernel
theorem dX1_countTrait_4 : decode cX1_countTrait 4 = .ok (.iload_n 3, 1) := by decide +kernel
theorem dX1_countTrait_5 : decode cX1_countTrait 5 = .ok (.aload_n 0, 1) := by decide +kernel
theorem dX1_countTrait_6 : decode cX1_countTrait 6 = .ok (.getfield 57, 3) := by decide +kernel
theorem dX1_countTrait_9 : decode cX1_countTrait 9 = .ok (.if_icmp .ge 23, 3) := by decide +kernel
theorem dX1_countTrait_12 : decode cX1_countTrait 12 = .ok (.aload_n 0, 1) := by decide +kernel
theorem dX1_countTrait_13 : decode cX1_countTrait 13 = .ok (.getfield 37, 3) := by decide +kernel
theorem dX1_countTrait_16 : decode cX1_countTrait 16 = .ok (.iload_n 3, 1) := by decide +kernel
theorem dX1_countTrait_17 : decode cX1_countTrait 17 = .ok (.iaload, 1) := by decide +kernel
theorem dX1_countTrait_18 : decode cX1_countTrait 18 = .ok (.iload_n 1, 1) := by decide +kernel
theorem dX1_countTrait_19 : decode cX1_countTrait 19 = .ok (.iand, 1) := by decide +kernel
theorem dX1_countTrait_20 : decode cX1_countTrait 20 = .ok (.ifCond .eq 6, 3) := by decide +kernel
theorem dX1_countTrait_23 : decode cX1_countTrait 23 = .ok (.iinc 2 1, 3) := by decide +kernel
theorem dX1_countTrait_26 : decode cX1_countTrait 26 = .ok (.iinc 3 1, 3) := by decide +kernel
theorem dX1_countTrait_29 : decode cX1_countTrait 29 = .ok (.goto (-25), 3) := by decide +kernel
theorem dX1_countTrait_32 : decode cX1_countTrait 32 = .ok (.iload_n 2, 1) := by decide +kernel
theorem dX1_countTrait_33 : decode cX1_countTrait 33 = .ok (.ireturn, 1) := by decide +kernel
theorem dX1_describe_0 : decode cX1_describe 0 = .ok (.aload_n 0, 1) := by decide +kernel
theorem dX1_describe_1 : decode cX1_describe 1 = .ok (.getfield 12, 3) := by decide +kernel
theorem dX1_describe_4 : decode cX1_describe 4 = .ok (.invokevirtual 121, 3) := by decide +kernel
theorem dX1_describe_7 : decode cX1_describe 7 = .ok (.istore_n 3, 1) := by decide +kernel
theorem dX1_describe_8 : decode cX1_describe 8 = .ok (.iload_n 3, 1) := by decide +kernel
theorem dX1_describe_9 : decode cX1_describe 9 = .ok (.iconst 4, 1) := by decide +kernel
theorem dX1_describe_10 : decode cX1_describe 10 = .ok (.ishl, 1) := by decide +kernel
theorem dX1_describe_11 : decode cX1_describe 11 = .ok (.istore 4, 2) := by decide +kernel
theorem dX1_describe_13 : decode cX1_describe 13 = .ok (.aload_n 0, 1) := by decide +kernel
theorem dX1_describe_14 : decode cX1_describe 14 = .ok (.getfield 12, 3) := by decide +kernel
theorem dX1_describe_17 : decode cX1_describe 17 = .ok (.invokevirtual 124, 3) := by decide +kernel
theorem dX1_describe_20 : decode cX1_describe 20 = .ok (.ifCond .eq 10, 3) := by decide +kernel
theorem dX1_describe_23 : decode cX1_describe 23 = .ok (.iload 4, 2) := by decide +kernel
theorem dX1_describe_25 : decode cX1_describe 25 = .ok (.bipush 8, 2) := by decide +kernel
theorem dX1_describe_27 : decode cX1_describe 27 = .ok (.ior, 1) := by decide +kernel
theorem dX1_describe_28 : decode cX1_describe 28 = .ok (.istore 4, 2) := by decide +kernel
theorem dX1_describe_30 : decode cX1_describe 30 = .ok (.aload_n 0, 1) := by decide +kernel
theorem dX1_describe_31 : decode cX1_describe 31 = .ok (.getfield 12, 3) := by decide +kernel
theorem dX1_describe_34 : decode cX1_describe 34 = .ok (.invokevirtual 128, 3) := by decide +kernel
theorem dX1_describe_37 : decode cX1_describe 37 = .ok (.ifCond .eq 56, 3) := by decide +kernel
theorem dX1_describe_40 : decode cX1_describe 40 = .ok (.iload 4, 2) := by decide +kernel
theorem dX1_describe_42 : decode cX1_describe 42 = .ok (.iconst 1, 1) := by decide +kernel
theorem dX1_describe_43 : decode cX1_describe 43 = .ok (.ior, 1) := by decide +kernel
theorem dX1_describe_44 : decode cX1_describe 44 = .ok (.istore 4, 2) := by decide +kernel
theorem dX1_describe_46 : decode cX1_describe 46 = .ok (.aload_n 2, 1) := by decide +kernel
theorem dX1_describe_47 : decode cX1_describe 47 = .ok (.aload_n 0, 1) := by decide +kernel
theorem dX1_describe_48 : decode cX1_describe 48 = .ok (.getfield 12, 3) := by decide +kernel
theorem dX1_describe_51 : decode cX1_describe 51 = .ok (.invokevirtual 131, 3) := by decide +kernel
theorem dX1_describe_54 : decode cX1_describe 54 = .ok (.ifCond .ne 9, 3) := by decide +kernel
theorem dX1_describe_57 : decode cX1_describe 57 = .ok (.iload 4, 2) := by decide +kernel
theorem dX1_describe_59 : decode cX1_describe 59 = .ok (.iconst 2, 1) := by decide +kernel
theorem dX1_describe_60 : decode cX1_describe 60 = .ok (.ior, 1) := by decide +kernel
theorem dX1_describe_61 : decode cX1_describe 61 = .ok (.istore 4, 2) := by decide +kernel
theorem dX1_describe_63 : decode cX1_describe 63 = .ok (.aload_n 0, 1) := by decide +kernel
theorem dX1_describe_64 : decode cX1_describe 64 = .ok (.getfield 12, 3) := by decide +kernel
theorem dX1_describe_67 : decode cX1_describe 67 = .ok (.getfield 137, 3) := by decide +kernel
theorem dX1_describe_70 : decode cX1_describe 70 = .ok (.getfield 141, 3) := by decide +kernel
theorem dX1_describe_73 : decode cX1_describe 73 = .ok (.ifCond .eq 20, 3) := by decide +kernel
theorem dX1_describe_76 : decode cX1_describe 76 = .ok (.aload_n 2, 1) := by decide +kernel
theorem dX1_describe_77 : decode cX1_describe 77 = .ok (.aload_n 0, 1) := by decide +kernel
theorem dX1_describe_78 : decode cX1_describe 78 = .ok (.getfield 12, 3) := by decide +kernel
theorem dX1_describe_81 : decode cX1_describe 81 = .ok (.invokevirtual 146, 3) := by decide +kernel
theorem dX1_describe_84 : decode cX1_describe 84 = .ok (.ifCond .ne 9, 3) := by decide +kernel
theorem dX1_describe_87 : decode cX1_describe 87 = .ok (.iload 4, 2) := by decide +kernel
theorem dX1_describe_89 : decode cX1_describe 89 = .ok (.iconst 4, 1) := by decide +kernel
theorem dX1_describe_90 : decode cX1_describe 90 = .ok (.ior, 1) := by decide +kernel
theorem dX1_describe_91 : decode cX1_describe 91 = .ok (.istore 4, 2) := by decide +kernel
theorem dX1_describe_93 : decode cX1_describe 93 = .ok (.aload_n 0, 1) := by decide +kernel
theorem dX1_describe_94 : decode cX1_describe 94 = .ok (.getfield 37, 3) := by decide +kernel
theorem dX1_describe_97 : decode cX1_describe 97 = .ok (.iload_n 1, 1) := by decide +kernel
theorem dX1_describe_98 : decode cX1_describe 98 = .ok (.iload 4, 2) := by decide +kernel
theorem dX1_describe_100 : decode cX1_describe 100 = .ok (.iastore, 1) := by decide +kernel
theorem dX1_describe_101 : decode cX1_describe 101 = .ok (.aload_n 0, 1) := by decide +kernel
theorem dX1_describe_102 : decode cX1_describe 102 = .ok (.aload_n 0, 1) := by decide +kernel
theorem dX1_describe_103 : decode cX1_describe 103 = .ok (.getfield 61, 3) := by decide +kernel
theorem dX1_describe_106 : decode cX1_describe 106 = .ok (.iload_n 3, 1) := by decide +kernel
theorem dX1_describe_107 : decode cX1_describe 107 = .ok (.invokestatic 149, 3) := by decide +kernel
theorem dX1_describe_110 : decode cX1_describe 110 = .ok (.putfield 61, 3) := by decide +kernel
theorem dX1_describe_113 : decode cX1_describe 113 = .ok (.return_, 1) := by decide +kernel
theorem dX1_figure_0 : decode cX1_figure 0 = .ok (.iload_n 1, 1) := by decide +kernel
theorem dX1_figure_1 : decode cX1_figure 1 = .ok (.tableswitch 83 0 6 #[43, 48, 54, 60, 66, 71, 78], 43) := by decide +kernel
theorem dX1_figure_44 : decode cX1_figure 44 = .ok (.aload_n 0, 1) := by decide +kernel
theorem dX1_figure_45 : decode cX1_figure 45 = .ok (.getfield 57, 3) := by decide +kernel
theorem dX1_figure_48 : decode cX1_figure 48 = .ok (.ireturn, 1) := by decide +kernel
theorem dX1_figure_49 : decode cX1_figure 49 = .ok (.aload_n 0, 1) := by decide +kernel
theorem dX1_figure_50 : decode cX1_figure 50 = .ok (.iconst 1, 1) := by decide +kernel
theorem dX1_figure_51 : decode cX1_figure 51 = .ok (.invokevirtual 154, 3) := by decide +kernel
theorem dX1_figure_54 : decode cX1_figure 54 = .ok (.ireturn, 1) := by decide +kernel
theorem dX1_figure_55 : decode cX1_figure 55 = .ok (.aload_n 0, 1) := by decide +kernel
theorem dX1_figure_56 : decode cX1_figure 56 = .ok (.iconst 2, 1) := by decide +kernel
theorem dX1_figure_57 : decode cX1_figure 57 = .ok (.invokevirtual 154, 3) := by decide +kernel
theorem dX1_figure_60 : decode cX1_figure 60 = .ok (.ireturn, 1) := by decide +kernel
theorem dX1_figure_61 : decode cX1_figure 61 = .ok (.aload_n 0, 1) := by decide +kernel
theorem dX1_figure_62 : decode cX1_figure 62 = .ok (.iconst 4, 1) := by decide +kernel
theorem dX1_figure_63 : decode cX1_figure 63 = .ok (.invokevirtual 154, 3) := by decide +kernel
theorem dX1_figure_66 : decode cX1_figure 66 = .ok (.ireturn, 1) := by decide +kernel
theorem dX1_figure_67 : decode cX1_figure 67 = .ok (.aload_n 0, 1) := by decide +kernel
theorem dX1_figure_68 : decode cX1_figure 68 = .ok (.invokevirtual 158, 3) := by decide +kernel
theorem dX1_figure_71 : decode cX1_figure 71 = .ok (.ireturn, 1) := by decide +kernel
theorem dX1_figure_72 : decode cX1_figure 72 = .ok (.aload_n 0, 1) := by decide +kernel
theorem dX1_figure_73 : decode cX1_figure 73 = .ok (.bipush 8, 2) := by decide +kernel
theorem dX1_figure_75 : decode cX1_figure 75 = .ok (.invokevirtual 154, 3) := by decide +kernel
theorem dX1_figure_78 : decode cX1_figure 78 = .ok (.ireturn, 1) := by decide +kernel
theorem dX1_figure_79 : decode cX1_figure 79 = .ok (.aload_n 0, 1) := by decide +kernel
theorem dX1_figure_80 : decode cX1_figure 80 = .ok (.getfield 61, 3) := by decide +kernel
theorem dX1_figure_83 : decode cX1_figure 83 = .ok (.ireturn, 1) := by decide +kernel
theorem dX1_figure_84 : decode cX1_figure 84 = .ok (.aload_n 0, 1) := by decide +kernel
theorem dX1_figure_85 : decode cX1_figure 85 = .ok (.getfield 54, 3) := by decide +kernel
theorem dX1_figure_88 : decode cX1_figure 88 = .ok (.ifCond .eq 7, 3) := by decide +kernel
theorem dX1_figure_91 : decode cX1_figure 91 = .ok (.iconst 1, 1) := by decide +kernel
theorem dX1_figure_92 : decode cX1_figure 92 = .ok (.goto 4, 3) := by decide +kernel
theorem dX1_figure_95 : decode cX1_figure 95 = .ok (.iconst 0, 1) := by decide +kernel
theorem dX1_figure_96 : decode cX1_figure 96 = .ok (.ireturn, 1) := by decide +kernel
theorem dX1_find_0 : decode cX1_find 0 = .ok (.iload_n 1, 1) := by decide +kernel
theorem dX1_find_1 : decode cX1_find 1 = .ok (.tableswitch 71 0 5 #[39, 46, 53, 71, 61, 66], 39) := by decide +kernel
theorem dX1_find_40 : decode cX1_find 40 = .ok (.aload_n 0, 1) := by decide +kernel
theorem dX1_find_41 : decode cX1_find 41 = .ok (.iconst 2, 1) := by decide +kernel
theorem dX1_find_42 : decode cX1_find 42 = .ok (.iconst 0, 1) := by decide +kernel
theorem dX1_find_43 : decode cX1_find 43 = .ok (.invokevirtual 161, 3) := by decide +kernel
theorem dX1_find_46 : decode cX1_find 46 = .ok (.ireturn, 1) := by decide +kernel
theorem dX1_find_47 : decode cX1_find 47 = .ok (.aload_n 0, 1) := by decide +kernel
theorem dX1_find_48 : decode cX1_find 48 = .ok (.iconst 4, 1) := by decide +kernel
theorem dX1_find_49 : decode cX1_find 49 = .ok (.iconst 0, 1) := by decide +kernel
theorem dX1_find_50 : decode cX1_find 50 = .ok (.invokevirtual 161, 3) := by decide +kernel
theorem dX1_find_53 : decode cX1_find 53 = .ok (.ireturn, 1) := by decide +kernel
theorem dX1_find_54 : decode cX1_find 54 = .ok (.aload_n 0, 1) := by decide +kernel
theorem dX1_find_55 : decode cX1_find 55 = .ok (.bipush 8, 2) := by decide +kernel
theorem dX1_find_57 : decode cX1_find 57 = .ok (.iconst 0, 1) := by decide +kernel
theorem dX1_find_58 : decode cX1_find 58 = .ok (.invokevirtual 161, 3) := by decide +kernel
theorem dX1_find_61 : decode cX1_find 61 = .ok (.ireturn, 1) := by decide +kernel
theorem dX1_find_62 : decode cX1_find 62 = .ok (.aload_n 0, 1) := by decide +kernel
theorem dX1_find_63 : decode cX1_find 63 = .ok (.invokevirtual 164, 3) := by decide +kernel
theorem dX1_find_66 : decode cX1_find 66 = .ok (.ireturn, 1) := by decide +kernel
theorem dX1_find_67 : decode cX1_find 67 = .ok (.aload_n 0, 1) := by decide +kernel
theorem dX1_find_68 : decode cX1_find 68 = .ok (.invokevirtual 167, 3) := by decide +kernel
theorem dX1_find_71 : decode cX1_find 71 = .ok (.ireturn, 1) := by decide +kernel
theorem dX1_find_72 : decode cX1_find 72 = .ok (.aload_n 0, 1) := by decide +kernel
theorem dX1_find_73 : decode cX1_find 73 = .ok (.iconst 1, 1) := by decide +kernel
theorem dX1_find_74 : decode cX1_find 74 = .ok (.iload_n 1, 1) := by decide +kernel
theorem dX1_find_75 : decode cX1_find 75 = .ok (.bipush 6, 2) := by decide +kernel
theorem dX1_find_77 : decode cX1_find 77 = .ok (.isub, 1) := by decide +kernel
theorem dX1_find_78 : decode cX1_find 78 = .ok (.invokevirtual 161, 3) := by decide +kernel
theorem dX1_find_81 : decode cX1_find 81 = .ok (.ireturn, 1) := by decide +kernel
theorem dX1_findPlace_0 : decode cX1_findPlace 0 = .ok (.iconst 0, 1) := by decide +kernel
theorem dX1_findPlace_1 : decode cX1_findPlace 1 = .ok (.istore_n 1, 1) := by decide +kernel
theorem dX1_findPlace_2 : decode cX1_findPlace 2 = .ok (.iconst 0, 1) := by decide +kernel
theorem dX1_findPlace_3 : decode cX1_findPlace 3 = .ok (.istore_n 2, 1) := by decide +kernel
theorem dX1_findPlace_4 : decode cX1_findPlace 4 = .ok (.iload_n 2, 1) := by decide +kernel
theorem dX1_findPlace_5 : decode cX1_findPlace 5 = .ok (.bipush 100, 2) := by decide +kernel
theorem dX1_findPlace_7 : decode cX1_findPlace 7 = .ok (.if_icmp .ge 24, 3) := by decide +kernel
theorem dX1_findPlace_10 : decode cX1_findPlace 10 = .ok (.iload_n 1, 1) := by decide +kernel
theorem dX1_findPlace_11 : decode cX1_findPlace 11 = .ok (.bipush 31, 2) := by decide +kernel
theorem dX1_findPlace_13 : decode cX1_findPlace 13 = .ok (.imul, 1) := by decide +kernel
theorem dX1_findPlace_14 : decode cX1_findPlace 14 = .ok (.aload_n 0, 1) := by decide +kernel
theorem dX1_findPlace_15 : decode cX1_findPlace 15 = .ok (.getfield 12, 3) := by decide +kernel
theorem dX1_findPlace_18 : decode cX1_findPlace 18 = .ok (.getfield 105, 3) := by decide +kernel
theorem dX1_findPlace_21 : decode cX1_findPlace 21 = .ok (.iload_n 2, 1) := by decide +kernel
theorem dX1_findPlace_22 : decode cX1_findPlace 22 = .ok (.iaload, 1) := by decide +kernel
theorem dX1_findPlace_23 : decode cX1_findPlace 23 = .ok (.iadd, 1) := by decide +kernel
theorem dX1_findPlace_24 : decode cX1_findPlace 24 = .ok (.istore_n 1, 1) := by decide +kernel
theorem dX1_findPlace_25 : decode cX1_findPlace 25 = .ok (.iinc 2 1, 3) := by decide +kernel
theorem dX1_findPlace_28 : decode cX1_findPlace 28 = .ok (.goto (-24), 3) := by decide +kernel
theorem dX1_findPlace_31 : decode cX1_findPlace 31 = .ok (.iload_n 1, 1) := by decide +kernel
theorem dX1_findPlace_32 : decode cX1_findPlace 32 = .ok (.ldc 117, 2) := by decide +kernel
theorem dX1_findPlace_34 : decode cX1_findPlace 34 = .ok (.imul, 1) := by decide +kernel
theorem dX1_findPlace_35 : decode cX1_findPlace 35 = .ok (.bipush 20, 2) := by decide +kernel
theorem dX1_findPlace_37 : decode cX1_findPlace 37 = .ok (.iushr, 1) := by decide +kernel
theorem dX1_findPlace_38 : decode cX1_findPlace 38 = .ok (.istore_n 2, 1) := by decide +kernel
theorem dX1_findPlace_39 : decode cX1_findPlace 39 = .ok (.iconst 0, 1) := by decide +kernel
theorem dX1_findPlace_40 : decode cX1_findPlace 40 = .ok (.istore_n 3, 1) := by decide +kernel
theorem dX1_findPlace_41 : decode cX1_findPlace 41 = .ok (.iload_n 3, 1) := by decide +kernel
theorem dX1_findPlace_42 : decode cX1_findPlace 42 = .ok (.sipush 4096, 3) := by decide +kernel
theorem dX1_findPlace_45 : decode cX1_findPlace 45 = .ok (.if_icmp .ge 44, 3) := by decide +kernel
theorem dX1_findPlace_48 : decode cX1_findPlace 48 = .ok (.aload_n 0, 1) := by decide +kernel
theorem dX1_findPlace_49 : decode cX1_findPlace 49 = .ok (.getfield 40, 3) := by decide +kernel
theorem dX1_findPlace_52 : decode cX1_findPlace 52 = .ok (.iload_n 2, 1) := by decide +kernel
theorem dX1_findPlace_53 : decode cX1_findPlace 53 = .ok (.iaload, 1) := by decide +kernel
theorem dX1_findPlace_54 : decode cX1_findPlace 54 = .ok (.ifCond .eq 35, 3) := by decide +kernel
theorem dX1_findPlace_57 : decode cX1_findPlace 57 = .ok (.aload_n 0, 1) := by decide +kernel
theorem dX1_findPlace_58 : decode cX1_findPlace 58 = .ok (.aload_n 0, 1) := by decide +kernel
theorem dX1_findPlace_59 : decode cX1_findPlace 59 = .ok (.getfield 40, 3) := by decide +kernel
theorem dX1_findPlace_62 : decode cX1_findPlace 62 = .ok (.iload_n 2, 1) := by decide +kernel
theorem dX1_findPlace_63 : decode cX1_findPlace 63 = .ok (.iaload, 1) := by decide +kernel
theorem dX1_findPlace_64 : decode cX1_findPlace 64 = .ok (.iconst 1, 1) := by decide +kernel
theorem dX1_findPlace_65 : decode cX1_findPlace 65 = .ok (.isub, 1) := by decide +kernel
theorem dX1_findPlace_66 : decode cX1_findPlace 66 = .ok (.invokevirtual 118, 3) := by decide +kernel
theorem dX1_findPlace_69 : decode cX1_findPlace 69 = .ok (.ifCond .eq 6, 3) := by decide +kernel
theorem dX1_findPlace_72 : decode cX1_findPlace 72 = .ok (.goto 17, 3) := by decide +kernel
theorem dX1_findPlace_75 : decode cX1_findPlace 75 = .ok (.iload_n 2, 1) := by decide +kernel
theorem dX1_findPlace_76 : decode cX1_findPlace 76 = .ok (.iconst 1, 1) := by decide +kernel
theorem dX1_findPlace_77 : decode cX1_findPlace 77 = .ok (.iadd, 1) := by decide +kernel
theorem dX1_findPlace_78 : decode cX1_findPlace 78 = .ok (.sipush 4095, 3) := by decide +kernel
theorem dX1_findPlace_81 : decode cX1_findPlace 81 = .ok (.iand, 1) := by decide +kernel
theorem dX1_findPlace_82 : decode cX1_findPlace 82 = .ok (.istore_n 2, 1) := by decide +kernel
theorem dX1_findPlace_83 : decode cX1_findPlace 83 = .ok (.iinc 3 1, 3) := by decide +kernel
theorem dX1_findPlace_86 : decode cX1_findPlace 86 = .ok (.goto (-45), 3) := by decide +kernel
theorem dX1_findPlace_89 : decode cX1_findPlace 89 = .ok (.iload_n 2, 1) := by decide +kernel
theorem dX1_findPlace_90 : decode cX1_findPlace 90 = .ok (.ireturn, 1) := by decide +kernel
theorem dX1_forget_0 : decode cX1_forget 0 = .ok (.aload_n 0, 1) := by decide +kernel
theorem dX1_forget_1 : decode cX1_forget 1 = .ok (.iconst 0, 1) := by decide +kernel
theorem dX1_forget_2 : decode cX1_forget 2 = .ok (.putfield 54, 3) := by decide +kernel
theorem dX1_forget_5 : decode cX1_forget 5 = .ok (.aload_n 0, 1) := by decide +kernel
theorem dX1_forget_6 : decode cX1_forget 6 = .ok (.iconst 0, 1) := by decide +kernel
theorem dX1_forget_7 : decode cX1_forget 7 = .ok (.putfield 57, 3) := by decide +kernel
theorem dX1_forget_10 : decode cX1_forget 10 = .ok (.aload_n 0, 1) := by decide +kernel
theorem dX1_forget_11 : decode cX1_forget 11 = .ok (.iconst 0, 1) := by decide +kernel
theorem dX1_forget_12 : decode cX1_forget 12 = .ok (.putfield 61, 3) := by decide +kernel
theorem dX1_forget_15 : decode cX1_forget 15 = .ok (.aload_n 0, 1) := by decide +kernel
theorem dX1_forget_16 : decode cX1_forget 16 = .ok (.bipush (-9), 2) := by decide +kernel
theorem dX1_forget_18 : decode cX1_forget 18 = .ok (.putfield 67, 3) := by decide +kernel
theorem dX1_forget_21 : decode cX1_forget 21 = .ok (.aload_n 0, 1) := by decide +kernel
theorem dX1_forget_22 : decode cX1_forget 22 = .ok (.bipush (-9), 2) := by decide +kernel
theorem dX1_forget_24 : decode cX1_forget 24 = .ok (.putfield 70, 3) := by decide +kernel
theorem dX1_forget_27 : decode cX1_forget 27 = .ok (.aload_n 0, 1) := by decide +kernel
theorem dX1_forget_28 : decode cX1_forget 28 = .ok (.getfield 40, 3) := by decide +kernel
theorem dX1_forget_31 : decode cX1_forget 31 = .ok (.iconst 0, 1) := by decide +kernel
theorem dX1_forget_32 : decode cX1_forget 32 = .ok (.invokestatic 99, 3) := by decide +kernel
theorem dX1_forget_35 : decode cX1_forget 35 = .ok (.return_, 1) := by decide +kernel
theorem dX1_goThrough_0 : decode cX1_goThrough 0 = .ok (.aload_n 0, 1) := by decide +kernel
theorem dX1_goThrough_1 : decode cX1_goThrough 1 = .ok (.invokevirtual 73, 3) := by decide +kernel
theorem dX1_goThrough_4 : decode cX1_goThrough 4 = .ok (.aload_n 0, 1) := by decide +kernel
theorem dX1_goThrough_5 : decode cX1_goThrough 5 = .ok (.iconst 0, 1) := by decide +kernel
theorem dX1_goThrough_6 : decode cX1_goThrough 6 = .ok (.bipush (-4), 2) := by decide +kernel
theorem dX1_goThrough_8 : decode cX1_goThrough 8 = .ok (.invokevirtual 76, 3) := by decide +kernel
theorem dX1_goThrough_11 : decode cX1_goThrough 11 = .ok (.pop, 1) := by decide +kernel
theorem dX1_goThrough_12 : decode cX1_goThrough 12 = .ok (.iconst 0, 1) := by decide +kernel
theorem dX1_goThrough_13 : decode cX1_goThrough 13 = .ok (.istore_n 2, 1) := by decide +kernel
theorem dX1_goThrough_14 : decode cX1_goThrough 14 = .ok (.iload_n 2, 1) := by decide +kernel
theorem dX1_goThrough_15 : decode cX1_goThrough 15 = .ok (.sipush 1500, 3) := by decide +kernel
theorem dX1_goThrough_18 : decode cX1_goThrough 18 = .ok (.if_icmp .ge 99, 3) := by decide +kernel
theorem dX1_goThrough_21 : decode cX1_goThrough 21 = .ok (.iload_n 2, 1) := by decide +kernel
theorem dX1_goThrough_22 : decode cX1_goThrough 22 = .ok (.aload_n 0, 1) := by decide +kernel
theorem dX1_goThrough_23 : decode cX1_goThrough 23 = .ok (.getfield 57, 3) := by decide +kernel
theorem dX1_goThrough_26 : decode cX1_goThrough 26 = .ok (.if_icmp .ge 91, 3) := by decide +kernel
theorem dX1_goThrough_29 : decode cX1_goThrough 29 = .ok (.aload_n 0, 1) := by decide +kernel
theorem dX1_goThrough_30 : decode cX1_goThrough 30 = .ok (.iload_n 2, 1) := by decide +kernel
theorem dX1_goThrough_31 : decode cX1_goThrough 31 = .ok (.invokevirtual 80, 3) := by decide +kernel
theorem dX1_goThrough_34 : decode cX1_goThrough 34 = .ok (.aload_n 0, 1) := by decide +kernel
theorem dX1_goThrough_35 : decode cX1_goThrough 35 = .ok (.iload_n 2, 1) := by decide +kernel
theorem dX1_goThrough_36 : decode cX1_goThrough 36 = .ok (.aload_n 1, 1) := by decide +kernel
theorem dX1_goThrough_37 : decode cX1_goThrough 37 = .ok (.invokevirtual 84, 3) := by decide +kernel
theorem dX1_goThrough_40 : decode cX1_goThrough 40 = .ok (.iconst 0, 1) := by decide +kernel
theorem dX1_goThrough_41 : decode cX1_goThrough 41 = .ok (.istore_n 3, 1) := by decide +kernel
theorem dX1_goThrough_42 : decode cX1_goThrough 42 = .ok (.iload_n 3, 1) := by decide +kernel
theorem dX1_goThrough_43 : decode cX1_goThrough 43 = .ok (.bipush 6, 2) := by decide +kernel
theorem dX1_goThrough_45 : decode cX1_goThrough 45 = .ok (.if_icmp .ge 66, 3) := by decide +kernel
theorem dX1_goThrough_48 : decode cX1_goThrough 48 = .ok (.aload_n 0, 1) := by decide +kernel
theorem dX1_goThrough_49 : decode cX1_goThrough 49 = .ok (.getfield 25, 3) := by decide +kernel
theorem dX1_goThrough_52 : decode cX1_goThrough 52 = .ok (.iload_n 2, 1) := by decide +kernel
theorem dX1_goThrough_53 : decode cX1_goThrough 53 = .ok (.bipush 6, 2) := by decide +kernel
theorem dX1_goThrough_55 : decode cX1_goThrough 55 = .ok (.imul, 1) := by decide +kernel
theorem dX1_goThrough_56 : decode cX1_goThrough 56 = .ok (.iload_n 3, 1) := by decide +kernel
theorem dX1_goThrough_57 : decode cX1_goThrough 57 = .ok (.iadd, 1) := by decide +kernel
theorem dX1_goThrough_58 : decode cX1_goThrough 58 = .ok (.bipush (-4), 2) := by decide +kernel
theorem dX1_goThrough_60 : decode cX1_goThrough 60 = .ok (.iastore, 1) := by decide +kernel
theorem dX1_goThrough_61 : decode cX1_goThrough 61 = .ok (.aload_n 0, 1) := by decide +kernel
theorem dX1_goThrough_62 : decode cX1_goThrough 62 = .ok (.getfield 12, 3) := by decide +kernel
theorem dX1_goThrough_65 : decode cX1_goThrough 65 = .ok (.iload_n 3, 1) := by decide +kernel
theorem dX1_goThrough_66 : decode cX1_goThrough 66 = .ok (.invokevirtual 88, 3) := by decide +kernel
theorem dX1_goThrough_69 : decode cX1_goThrough 69 = .ok (.ifCond .ne 6, 3) := by decide +kernel
theorem dX1_goThrough_72 : decode cX1_goThrough 72 = .ok (.goto 33, 3) := by decide +kernel
theorem dX1_goThrough_75 : decode cX1_goThrough 75 = .ok (.aload_n 0, 1) := by decide +kernel
theorem dX1_goThrough_76 : decode cX1_goThrough 76 = .ok (.getfield 12, 3) := by decide +kernel
theorem dX1_goThrough_79 : decode cX1_goThrough 79 = .ok (.iload_n 3, 1) := by decide +kernel
theorem dX1_goThrough_80 : decode cX1_goThrough 80 = .ok (.invokevirtual 92, 3) := by decide +kernel
theorem dX1_goThrough_83 : decode cX1_goThrough 83 = .ok (.aload_n 0, 1) := by decide +kernel
theorem dX1_goThrough_84 : decode cX1_goThrough 84 = .ok (.getfield 25, 3) := by decide +kernel
theorem dX1_goThrough_87 : decode cX1_goThrough 87 = .ok (.iload_n 2, 1) := by decide +kernel
theorem dX1_goThrough_88 : decode cX1_goThrough 88 = .ok (.bipush 6, 2) := by decide +kernel
theorem dX1_goThrough_90 : decode cX1_goThrough 90 = .ok (.imul, 1) := by decide +kernel
theorem dX1_goThrough_91 : decode cX1_goThrough 91 = .ok (.iload_n 3, 1) := by decide +kernel
theorem dX1_goThrough_92 : decode cX1_goThrough 92 = .ok (.iadd, 1) := by decide +kernel
theorem dX1_goThrough_93 : decode cX1_goThrough 93 = .ok (.aload_n 0, 1) := by decide +kernel
theorem dX1_goThrough_94 : decode cX1_goThrough 94 = .ok (.iload_n 2, 1) := by decide +kernel
theorem dX1_goThrough_95 : decode cX1_goThrough 95 = .ok (.iload_n 3, 1) := by decide +kernel
theorem dX1_goThrough_96 : decode cX1_goThrough 96 = .ok (.invokevirtual 76, 3) := by decide +kernel
theorem dX1_goThrough_99 : decode cX1_goThrough 99 = .ok (.iastore, 1) := by decide +kernel
theorem dX1_goThrough_100 : decode cX1_goThrough 100 = .ok (.aload_n 0, 1) := by decide +kernel
theorem dX1_goThrough_101 : decode cX1_goThrough 101 = .ok (.iload_n 2, 1) := by decide +kernel
theorem dX1_goThrough_102 : decode cX1_goThrough 102 = .ok (.invokevirtual 80, 3) := by decide +kernel
theorem dX1_goThrough_105 : decode cX1_goThrough 105 = .ok (.iinc 3 1, 3) := by decide +kernel
theorem dX1_goThrough_108 : decode cX1_goThrough 108 = .ok (.goto (-66), 3) := by decide +kernel
theorem dX1_goThrough_111 : decode cX1_goThrough 111 = .ok (.iinc 2 1, 3) := by decide +kernel
theorem dX1_goThrough_114 : decode cX1_goThrough 114 = .ok (.goto (-100), 3) := by decide +kernel
theorem dX1_goThrough_117 : decode cX1_goThrough 117 = .ok (.aload_n 0, 1) := by decide +kernel
theorem dX1_goThrough_118 : decode cX1_goThrough 118 = .ok (.aload_n 0, 1) := by decide +kernel
theorem dX1_goThrough_119 : decode cX1_goThrough 119 = .ok (.invokevirtual 95, 3) := by decide +kernel
theorem dX1_goThrough_122 : decode cX1_goThrough 122 = .ok (.putfield 64, 3) := by decide +kernel
theorem dX1_goThrough_125 : decode cX1_goThrough 125 = .ok (.return_, 1) := by decide +kernel
theorem dX1_hasSameAnswers_0 : decode cX1_hasSameAnswers 0 = .ok (.iload_n 1, 1) := by decide +kernel
theorem dX1_hasSameAnswers_1 : decode cX1_hasSameAnswers 1 = .ok (.bipush 100, 2) := by decide +kernel
theorem dX1_hasSameAnswers_3 : decode cX1_hasSameAnswers 3 = .ok (.imul, 1) := by decide +kernel
theorem dX1_hasSameAnswers_4 : decode cX1_hasSameAnswers 4 = .ok (.bipush 28, 2) := by decide +kernel
theorem dX1_hasSameAnswers_6 : decode cX1_hasSameAnswers 6 = .ok (.iadd, 1) := by decide +kernel
theorem dX1_hasSameAnswers_7 : decode cX1_hasSameAnswers 7 = .ok (.istore_n 3, 1) := by decide +kernel
theorem dX1_hasSameAnswers_8 : decode cX1_hasSameAnswers 8 = .ok (.iconst 0, 1) := by decide +kernel
theorem dX1_hasSameAnswers_9 : decode cX1_hasSameAnswers 9 = .ok (.istore 4, 2) := by decide +kernel
theorem dX1_hasSameAnswers_11 : decode cX1_hasSameAnswers 11 = .ok (.iload 4, 2) := by decide +kernel
theorem dX1_hasSameAnswers_13 : decode cX1_hasSameAnswers 13 = .ok (.bipush 9, 2) := by decide +kernel
theorem dX1_hasSameAnswers_15 : decode cX1_hasSameAnswers 15 = .ok (.if_icmp .ge 32, 3) := by decide +kernel
theorem dX1_hasSameAnswers_18 : decode cX1_hasSameAnswers 18 = .ok (.aload_n 0, 1) := by decide +kernel
theorem dX1_hasSameAnswers_19 : decode cX1_hasSameAnswers 19 = .ok (.getfield 21, 3) := by decide +kernel
theorem dX1_hasSameAnswers_22 : decode cX1_hasSameAnswers 22 = .ok (.iload_n 3, 1) := by decide +kernel
theorem dX1_hasSameAnswers_23 : decode cX1_hasSameAnswers 23 = .ok (.iload 4, 2) := by decide +kernel
theorem dX1_hasSameAnswers_25 : decode cX1_hasSameAnswers 25 = .ok (.iadd, 1) := by decide +kernel
theorem dX1_hasSameAnswers_26 : decode cX1_hasSameAnswers 26 = .ok (.iaload, 1) := by decide +kernel
theorem dX1_hasSameAnswers_27 : decode cX1_hasSameAnswers 27 = .ok (.aload_n 0, 1) := by decide +kernel
theorem dX1_hasSameAnswers_28 : decode cX1_hasSameAnswers 28 = .ok (.getfield 21, 3) := by decide +kernel
theorem dX1_hasSameAnswers_31 : decode cX1_hasSameAnswers 31 = .ok (.iload_n 2, 1) := by decide +kernel
theorem dX1_hasSameAnswers_32 : decode cX1_hasSameAnswers 32 = .ok (.iload 4, 2) := by decide +kernel
theorem dX1_hasSameAnswers_34 : decode cX1_hasSameAnswers 34 = .ok (.iadd, 1) := by decide +kernel
theorem dX1_hasSameAnswers_35 : decode cX1_hasSameAnswers 35 = .ok (.iaload, 1) := by decide +kernel
theorem dX1_hasSameAnswers_36 : decode cX1_hasSameAnswers 36 = .ok (.if_icmp .eq 5, 3) := by decide +kernel
theorem dX1_hasSameAnswers_39 : decode cX1_hasSameAnswers 39 = .ok (.iconst 0, 1) := by decide +kernel
theorem dX1_hasSameAnswers_40 : decode cX1_hasSameAnswers 40 = .ok (.ireturn, 1) := by decide +kernel
theorem dX1_hasSameAnswers_41 : decode cX1_hasSameAnswers 41 = .ok (.iinc 4 1, 3) := by decide +kernel
theorem dX1_hasSameAnswers_44 : decode cX1_hasSameAnswers 44 = .ok (.goto (-33), 3) := by decide +kernel
theorem dX1_hasSameAnswers_47 : decode cX1_hasSameAnswers 47 = .ok (.iconst 1, 1) := by decide +kernel
theorem dX1_hasSameAnswers_48 : decode cX1_hasSameAnswers 48 = .ok (.ireturn, 1) := by decide +kernel
theorem dX1_isKept_0 : decode cX1_isKept 0 = .ok (.aload_n 0, 1) := by decide +kernel
theorem dX1_isKept_1 : decode cX1_isKept 1 = .ok (.getfield 50, 3) := by decide +kernel
theorem dX1_isKept_4 : decode cX1_isKept 4 = .ok (.ifCond .eq 19, 3) := by decide +kernel
theorem dX1_isKept_7 : decode cX1_isKept 7 = .ok (.iload_n 1, 1) := by decide +kernel
theorem dX1_isKept_8 : decode cX1_isKept 8 = .ok (.ifCond .lt 15, 3) := by decide +kernel
theorem dX1_isKept_11 : decode cX1_isKept 11 = .ok (.iload_n 1, 1) := by decide +kernel
theorem dX1_isKept_12 : decode cX1_isKept 12 = .ok (.aload_n 0, 1) := by decide +kernel
theorem dX1_isKept_13 : decode cX1_isKept 13 = .ok (.getfield 57, 3) := by decide +kernel
theorem dX1_isKept_16 : decode cX1_isKept 16 = .ok (.if_icmp .ge 7, 3) := by decide +kernel
theorem dX1_isKept_19 : decode cX1_isKept 19 = .ok (.iconst 1, 1) := by decide +kernel
theorem dX1_isKept_20 : decode cX1_isKept 20 = .ok (.goto 4, 3) := by decide +kernel
theorem dX1_isKept_23 : decode cX1_isKept 23 = .ok (.iconst 0, 1) := by decide +kernel
theorem dX1_isKept_24 : decode cX1_isKept 24 = .ok (.ireturn, 1) := by decide +kernel
theorem dX1_isNewResult_0 : decode cX1_isNewResult 0 = .ok (.iload_n 1, 1) := by decide +kernel
theorem dX1_isNewResult_1 : decode cX1_isNewResult 1 = .ok (.bipush 100, 2) := by decide +kernel
theorem dX1_isNewResult_3 : decode cX1_isNewResult 3 = .ok (.imul, 1) := by decide +kernel
theorem dX1_isNewResult_4 : decode cX1_isNewResult 4 = .ok (.bipush 28, 2) := by decide +kernel
theorem dX1_isNewResult_6 : decode cX1_isNewResult 6 = .ok (.iadd, 1) := by decide +kernel
theorem dX1_isNewResult_7 : decode cX1_isNewResult 7 = .ok (.istore_n 2, 1) := by decide +kernel
theorem dX1_isNewResult_8 : decode cX1_isNewResult 8 = .ok (.iconst 0, 1) := by decide +kernel
theorem dX1_isNewResult_9 : decode cX1_isNewResult 9 = .ok (.istore_n 3, 1) := by decide +kernel
theorem dX1_isNewResult_10 : decode cX1_isNewResult 10 = .ok (.iconst 0, 1) := by decide +kernel
theorem dX1_isNewResult_11 : decode cX1_isNewResult 11 = .ok (.istore 4, 2) := by decide +kernel
theorem dX1_isNewResult_13 : decode cX1_isNewResult 13 = .ok (.iload 4, 2) := by decide +kernel
theorem dX1_isNewResult_15 : decode cX1_isNewResult 15 = .ok (.bipush 9, 2) := by decide +kernel
theorem dX1_isNewResult_17 : decode cX1_isNewResult 17 = .ok (.if_icmp .ge 25, 3) := by decide +kernel
theorem dX1_isNewResult_20 : decode cX1_isNewResult 20 = .ok (.iload_n 3, 1) := by decide +kernel
theorem dX1_isNewResult_21 : decode cX1_isNewResult 21 = .ok (.sipush 211, 3) := by decide +kernel
theorem dX1_isNewResult_24 : decode cX1_isNewResult 24 = .ok (.imul, 1) := by decide +kernel
theorem dX1_isNewResult_25 : decode cX1_isNewResult 25 = .ok (.aload_n 0, 1) := by decide +kernel
theorem dX1_isNewResult_26 : decode cX1_isNewResult 26 = .ok (.getfield 21, 3) := by decide +kernel
theorem dX1_isNewResult_29 : decode cX1_isNewResult 29 = .ok (.iload_n 2, 1) := by decide +kernel
theorem dX1_isNewResult_30 : decode cX1_isNewResult 30 = .ok (.iload 4, 2) := by decide +kernel
theorem dX1_isNewResult_32 : decode cX1_isNewResult 32 = .ok (.iadd, 1) := by decide +kernel
theorem dX1_isNewResult_33 : decode cX1_isNewResult 33 = .ok (.iaload, 1) := by decide +kernel
theorem dX1_isNewResult_34 : decode cX1_isNewResult 34 = .ok (.iadd, 1) := by decide +kernel
theorem dX1_isNewResult_35 : decode cX1_isNewResult 35 = .ok (.istore_n 3, 1) := by decide +kernel
theorem dX1_isNewResult_36 : decode cX1_isNewResult 36 = .ok (.iinc 4 1, 3) := by decide +kernel
theorem dX1_isNewResult_39 : decode cX1_isNewResult 39 = .ok (.goto (-26), 3) := by decide +kernel
theorem dX1_isNewResult_42 : decode cX1_isNewResult 42 = .ok (.iload_n 3, 1) := by decide +kernel
theorem dX1_isNewResult_43 : decode cX1_isNewResult 43 = .ok (.ldc 117, 2) := by decide +kernel
theorem dX1_isNewResult_45 : decode cX1_isNewResult 45 = .ok (.imul, 1) := by decide +kernel
theorem dX1_isNewResult_46 : decode cX1_isNewResult 46 = .ok (.bipush 20, 2) := by decide +kernel
theorem dX1_isNewResult_48 : decode cX1_isNewResult 48 = .ok (.iushr, 1) := by decide +kernel
theorem dX1_isNewResult_49 : decode cX1_isNewResult 49 = .ok (.istore 4, 2) := by decide +kernel
theorem dX1_isNewResult_51 : decode cX1_isNewResult 51 = .ok (.iconst 0, 1) := by decide +kernel
theorem dX1_isNewResult_52 : decode cX1_isNewResult 52 = .ok (.istore 5, 2) := by decide +kernel
theorem dX1_isNewResult_54 : decode cX1_isNewResult 54 = .ok (.iload 5, 2) := by decide +kernel
theorem dX1_isNewResult_56 : decode cX1_isNewResult 56 = .ok (.sipush 4096, 3) := by decide +kernel
theorem dX1_isNewResult_59 : decode cX1_isNewResult 59 = .ok (.if_icmp .ge 48, 3) := by decide +kernel
theorem dX1_isNewResult_62 : decode cX1_isNewResult 62 = .ok (.aload_n 0, 1) := by decide +kernel
theorem dX1_isNewResult_63 : decode cX1_isNewResult 63 = .ok (.getfield 40, 3) := by decide +kernel
theorem dX1_isNewResult_66 : decode cX1_isNewResult 66 = .ok (.iload 4, 2) := by decide +kernel
theorem dX1_isNewResult_68 : decode cX1_isNewResult 68 = .ok (.iaload, 1) := by decide +kernel
theorem dX1_isNewResult_69 : decode cX1_isNewResult 69 = .ok (.ifCond .eq 38, 3) := by decide +kernel
theorem dX1_isNewResult_72 : decode cX1_isNewResult 72 = .ok (.aload_n 0, 1) := by decide +kernel
theorem dX1_isNewResult_73 : decode cX1_isNewResult 73 = .ok (.aload_n 0, 1) := by decide +kernel
theorem dX1_isNewResult_74 : decode cX1_isNewResult 74 = .ok (.getfield 40, 3) := by decide +kernel
theorem dX1_isNewResult_77 : decode cX1_isNewResult 77 = .ok (.iload 4, 2) := by decide +kernel
theorem dX1_isNewResult_79 : decode cX1_isNewResult 79 = .ok (.iaload, 1) := by decide +kernel
theorem dX1_isNewResult_80 : decode cX1_isNewResult 80 = .ok (.iconst 1, 1) := by decide +kernel
theorem dX1_isNewResult_81 : decode cX1_isNewResult 81 = .ok (.isub, 1) := by decide +kernel
theorem dX1_isNewResult_82 : decode cX1_isNewResult 82 = .ok (.iload_n 2, 1) := by decide +kernel
theorem dX1_isNewResult_83 : decode cX1_isNewResult 83 = .ok (.invokevirtual 187, 3) := by decide +kernel
theorem dX1_isNewResult_86 : decode cX1_isNewResult 86 = .ok (.ifCond .eq 5, 3) := by decide +kernel
theorem dX1_isNewResult_89 : decode cX1_isNewResult 89 = .ok (.iconst 0, 1) := by decide +kernel
theorem dX1_isNewResult_90 : decode cX1_isNewResult 90 = .ok (.ireturn, 1) := by decide +kernel
theorem dX1_isNewResult_91 : decode cX1_isNewResult 91 = .ok (.iload 4, 2) := by decide +kernel
theorem dX1_isNewResult_93 : decode cX1_isNewResult 93 = .ok (.iconst 1, 1) := by decide +kernel
theorem dX1_isNewResult_94 : decode cX1_isNewResult 94 = .ok (.iadd, 1) := by decide +kernel
theorem dX1_isNewResult_95 : decode cX1_isNewResult 95 = .ok (.sipush 4095, 3) := by decide +kernel
theorem dX1_isNewResult_98 : decode cX1_isNewResult 98 = .ok (.iand, 1) := by decide +kernel
theorem dX1_isNewResult_99 : decode cX1_isNewResult 99 = .ok (.istore 4, 2) := by decide +kernel
theorem dX1_isNewResult_101 : decode cX1_isNewResult 101 = .ok (.iinc 5 1, 3) := by decide +kernel
theorem dX1_isNewResult_104 : decode cX1_isNewResult 104 = .ok (.goto (-50), 3) := by decide +kernel
theorem dX1_isNewResult_107 : decode cX1_isNewResult 107 = .ok (.aload_n 0, 1) := by decide +kernel
theorem dX1_isNewResult_108 : decode cX1_isNewResult 108 = .ok (.getfield 40, 3) := by decide +kernel
theorem dX1_isNewResult_111 : decode cX1_isNewResult 111 = .ok (.iload 4, 2) := by decide +kernel
theorem dX1_isNewResult_113 : decode cX1_isNewResult 113 = .ok (.iload_n 1, 1) := by decide +kernel
theorem dX1_isNewResult_114 : decode cX1_isNewResult 114 = .ok (.iconst 1, 1) := by decide +kernel
theorem dX1_isNewResult_115 : decode cX1_isNewResult 115 = .ok (.iadd, 1) := by decide +kernel
theorem dX1_isNewResult_116 : decode cX1_isNewResult 116 = .ok (.iastore, 1) := by decide +kernel
theorem dX1_isNewResult_117 : decode cX1_isNewResult 117 = .ok (.iconst 1, 1) := by decide +kernel
theorem dX1_isNewResult_118 : decode cX1_isNewResult 118 = .ok (.ireturn, 1) := by decide +kernel
theorem dX1_isSame_0 : decode cX1_isSame 0 = .ok (.iload_n 1, 1) := by decide +kernel
theorem dX1_isSame_1 : decode cX1_isSame 1 = .ok (.bipush 100, 2) := by decide +kernel
theorem dX1_isSame_3 : decode cX1_isSame 3 = .ok (.imul, 1) := by decide +kernel
theorem dX1_isSame_4 : decode cX1_isSame 4 = .ok (.istore_n 2, 1) := by decide +kernel
theorem dX1_isSame_5 : decode cX1_isSame 5 = .ok (.iconst 0, 1) := by decide +kernel
theorem dX1_isSame_6 : decode cX1_isSame 6 = .ok (.istore_n 3, 1) := by decide +kernel
theorem dX1_isSame_7 : decode cX1_isSame 7 = .ok (.iload_n 3, 1) := by decide +kernel
theorem dX1_isSame_8 : decode cX1_isSame 8 = .ok (.bipush 100, 2) := by decide +kernel
theorem dX1_isSame_10 : decode cX1_isSame 10 = .ok (.if_icmp .ge 31, 3) := by decide +kernel
theorem dX1_isSame_13 : decode cX1_isSame 13 = .ok (.aload_n 0, 1) := by decide +kernel
theorem dX1_isSame_14 : decode cX1_isSame 14 = .ok (.getfield 21, 3) := by decide +kernel
theorem dX1_isSame_17 : decode cX1_isSame 17 = .ok (.iload_n 2, 1) := by decide +kernel
theorem dX1_isSame_18 : decode cX1_isSame 18 = .ok (.iload_n 3, 1) := by decide +kernel
theorem dX1_isSame_19 : decode cX1_isSame 19 = .ok (.iadd, 1) := by decide +kernel
theorem dX1_isSame_20 : decode cX1_isSame 20 = .ok (.iaload, 1) := by decide +kernel
theorem dX1_isSame_21 : decode cX1_isSame 21 = .ok (.aload_n 0, 1) := by decide +kernel
theorem dX1_isSame_22 : decode cX1_isSame 22 = .ok (.getfield 12, 3) := by decide +kernel
theorem dX1_isSame_25 : decode cX1_isSame 25 = .ok (.getfield 105, 3) := by decide +kernel
theorem dX1_isSame_28 : decode cX1_isSame 28 = .ok (.iload_n 3, 1) := by decide +kernel
theorem dX1_isSame_29 : decode cX1_isSame 29 = .ok (.iaload, 1) := by decide +kernel
theorem dX1_isSame_30 : decode cX1_isSame 30 = .ok (.if_icmp .eq 5, 3) := by decide +kernel
theorem dX1_isSame_33 : decode cX1_isSame 33 = .ok (.iconst 0, 1) := by decide +kernel
theorem dX1_isSame_34 : decode cX1_isSame 34 = .ok (.ireturn, 1) := by decide +kernel
theorem dX1_isSame_35 : decode cX1_isSame 35 = .ok (.iinc 3 1, 3) := by decide +kernel
theorem dX1_isSame_38 : decode cX1_isSame 38 = .ok (.goto (-31), 3) := by decide +kernel
theorem dX1_isSame_41 : decode cX1_isSame 41 = .ok (.iconst 1, 1) := by decide +kernel
theorem dX1_isSame_42 : decode cX1_isSame 42 = .ok (.ireturn, 1) := by decide +kernel
theorem dX1_isWithinCall_0 : decode cX1_isWithinCall 0 = .ok (.iload_n 1, 1) := by decide +kernel
theorem dX1_isWithinCall_1 : decode cX1_isWithinCall 1 = .ok (.bipush 100, 2) := by decide +kernel
theorem dX1_isWithinCall_3 : decode cX1_isWithinCall 3 = .ok (.imul, 1) := by decide +kernel
theorem dX1_isWithinCall_4 : decode cX1_isWithinCall 4 = .ok (.iload_n 2, 1) := by decide +kernel
theorem dX1_isWithinCall_5 : decode cX1_isWithinCall 5 = .ok (.invokestatic 177, 3) := by decide +kernel
theorem dX1_isWithinCall_8 : decode cX1_isWithinCall 8 = .ok (.iadd, 1) := by decide +kernel
theorem dX1_isWithinCall_9 : decode cX1_isWithinCall 9 = .ok (.istore_n 3, 1) := by decide +kernel
theorem dX1_isWithinCall_10 : decode cX1_isWithinCall 10 = .ok (.aload_n 0, 1) := by decide +kernel
theorem dX1_isWithinCall_11 : decode cX1_isWithinCall 11 = .ok (.getfield 21, 3) := by decide +kernel
theorem dX1_isWithinCall_14 : decode cX1_isWithinCall 14 = .ok (.iload_n 3, 1) := by decide +kernel
theorem dX1_isWithinCall_15 : decode cX1_isWithinCall 15 = .ok (.bipush 11, 2) := by decide +kernel
theorem dX1_isWithinCall_17 : decode cX1_isWithinCall 17 = .ok (.iadd, 1) := by decide +kernel
theorem dX1_isWithinCall_18 : decode cX1_isWithinCall 18 = .ok (.iaload, 1) := by decide +kernel
theorem dX1_isWithinCall_19 : decode cX1_isWithinCall 19 = .ok (.ifCond .eq 19, 3) := by decide +kernel
theorem dX1_isWithinCall_22 : decode cX1_isWithinCall 22 = .ok (.aload_n 0, 1) := by decide +kernel
theorem dX1_isWithinCall_23 : decode cX1_isWithinCall 23 = .ok (.getfield 21, 3) := by decide +kernel
theorem dX1_isWithinCall_26 : decode cX1_isWithinCall 26 = .ok (.iload_n 3, 1) := by decide +kernel
theorem dX1_isWithinCall_27 : decode cX1_isWithinCall 27 = .ok (.bipush 12, 2) := by decide +kernel
theorem dX1_isWithinCall_29 : decode cX1_isWithinCall 29 = .ok (.iadd, 1) := by decide +kernel
theorem dX1_isWithinCall_30 : decode cX1_isWithinCall 30 = .ok (.iaload, 1) := by decide +kernel
theorem dX1_isWithinCall_31 : decode cX1_isWithinCall 31 = .ok (.ifCond .ne 7, 3) := by decide +kernel
theorem dX1_isWithinCall_34 : decode cX1_isWithinCall 34 = .ok (.iconst 1, 1) := by decide +kernel
theorem dX1_isWithinCall_35 : decode cX1_isWithinCall 35 = .ok (.goto 4, 3) := by decide +kernel
theorem dX1_isWithinCall_38 : decode cX1_isWithinCall 38 = .ok (.iconst 0, 1) := by decide +kernel
theorem dX1_isWithinCall_39 : decode cX1_isWithinCall 39 = .ok (.ireturn, 1) := by decide +kernel
theorem dX1_keep_0 : decode cX1_keep 0 = .ok (.aload_n 0, 1) := by decide +kernel
theorem dX1_keep_1 : decode cX1_keep 1 = .ok (.invokevirtual 114, 3) := by decide +kernel
theorem dX1_keep_4 : decode cX1_keep 4 = .ok (.istore_n 3, 1) := by decide +kernel
theorem dX1_keep_5 : decode cX1_keep 5 = .ok (.aload_n 0, 1) := by decide +kernel
theorem dX1_keep_6 : decode cX1_keep 6 = .ok (.getfield 40, 3) := by decide +kernel
theorem dX1_keep_9 : decode cX1_keep 9 = .ok (.iload_n 3, 1) := by decide +kernel
theorem dX1_keep_10 : decode cX1_keep 10 = .ok (.iaload, 1) := by decide +kernel
theorem dX1_keep_11 : decode cX1_keep 11 = .ok (.ifCond .eq 12, 3) := by decide +kernel
theorem dX1_keep_14 : decode cX1_keep 14 = .ok (.aload_n 0, 1) := by decide +kernel
theorem dX1_keep_15 : decode cX1_keep 15 = .ok (.getfield 40, 3) := by decide +kernel
theorem dX1_keep_18 : decode cX1_keep 18 = .ok (.iload_n 3, 1) := by decide +kernel
theorem dX1_keep_19 : decode cX1_keep 19 = .ok (.iaload, 1) := by decide +kernel
theorem dX1_keep_20 : decode cX1_keep 20 = .ok (.iconst 1, 1) := by decide +kernel
theorem dX1_keep_21 : decode cX1_keep 21 = .ok (.isub, 1) := by decide +kernel
theorem dX1_keep_22 : decode cX1_keep 22 = .ok (.ireturn, 1) := by decide +kernel
theorem dX1_keep_23 : decode cX1_keep 23 = .ok (.aload_n 0, 1) := by decide +kernel
theorem dX1_keep_24 : decode cX1_keep 24 = .ok (.getfield 57, 3) := by decide +kernel
theorem dX1_keep_27 : decode cX1_keep 27 = .ok (.sipush 1500, 3) := by decide +kernel
theorem dX1_keep_30 : decode cX1_keep 30 = .ok (.if_icmp .lt 11, 3) := by decide +kernel
theorem dX1_keep_33 : decode cX1_keep 33 = .ok (.aload_n 0, 1) := by decide +kernel
theorem dX1_keep_34 : decode cX1_keep 34 = .ok (.iconst 1, 1) := by decide +kernel
theorem dX1_keep_35 : decode cX1_keep 35 = .ok (.putfield 54, 3) := by decide +kernel
theorem dX1_keep_38 : decode cX1_keep 38 = .ok (.bipush (-4), 2) := by decide +kernel
theorem dX1_keep_40 : decode cX1_keep 40 = .ok (.ireturn, 1) := by decide +kernel
theorem dX1_keep_41 : decode cX1_keep 41 = .ok (.aload_n 0, 1) := by decide +kernel
theorem dX1_keep_42 : decode cX1_keep 42 = .ok (.getfield 12, 3) := by decide +kernel
theorem dX1_keep_45 : decode cX1_keep 45 = .ok (.getfield 105, 3) := by decide +kernel
theorem dX1_keep_48 : decode cX1_keep 48 = .ok (.iconst 0, 1) := by decide +kernel
theorem dX1_keep_49 : decode cX1_keep 49 = .ok (.aload_n 0, 1) := by decide +kernel
theorem dX1_keep_50 : decode cX1_keep 50 = .ok (.getfield 21, 3) := by decide +kernel
theorem dX1_keep_53 : decode cX1_keep 53 = .ok (.aload_n 0, 1) := by decide +kernel
theorem dX1_keep_54 : decode cX1_keep 54 = .ok (.getfield 57, 3) := by decide +kernel
theorem dX1_keep_57 : decode cX1_keep 57 = .ok (.bipush 100, 2) := by decide +kernel
theorem dX1_keep_59 : decode cX1_keep 59 = .ok (.imul, 1) := by decide +kernel
theorem dX1_keep_60 : decode cX1_keep 60 = .ok (.bipush 100, 2) := by decide +kernel
theorem dX1_keep_62 : decode cX1_keep 62 = .ok (.invokestatic 108, 3) := by decide +kernel
theorem dX1_keep_65 : decode cX1_keep 65 = .ok (.aload_n 0, 1) := by decide +kernel
theorem dX1_keep_66 : decode cX1_keep 66 = .ok (.getfield 28, 3) := by decide +kernel
theorem dX1_keep_69 : decode cX1_keep 69 = .ok (.aload_n 0, 1) := by decide +kernel
theorem dX1_keep_70 : decode cX1_keep 70 = .ok (.getfield 57, 3) := by decide +kernel
theorem dX1_keep_73 : decode cX1_keep 73 = .ok (.iload_n 1, 1) := by decide +kernel
theorem dX1_keep_74 : decode cX1_keep 74 = .ok (.iastore, 1) := by decide +kernel
theorem dX1_keep_75 : decode cX1_keep 75 = .ok (.aload_n 0, 1) := by decide +kernel
theorem dX1_keep_76 : decode cX1_keep 76 = .ok (.getfield 31, 3) := by decide +kernel
theorem dX1_keep_79 : decode cX1_keep 79 = .ok (.aload_n 0, 1) := by decide +kernel
theorem dX1_keep_80 : decode cX1_keep 80 = .ok (.getfield 57, 3) := by decide +kernel
theorem dX1_keep_83 : decode cX1_keep 83 = .ok (.iload_n 2, 1) := by decide +kernel
theorem dX1_keep_84 : decode cX1_keep 84 = .ok (.iastore, 1) := by decide +kernel
theorem dX1_keep_85 : decode cX1_keep 85 = .ok (.aload_n 0, 1) := by decide +kernel
theorem dX1_keep_86 : decode cX1_keep 86 = .ok (.getfield 34, 3) := by decide +kernel
theorem dX1_keep_89 : decode cX1_keep 89 = .ok (.aload_n 0, 1) := by decide +kernel
theorem dX1_keep_90 : decode cX1_keep 90 = .ok (.getfield 57, 3) := by decide +kernel
theorem dX1_keep_93 : decode cX1_keep 93 = .ok (.iload_n 2, 1) := by decide +kernel
theorem dX1_keep_94 : decode cX1_keep 94 = .ok (.bipush (-4), 2) := by decide +kernel
theorem dX1_keep_96 : decode cX1_keep 96 = .ok (.if_icmp .ne 7, 3) := by decide +kernel
theorem dX1_keep_99 : decode cX1_keep 99 = .ok (.iconst 0, 1) := by decide +kernel
theorem dX1_keep_100 : decode cX1_keep 100 = .ok (.goto 11, 3) := by decide +kernel
theorem dX1_keep_103 : decode cX1_keep 103 = .ok (.aload_n 0, 1) := by decide +kernel
theorem dX1_keep_104 : decode cX1_keep 104 = .ok (.getfield 34, 3) := by decide +kernel
theorem dX1_keep_107 : decode cX1_keep 107 = .ok (.iload_n 1, 1) := by decide +kernel
theorem dX1_keep_108 : decode cX1_keep 108 = .ok (.iaload, 1) := by decide +kernel
theorem dX1_keep_109 : decode cX1_keep 109 = .ok (.iconst 1, 1) := by decide +kernel
theorem dX1_keep_110 : decode cX1_keep 110 = .ok (.iadd, 1) := by decide +kernel
theorem dX1_keep_111 : decode cX1_keep 111 = .ok (.iastore, 1) := by decide +kernel
theorem dX1_keep_112 : decode cX1_keep 112 = .ok (.aload_n 0, 1) := by decide +kernel
theorem dX1_keep_113 : decode cX1_keep 113 = .ok (.dup, 1) := by decide +kernel
theorem dX1_keep_114 : decode cX1_keep 114 = .ok (.getfield 57, 3) := by decide +kernel
theorem dX1_keep_117 : decode cX1_keep 117 = .ok (.iconst 1, 1) := by decide +kernel
theorem dX1_keep_118 : decode cX1_keep 118 = .ok (.iadd, 1) := by decide +kernel
theorem dX1_keep_119 : decode cX1_keep 119 = .ok (.putfield 57, 3) := by decide +kernel
theorem dX1_keep_122 : decode cX1_keep 122 = .ok (.aload_n 0, 1) := by decide +kernel
theorem dX1_keep_123 : decode cX1_keep 123 = .ok (.getfield 40, 3) := by decide +kernel
theorem dX1_keep_126 : decode cX1_keep 126 = .ok (.iload_n 3, 1) := by decide +kernel
theorem dX1_keep_127 : decode cX1_keep 127 = .ok (.aload_n 0, 1) := by decide +kernel
theorem dX1_keep_128 : decode cX1_keep 128 = .ok (.getfield 57, 3) := by decide +kernel
theorem dX1_keep_131 : decode cX1_keep 131 = .ok (.iastore, 1) := by decide +kernel
theorem dX1_keep_132 : decode cX1_keep 132 = .ok (.aload_n 0, 1) := by decide +kernel
theorem dX1_keep_133 : decode cX1_keep 133 = .ok (.getfield 57, 3) := by decide +kernel
theorem dX1_keep_136 : decode cX1_keep 136 = .ok (.iconst 1, 1) := by decide +kernel
theorem dX1_keep_137 : decode cX1_keep 137 = .ok (.isub, 1) := by decide +kernel
theorem dX1_keep_138 : decode cX1_keep 138 = .ok (.ireturn, 1) := by decide +kernel
theorem dX1_load_0 : decode cX1_load 0 = .ok (.aload_n 0, 1) := by decide +kernel
theorem dX1_load_1 : decode cX1_load 1 = .ok (.getfield 21, 3) := by decide +kernel
theorem dX1_load_4 : decode cX1_load 4 = .ok (.iload_n 1, 1) := by decide +kernel
theorem dX1_load_5 : decode cX1_load 5 = .ok (.bipush 100, 2) := by decide +kernel
theorem dX1_load_7 : decode cX1_load 7 = .ok (.imul, 1) := by decide +kernel
theorem dX1_load_8 : decode cX1_load 8 = .ok (.aload_n 0, 1) := by decide +kernel
theorem dX1_load_9 : decode cX1_load 9 = .ok (.getfield 12, 3) := by decide +kernel
theorem dX1_load_12 : decode cX1_load 12 = .ok (.getfield 105, 3) := by decide +kernel
theorem dX1_load_15 : decode cX1_load 15 = .ok (.iconst 0, 1) := by decide +kernel
theorem dX1_load_16 : decode cX1_load 16 = .ok (.bipush 100, 2) := by decide +kernel
theorem dX1_load_18 : decode cX1_load 18 = .ok (.invokestatic 108, 3) := by decide +kernel
theorem dX1_load_21 : decode cX1_load 21 = .ok (.return_, 1) := by decide +kernel
theorem dX1_stateInCycle_0 : decode cX1_stateInCycle 0 = .ok (.aload_n 0, 1) := by decide +kernel
theorem dX1_stateInCycle_1 : decode cX1_stateInCycle 1 = .ok (.getfield 70, 3) := by decide +kernel
theorem dX1_stateInCycle_4 : decode cX1_stateInCycle 4 = .ok (.bipush (-9), 2) := by decide +kernel
theorem dX1_stateInCycle_6 : decode cX1_stateInCycle 6 = .ok (.if_icmp .ne 22, 3) := by decide +kernel
theorem dX1_stateInCycle_9 : decode cX1_stateInCycle 9 = .ok (.aload_n 0, 1) := by decide +kernel
theorem dX1_stateInCycle_10 : decode cX1_stateInCycle 10 = .ok (.aload_n 0, 1) := by decide +kernel
theorem dX1_stateInCycle_11 : decode cX1_stateInCycle 11 = .ok (.getfield 46, 3) := by decide +kernel
theorem dX1_stateInCycle_14 : decode cX1_stateInCycle 14 = .ok (.aload_n 0, 1) := by decide +kernel
theorem dX1_stateInCycle_15 : decode cX1_stateInCycle 15 = .ok (.getfield 25, 3) := by decide +kernel
theorem dX1_stateInCycle_18 : decode cX1_stateInCycle 18 = .ok (.aload_n 0, 1) := by decide +kernel
theorem dX1_stateInCycle_19 : decode cX1_stateInCycle 19 = .ok (.getfield 57, 3) := by decide +kernel
theorem dX1_stateInCycle_22 : decode cX1_stateInCycle 22 = .ok (.invokevirtual 180, 3) := by decide +kernel
theorem dX1_stateInCycle_25 : decode cX1_stateInCycle 25 = .ok (.putfield 70, 3) := by decide +kernel
theorem dX1_stateInCycle_28 : decode cX1_stateInCycle 28 = .ok (.aload_n 0, 1) := by decide +kernel
theorem dX1_stateInCycle_29 : decode cX1_stateInCycle 29 = .ok (.getfield 70, 3) := by decide +kernel
theorem dX1_stateInCycle_32 : decode cX1_stateInCycle 32 = .ok (.ireturn, 1) := by decide +kernel
theorem dX1_stuckState_0 : decode cX1_stuckState 0 = .ok (.aload_n 0, 1) := by decide +kernel
theorem dX1_stuckState_1 : decode cX1_stuckState 1 = .ok (.getfield 67, 3) := by decide +kernel
theorem dX1_stuckState_4 : decode cX1_stuckState 4 = .ok (.bipush (-9), 2) := by decide +kernel
theorem dX1_stuckState_6 : decode cX1_stuckState 6 = .ok (.if_icmp .eq 8, 3) := by decide +kernel
theorem dX1_stuckState_9 : decode cX1_stuckState 9 = .ok (.aload_n 0, 1) := by decide +kernel
theorem dX1_stuckState_10 : decode cX1_stuckState 10 = .ok (.getfield 67, 3) := by decide +kernel
theorem dX1_stuckState_13 : decode cX1_stuckState 13 = .ok (.ireturn, 1) := by decide +kernel
theorem dX1_stuckState_14 : decode cX1_stuckState 14 = .ok (.aload_n 0, 1) := by decide +kernel
theorem dX1_stuckState_15 : decode cX1_stuckState 15 = .ok (.bipush (-4), 2) := by decide +kernel
theorem dX1_stuckState_17 : decode cX1_stuckState 17 = .ok (.putfield 67, 3) := by decide +kernel
theorem dX1_stuckState_20 : decode cX1_stuckState 20 = .ok (.iconst 0, 1) := by decide +kernel
theorem dX1_stuckState_21 : decode cX1_stuckState 21 = .ok (.istore_n 1, 1) := by decide +kernel
theorem dX1_stuckState_22 : decode cX1_stuckState 22 = .ok (.iload_n 1, 1) := by decide +kernel
theorem dX1_stuckState_23 : decode cX1_stuckState 23 = .ok (.aload_n 0, 1) := by decide +kernel
theorem dX1_stuckState_24 : decode cX1_stuckState 24 = .ok (.getfield 57, 3) := by decide +kernel
theorem dX1_stuckState_27 : decode cX1_stuckState 27 = .ok (.iconst 3, 1) := by decide +kernel
theorem dX1_stuckState_28 : decode cX1_stuckState 28 = .ok (.imul, 1) := by decide +kernel
theorem dX1_stuckState_29 : decode cX1_stuckState 29 = .ok (.if_icmp .ge 59, 3) := by decide +kernel
theorem dX1_stuckState_32 : decode cX1_stuckState 32 = .ok (.aload_n 0, 1) := by decide +kernel
theorem dX1_stuckState_33 : decode cX1_stuckState 33 = .ok (.getfield 67, 3) := by decide +kernel
theorem dX1_stuckState_36 : decode cX1_stuckState 36 = .ok (.bipush (-4), 2) := by decide +kernel
theorem dX1_stuckState_38 : decode cX1_stuckState 38 = .ok (.if_icmp .ne 50, 3) := by decide +kernel
theorem dX1_stuckState_41 : decode cX1_stuckState 41 = .ok (.iload_n 1, 1) := by decide +kernel
theorem dX1_stuckState_42 : decode cX1_stuckState 42 = .ok (.iconst 3, 1) := by decide +kernel
theorem dX1_stuckState_43 : decode cX1_stuckState 43 = .ok (.idiv, 1) := by decide +kernel
theorem dX1_stuckState_44 : decode cX1_stuckState 44 = .ok (.istore_n 2, 1) := by decide +kernel
theorem dX1_stuckState_45 : decode cX1_stuckState 45 = .ok (.iload_n 1, 1) := by decide +kernel
theorem dX1_stuckState_46 : decode cX1_stuckState 46 = .ok (.iconst 3, 1) := by decide +kernel
theorem dX1_stuckState_47 : decode cX1_stuckState 47 = .ok (.irem, 1) := by decide +kernel
theorem dX1_stuckState_48 : decode cX1_stuckState 48 = .ok (.istore_n 3, 1) := by decide +kernel
theorem dX1_stuckState_49 : decode cX1_stuckState 49 = .ok (.aload_n 0, 1) := by decide +kernel
theorem dX1_stuckState_50 : decode cX1_stuckState 50 = .ok (.iload_n 2, 1) := by decide +kernel
theorem dX1_stuckState_51 : decode cX1_stuckState 51 = .ok (.iload_n 3, 1) := by decide +kernel
theorem dX1_stuckState_52 : decode cX1_stuckState 52 = .ok (.invokevirtual 170, 3) := by decide +kernel
theorem dX1_stuckState_55 : decode cX1_stuckState 55 = .ok (.ifCond .ne 6, 3) := by decide +kernel
theorem dX1_stuckState_58 : decode cX1_stuckState 58 = .ok (.goto 24, 3) := by decide +kernel
theorem dX1_stuckState_61 : decode cX1_stuckState 61 = .ok (.aload_n 0, 1) := by decide +kernel
theorem dX1_stuckState_62 : decode cX1_stuckState 62 = .ok (.iload_n 2, 1) := by decide +kernel
theorem dX1_stuckState_63 : decode cX1_stuckState 63 = .ok (.invokevirtual 80, 3) := by decide +kernel
theorem dX1_stuckState_66 : decode cX1_stuckState 66 = .ok (.aload_n 0, 1) := by decide +kernel
theorem dX1_stuckState_67 : decode cX1_stuckState 67 = .ok (.getfield 12, 3) := by decide +kernel
theorem dX1_stuckState_70 : decode cX1_stuckState 70 = .ok (.iload_n 3, 1) := by decide +kernel
theorem dX1_stuckState_71 : decode cX1_stuckState 71 = .ok (.invokevirtual 174, 3) := by decide +kernel
theorem dX1_stuckState_74 : decode cX1_stuckState 74 = .ok (.ifCond .ne 8, 3) := by decide +kernel
theorem dX1_stuckState_77 : decode cX1_stuckState 77 = .ok (.aload_n 0, 1) := by decide +kernel
theorem dX1_stuckState_78 : decode cX1_stuckState 78 = .ok (.iload_n 2, 1) := by decide +kernel
theorem dX1_stuckState_79 : decode cX1_stuckState 79 = .ok (.putfield 67, 3) := by decide +kernel
theorem dX1_stuckState_82 : decode cX1_stuckState 82 = .ok (.iinc 1 1, 3) := by decide +kernel
theorem dX1_stuckState_85 : decode cX1_stuckState 85 = .ok (.goto (-63), 3) := by decide +kernel
theorem dX1_stuckState_88 : decode cX1_stuckState 88 = .ok (.aload_n 0, 1) := by decide +kernel
theorem dX1_stuckState_89 : decode cX1_stuckState 89 = .ok (.getfield 67, 3) := by decide +kernel
theorem dX1_stuckState_92 : decode cX1_stuckState 92 = .ok (.ireturn, 1) := by decide +kernel
theorem dX1_withMostWaiting_0 : decode cX1_withMostWaiting 0 = .ok (.iconst 0, 1) := by decide +kernel
theorem dX1_withMostWaiting_1 : decode cX1_withMostWaiting 1 = .ok (.istore_n 1, 1) := by decide +kernel
theorem dX1_withMostWaiting_2 : decode cX1_withMostWaiting 2 = .ok (.iload_n 1, 1) := by decide +kernel
theorem dX1_withMostWaiting_3 : decode cX1_withMostWaiting 3 = .ok (.aload_n 0, 1) := by decide +kernel
theorem dX1_withMostWaiting_4 : decode cX1_withMostWaiting 4 = .ok (.getfield 57, 3) := by decide +kernel
theorem dX1_withMostWaiting_7 : decode cX1_withMostWaiting 7 = .ok (.if_icmp .ge 26, 3) := by decide +kernel
theorem dX1_withMostWaiting_10 : decode cX1_withMostWaiting 10 = .ok (.aload_n 0, 1) := by decide +kernel
theorem dX1_withMostWaiting_11 : decode cX1_withMostWaiting 11 = .ok (.getfield 37, 3) := by decide +kernel
theorem dX1_withMostWaiting_14 : decode cX1_withMostWaiting 14 = .ok (.iload_n 1, 1) := by decide +kernel
theorem dX1_withMostWaiting_15 : decode cX1_withMostWaiting 15 = .ok (.iaload, 1) := by decide +kernel
theorem dX1_withMostWaiting_16 : decode cX1_withMostWaiting 16 = .ok (.iconst 4, 1) := by decide +kernel
theorem dX1_withMostWaiting_17 : decode cX1_withMostWaiting 17 = .ok (.ishr, 1) := by decide +kernel
theorem dX1_withMostWaiting_18 : decode cX1_withMostWaiting 18 = .ok (.aload_n 0, 1) := by decide +kernel
theorem dX1_withMostWaiting_19 : decode cX1_withMostWaiting 19 = .ok (.getfield 61, 3) := by decide +kernel
theorem dX1_withMostWaiting_22 : decode cX1_withMostWaiting 22 = .ok (.if_icmp .ne 5, 3) := by decide +kernel
theorem dX1_withMostWaiting_25 : decode cX1_withMostWaiting 25 = .ok (.iload_n 1, 1) := by decide +kernel
theorem dX1_withMostWaiting_26 : decode cX1_withMostWaiting 26 = .ok (.ireturn, 1) := by decide +kernel
theorem dX1_withMostWaiting_27 : decode cX1_withMostWaiting 27 = .ok (.iinc 1 1, 3) := by decide +kernel
theorem dX1_withMostWaiting_30 : decode cX1_withMostWaiting 30 = .ok (.goto (-28), 3) := by decide +kernel
theorem dX1_withMostWaiting_33 : decode cX1_withMostWaiting 33 = .ok (.bipush (-4), 2) := by decide +kernel
theorem dX1_withMostWaiting_35 : decode cX1_withMostWaiting 35 = .ok (.ireturn, 1) := by decide +kernel
theorem dX1_withTrait_0 : decode cX1_withTrait 0 = .ok (.iload_n 2, 1) := by decide +kernel
theorem dX1_withTrait_1 : decode cX1_withTrait 1 = .ok (.istore_n 3, 1) := by decide +kernel
theorem dX1_withTrait_2 : decode cX1_withTrait 2 = .ok (.iconst 0, 1) := by decide +kernel
theorem dX1_withTrait_3 : decode cX1_withTrait 3 = .ok (.istore 4, 2) := by decide +kernel
theorem dX1_withTrait_5 : decode cX1_withTrait 5 = .ok (.iload 4, 2) := by decide +kernel
theorem dX1_withTrait_7 : decode cX1_withTrait 7 = .ok (.aload_n 0, 1) := by decide +kernel
theorem dX1_withTrait_8 : decode cX1_withTrait 8 = .ok (.getfield 57, 3) := by decide +kernel
theorem dX1_withTrait_11 : decode cX1_withTrait 11 = .ok (.if_icmp .ge 34, 3) := by decide +kernel
theorem dX1_withTrait_14 : decode cX1_withTrait 14 = .ok (.aload_n 0, 1) := by decide +kernel
theorem dX1_withTrait_15 : decode cX1_withTrait 15 = .ok (.getfield 37, 3) := by decide +kernel
theorem dX1_withTrait_18 : decode cX1_withTrait 18 = .ok (.iload 4, 2) := by decide +kernel
theorem dX1_withTrait_20 : decode cX1_withTrait 20 = .ok (.iaload, 1) := by decide +kernel
theorem dX1_withTrait_21 : decode cX1_withTrait 21 = .ok (.iload_n 1, 1) := by decide +kernel
theorem dX1_withTrait_22 : decode cX1_withTrait 22 = .ok (.iand, 1) := by decide +kernel
theorem dX1_withTrait_23 : decode cX1_withTrait 23 = .ok (.ifCond .ne 6, 3) := by decide +kernel
theorem dX1_withTrait_26 : decode cX1_withTrait 26 = .ok (.goto 13, 3) := by decide +kernel
theorem dX1_withTrait_29 : decode cX1_withTrait 29 = .ok (.iload_n 3, 1) := by decide +kernel
theorem dX1_withTrait_30 : decode cX1_withTrait 30 = .ok (.ifCond .ne 6, 3) := by decide +kernel
theorem dX1_withTrait_33 : decode cX1_withTrait 33 = .ok (.iload 4, 2) := by decide +kernel
theorem dX1_withTrait_35 : decode cX1_withTrait 35 = .ok (.ireturn, 1) := by decide +kernel
theorem dX1_withTrait_36 : decode cX1_withTrait 36 = .ok (.iinc 3 (-1), 3) := by decide +kernel
theorem dX1_withTrait_39 : decode cX1_withTrait 39 = .ok (.iinc 4 1, 3) := by decide +kernel
theorem dX1_withTrait_42 : decode cX1_withTrait 42 = .ok (.goto (-37), 3) := by decide +kernel
theorem dX1_withTrait_45 : decode cX1_withTrait 45 = .ok (.bipush (-4), 2) := by decide +kernel
theorem dX1_withTrait_47 : decode cX1_withTrait 47 = .ok (.ireturn, 1) := by decide +kernel
theorem dX2_allows_0 : decode cX2_allows 0 = .ok (.iload_n 0, 1) := by decide +kernel
theorem dX2_allows_1 : decode cX2_allows 1 = .ok (.ifCond .lt 21, 3) := by decide +kernel
theorem dX2_allows_4 : decode cX2_allows 4 = .ok (.iload_n 0, 1) := by decide +kernel
theorem dX2_allows_5 : decode cX2_allows 5 = .ok (.bipush 13, 2) := by decide +kernel
theorem dX2_allows_7 : decode cX2_allows 7 = .ok (.if_icmp .le 9, 3) := by decide +kernel
theorem dX2_allows_10 : decode cX2_allows 10 = .ok (.iload_n 0, 1) := by decide +kernel
theorem dX2_allows_11 : decode cX2_allows 11 = .ok (.bipush 20, 2) := by decide +kernel
theorem dX2_allows_13 : decode cX2_allows 13 = .ok (.if_icmp .lt 9, 3) := by decide +kernel
theorem dX2_allows_16 : decode cX2_allows 16 = .ok (.iload_n 0, 1) := by decide +kernel
theorem dX2_allows_17 : decode cX2_allows 17 = .ok (.bipush 27, 2) := by decide +kernel
theorem dX2_allows_19 : decode cX2_allows 19 = .ok (.if_icmp .lt 5, 3) := by decide +kernel
theorem dX2_allows_22 : decode cX2_allows 22 = .ok (.iconst 0, 1) := by decide +kernel
theorem dX2_allows_23 : decode cX2_allows 23 = .ok (.ireturn, 1) := by decide +kernel
theorem dX2_allows_24 : decode cX2_allows 24 = .ok (.getstatic 11, 3) := by decide +kernel
theorem dX2_allows_27 : decode cX2_allows 27 = .ok (.iconst 3, 1) := by decide +kernel
theorem dX2_allows_28 : decode cX2_allows 28 = .ok (.iload_n 0, 1) := by decide +kernel
theorem dX2_allows_29 : decode cX2_allows 29 = .ok (.imul, 1) := by decide +kernel
theorem dX2_allows_30 : decode cX2_allows 30 = .ok (.iaload, 1) := by decide +kernel
theorem dX2_allows_31 : decode cX2_allows 31 = .ok (.iload_n 1, 1) := by decide +kernel
theorem dX2_allows_32 : decode cX2_allows 32 = .ok (.invokestatic 15, 3) := by decide +kernel
theorem dX2_allows_35 : decode cX2_allows 35 = .ok (.ifCond .eq 39, 3) := by decide +kernel
theorem dX2_allows_38 : decode cX2_allows 38 = .ok (.getstatic 11, 3) := by decide +kernel
theorem dX2_allows_41 : decode cX2_allows 41 = .ok (.iconst 3, 1) := by decide +kernel
theorem dX2_allows_42 : decode cX2_allows 42 = .ok (.iload_n 0, 1) := by decide +kernel
theorem dX2_allows_43 : decode cX2_allows 43 = .ok (.imul, 1) := by decide +kernel
theorem dX2_allows_44 : decode cX2_allows 44 = .ok (.iconst 1, 1) := by decide +kernel
theorem dX2_allows_45 : decode cX2_allows 45 = .ok (.iadd, 1) := by decide +kernel
theorem dX2_allows_46 : decode cX2_allows 46 = .ok (.iaload, 1) := by decide +kernel
theorem dX2_allows_47 : decode cX2_allows 47 = .ok (.iload_n 2, 1) := by decide +kernel
theorem dX2_allows_48 : decode cX2_allows 48 = .ok (.invokestatic 15, 3) := by decide +kernel
theorem dX2_allows_51 : decode cX2_allows 51 = .ok (.ifCond .eq 23, 3) := by decide +kernel
theorem dX2_allows_54 : decode cX2_allows 54 = .ok (.getstatic 11, 3) := by decide +kernel
theorem dX2_allows_57 : decode cX2_allows 57 = .ok (.iconst 3, 1) := by decide +kernel
theorem dX2_allows_58 : decode cX2_allows 58 = .ok (.iload_n 0, 1) := by decide +kernel
theorem dX2_allows_59 : decode cX2_allows 59 = .ok (.imul, 1) := by decide +kernel
theorem dX2_allows_60 : decode cX2_allows 60 = .ok (.iconst 2, 1) := by decide +kernel
theorem dX2_allows_61 : decode cX2_allows 61 = .ok (.iadd, 1) := by decide +kernel
theorem dX2_allows_62 : decode cX2_allows 62 = .ok (.iaload, 1) := by decide +kernel
theorem dX2_allows_63 : decode cX2_allows 63 = .ok (.iload_n 3, 1) := by decide +kernel
theorem dX2_allows_64 : decode cX2_allows 64 = .ok (.invokestatic 15, 3) := by decide +kernel
theorem dX2_allows_67 : decode cX2_allows 67 = .ok (.ifCond .eq 7, 3) := by decide +kernel
theorem dX2_allows_70 : decode cX2_allows 70 = .ok (.iconst 1, 1) := by decide +kernel
theorem dX2_allows_71 : decode cX2_allows 71 = .ok (.goto 4, 3) := by decide +kernel
theorem dX2_allows_74 : decode cX2_allows 74 = .ok (.iconst 0, 1) := by decide +kernel
theorem dX2_allows_75 : decode cX2_allows 75 = .ok (.ireturn, 1) := by decide +kernel
theorem dX2_fits_0 : decode cX2_fits 0 = .ok (.iload_n 1, 1) := by decide +kernel
theorem dX2_fits_1 : decode cX2_fits 1 = .ok (.getstatic 19, 3) := by decide +kernel
theorem dX2_fits_4 : decode cX2_fits 4 = .ok (.iload_n 0, 1) := by decide +kernel
theorem dX2_fits_5 : decode cX2_fits 5 = .ok (.iaload, 1) := by decide +kernel
theorem dX2_fits_6 : decode cX2_fits 6 = .ok (.if_icmp .lt 16, 3) := by decide +kernel
theorem dX2_fits_9 : decode cX2_fits 9 = .ok (.iload_n 1, 1) := by decide +kernel
theorem dX2_fits_10 : decode cX2_fits 10 = .ok (.getstatic 22, 3) := by decide +kernel
theorem dX2_fits_13 : decode cX2_fits 13 = .ok (.iload_n 0, 1) := by decide +kernel
theorem dX2_fits_14 : decode cX2_fits 14 = .ok (.iaload, 1) := by decide +kernel
theorem dX2_fits_15 : decode cX2_fits 15 = .ok (.if_icmp .gt 7, 3) := by decide +kernel
theorem dX2_fits_18 : decode cX2_fits 18 = .ok (.iconst 1, 1) := by decide +kernel
theorem dX2_fits_19 : decode cX2_fits 19 = .ok (.goto 4, 3) := by decide +kernel
theorem dX2_fits_22 : decode cX2_fits 22 = .ok (.iconst 0, 1) := by decide +kernel
theorem dX2_fits_23 : decode cX2_fits 23 = .ok (.ireturn, 1) := by decide +kernel
theorem dX3_addTo_0 : decode cX3_addTo 0 = .ok (.iconst 3, 1) := by decide +kernel
theorem dX3_addTo_1 : decode cX3_addTo 1 = .ok (.aload_n 0, 1) := by decide +kernel
theorem dX3_addTo_2 : decode cX3_addTo 2 = .ok (.iconst 1, 1) := by decide +kernel
theorem dX3_addTo_3 : decode cX3_addTo 3 = .ok (.iaload, 1) := by decide +kernel
theorem dX3_addTo_4 : decode cX3_addTo 4 = .ok (.iadd, 1) := by decide +kernel
theorem dX3_addTo_5 : decode cX3_addTo 5 = .ok (.bipush 13, 2) := by decide +kernel
theorem dX3_addTo_7 : decode cX3_addTo 7 = .ok (.if_icmp .lt 4, 3) := by decide +kernel
theorem dX3_addTo_10 : decode cX3_addTo 10 = .ok (.return_, 1) := by decide +kernel
theorem dX3_addTo_11 : decode cX3_addTo 11 = .ok (.aload_n 0, 1) := by decide +kernel
theorem dX3_addTo_12 : decode cX3_addTo 12 = .ok (.iconst 3, 1) := by decide +kernel
theorem dX3_addTo_13 : decode cX3_addTo 13 = .ok (.aload_n 0, 1) := by decide +kernel
theorem dX3_addTo_14 : decode cX3_addTo 14 = .ok (.iconst 1, 1) := by decide +kernel
theorem dX3_addTo_15 : decode cX3_addTo 15 = .ok (.iaload, 1) := by decide +kernel
theorem dX3_addTo_16 : decode cX3_addTo 16 = .ok (.iadd, 1) := by decide +kernel
theorem dX3_addTo_17 : decode cX3_addTo 17 = .ok (.iload_n 1, 1) := by decide +kernel
theorem dX3_addTo_18 : decode cX3_addTo 18 = .ok (.iastore, 1) := by decide +kernel
theorem dX3_addTo_19 : decode cX3_addTo 19 = .ok (.aload_n 0, 1) := by decide +kernel
theorem dX3_addTo_20 : decode cX3_addTo 20 = .ok (.iconst 1, 1) := by decide +kernel
theorem dX3_addTo_21 : decode cX3_addTo 21 = .ok (.dup2, 1) := by decide +kernel
theorem dX3_addTo_22 : decode cX3_addTo 22 = .ok (.iaload, 1) := by decide +kernel
theorem dX3_addTo_23 : decode cX3_addTo 23 = .ok (.iconst 1, 1) := by decide +kernel
theorem dX3_addTo_24 : decode cX3_addTo 24 = .ok (.iadd, 1) := by decide +kernel
theorem dX3_addTo_25 : decode cX3_addTo 25 = .ok (.iastore, 1) := by decide +kernel
theorem dX3_addTo_26 : decode cX3_addTo 26 = .ok (.return_, 1) := by decide +kernel
theorem dX3_canFollow_0 : decode cX3_canFollow 0 = .ok (.iload_n 1, 1) := by decide +kernel
theorem dX3_canFollow_1 : decode cX3_canFollow 1 = .ok (.iconst 3, 1) := by decide +kernel
theorem dX3_canFollow_2 : decode cX3_canFollow 2 = .ok (.irem, 1) := by decide +kernel
theorem dX3_canFollow_3 : decode cX3_canFollow 3 = .ok (.aload_n 0, 1) := by decide +kernel
theorem dX3_canFollow_4 : decode cX3_canFollow 4 = .ok (.getfield 22, 3) := by decide +kernel
theorem dX3_canFollow_7 : decode cX3_canFollow 7 = .ok (.getfield 60, 3) := by decide +kernel
theorem dX3_canFollow_10 : decode cX3_canFollow 10 = .ok (.iload_n 1, 1) := by decide +kernel
theorem dX3_canFollow_11 : decode cX3_canFollow 11 = .ok (.iconst 3, 1) := by decide +kernel
theorem dX3_canFollow_12 : decode cX3_canFollow 12 = .ok (.idiv, 1) := by decide +kernel
theorem dX3_canFollow_13 : decode cX3_canFollow 13 = .ok (.iaload, 1) := by decide +kernel
theorem dX3_canFollow_14 : decode cX3_canFollow 14 = .ok (.if_icmp .ge 12, 3) := by decide +kernel
theorem dX3_canFollow_17 : decode cX3_canFollow 17 = .ok (.iload_n 2, 1) := by decide +kernel
theorem dX3_canFollow_18 : decode cX3_canFollow 18 = .ok (.iload_n 1, 1) := by decide +kernel
theorem dX3_canFollow_19 : decode cX3_canFollow 19 = .ok (.ishr, 1) := by decide +kernel
theorem dX3_canFollow_20 : decode cX3_canFollow 20 = .ok (.iconst 1, 1) := by decide +kernel
theorem dX3_canFollow_21 : decode cX3_canFollow 21 = .ok (.iand, 1) := by decide +kernel
theorem dX3_canFollow_22 : decode cX3_canFollow 22 = .ok (.iconst 1, 1) := by decide +kernel
theorem dX3_canFollow_23 : decode cX3_canFollow 23 = .ok (.if_icmp .ne 5, 3) := by decide +kernel
theorem dX3_canFollow_26 : decode cX3_canFollow 26 = .ok (.iconst 0, 1) := by decide +kernel
theorem dX3_canFollow_27 : decode cX3_canFollow 27 = .ok (.ireturn, 1) := by decide +kernel
theorem dX3_canFollow_28 : decode cX3_canFollow 28 = .ok (.aload_n 0, 1) := by decide +kernel
theorem dX3_canFollow_29 : decode cX3_canFollow 29 = .ok (.getfield 40, 3) := by decide +kernel
theorem dX3_canFollow_32 : decode cX3_canFollow 32 = .ok (.bipush 37, 2) := by decide +kernel
theorem dX3_canFollow_34 : decode cX3_canFollow 34 = .ok (.iload_n 1, 1) := by decide +kernel
theorem dX3_canFollow_35 : decode cX3_canFollow 35 = .ok (.iadd, 1) := by decide +kernel
theorem dX3_canFollow_36 : decode cX3_canFollow 36 = .ok (.iaload, 1) := by decide +kernel
theorem dX3_canFollow_37 : decode cX3_canFollow 37 = .ok (.iload_n 2, 1) := by decide +kernel
theorem dX3_canFollow_38 : decode cX3_canFollow 38 = .ok (.iconst (-1), 1) := by decide +kernel
theorem dX3_canFollow_39 : decode cX3_canFollow 39 = .ok (.ixor, 1) := by decide +kernel
theorem dX3_canFollow_40 : decode cX3_canFollow 40 = .ok (.iand, 1) := by decide +kernel
theorem dX3_canFollow_41 : decode cX3_canFollow 41 = .ok (.ifCond .ne 7, 3) := by decide +kernel
theorem dX3_canFollow_44 : decode cX3_canFollow 44 = .ok (.iconst 1, 1) := by decide +kernel
theorem dX3_canFollow_45 : decode cX3_canFollow 45 = .ok (.goto 4, 3) := by decide +kernel
theorem dX3_canFollow_48 : decode cX3_canFollow 48 = .ok (.iconst 0, 1) := by decide +kernel
theorem dX3_canFollow_49 : decode cX3_canFollow 49 = .ok (.ireturn, 1) := by decide +kernel
theorem dX3_extendOrder_0 : decode cX3_extendOrder 0 = .ok (.iload_n 2, 1) := by decide +kernel
theorem dX3_extendOrder_1 : decode cX3_extendOrder 1 = .ok (.aload_n 0, 1) := by decide +kernel
theorem dX3_extendOrder_2 : decode cX3_extendOrder 2 = .ok (.getfield 22, 3) := by decide +kernel
theorem dX3_extendOrder_5 : decode cX3_extendOrder 5 = .ok (.invokevirtual 46, 3) := by decide +kernel
theorem dX3_extendOrder_8 : decode cX3_extendOrder 8 = .ok (.if_icmp .ge 9, 3) := by decide +kernel
theorem dX3_extendOrder_11 : decode cX3_extendOrder 11 = .ok (.iload_n 2, 1) := by decide +kernel
theorem dX3_extendOrder_12 : decode cX3_extendOrder 12 = .ok (.bipush 6, 2) := by decide +kernel
theorem dX3_extendOrder_14 : decode cX3_extendOrder 14 = .ok (.if_icmp .lt 5, 3) := by decide +kernel
theorem dX3_extendOrder_17 : decode cX3_extendOrder 17 = .ok (.iconst 1, 1) := by decide +kernel
theorem dX3_extendOrder_18 : decode cX3_extendOrder 18 = .ok (.ireturn, 1) := by decide +kernel
theorem dX3_extendOrder_19 : decode cX3_extendOrder 19 = .ok (.iconst 0, 1) := by decide +kernel
theorem dX3_extendOrder_20 : decode cX3_extendOrder 20 = .ok (.istore 4, 2) := by decide +kernel
theorem dX3_extendOrder_22 : decode cX3_extendOrder 22 = .ok (.iload 4, 2) := by decide +kernel
theorem dX3_extendOrder_24 : decode cX3_extendOrder 24 = .ok (.bipush 9, 2) := by decide +kernel
theorem dX3_extendOrder_26 : decode cX3_extendOrder 26 = .ok (.if_icmp .ge 110, 3) := by decide +kernel
theorem dX3_extendOrder_29 : decode cX3_extendOrder 29 = .ok (.aload_n 0, 1) := by decide +kernel
theorem dX3_extendOrder_30 : decode cX3_extendOrder 30 = .ok (.iload 4, 2) := by decide +kernel
theorem dX3_extendOrder_32 : decode cX3_extendOrder 32 = .ok (.iload_n 3, 1) := by decide +kernel
theorem dX3_extendOrder_33 : decode cX3_extendOrder 33 = .ok (.invokestatic 63, 3) := by decide +kernel
theorem dX3_extendOrder_36 : decode cX3_extendOrder 36 = .ok (.ifCond .ne 6, 3) := by decide +kernel
theorem dX3_extendOrder_39 : decode cX3_extendOrder 39 = .ok (.goto 91, 3) := by decide +kernel
theorem dX3_extendOrder_42 : decode cX3_extendOrder 42 = .ok (.aload_n 1, 1) := by decide +kernel
theorem dX3_extendOrder_43 : decode cX3_extendOrder 43 = .ok (.iload_n 2, 1) := by decide +kernel
theorem dX3_extendOrder_44 : decode cX3_extendOrder 44 = .ok (.aaload, 1) := by decide +kernel
theorem dX3_extendOrder_45 : decode cX3_extendOrder 45 = .ok (.iconst 0, 1) := by decide +kernel
theorem dX3_extendOrder_46 : decode cX3_extendOrder 46 = .ok (.aload_n 1, 1) := by decide +kernel
theorem dX3_extendOrder_47 : decode cX3_extendOrder 47 = .ok (.iload_n 2, 1) := by decide +kernel
theorem dX3_extendOrder_48 : decode cX3_extendOrder 48 = .ok (.iconst 1, 1) := by decide +kernel
theorem dX3_extendOrder_49 : decode cX3_extendOrder 49 = .ok (.iadd, 1) := by decide +kernel
theorem dX3_extendOrder_50 : decode cX3_extendOrder 50 = .ok (.aaload, 1) := by decide +kernel
theorem dX3_extendOrder_51 : decode cX3_extendOrder 51 = .ok (.iconst 0, 1) := by decide +kernel
theorem dX3_extendOrder_52 : decode cX3_extendOrder 52 = .ok (.bipush 13, 2) := by decide +kernel
theorem dX3_extendOrder_54 : decode cX3_extendOrder 54 = .ok (.invokestatic 67, 3) := by decide +kernel
theorem dX3_extendOrder_57 : decode cX3_extendOrder 57 = .ok (.aload_n 0, 1) := by decide +kernel
theorem dX3_extendOrder_58 : decode cX3_extendOrder 58 = .ok (.getfield 22, 3) := by decide +kernel
theorem dX3_extendOrder_61 : decode cX3_extendOrder 61 = .ok (.iload 4, 2) := by decide +kernel
theorem dX3_extendOrder_63 : decode cX3_extendOrder 63 = .ok (.aload_n 0, 1) := by decide +kernel
theorem dX3_extendOrder_64 : decode cX3_extendOrder 64 = .ok (.getfield 40, 3) := by decide +kernel
theorem dX3_extendOrder_67 : decode cX3_extendOrder 67 = .ok (.bipush 28, 2) := by decide +kernel
theorem dX3_extendOrder_69 : decode cX3_extendOrder 69 = .ok (.iload 4, 2) := by decide +kernel
theorem dX3_extendOrder_71 : decode cX3_extendOrder 71 = .ok (.iadd, 1) := by decide +kernel
theorem dX3_extendOrder_72 : decode cX3_extendOrder 72 = .ok (.iaload, 1) := by decide +kernel
theorem dX3_extendOrder_73 : decode cX3_extendOrder 73 = .ok (.aload_n 1, 1) := by decide +kernel
theorem dX3_extendOrder_74 : decode cX3_extendOrder 74 = .ok (.iload_n 2, 1) := by decide +kernel
theorem dX3_extendOrder_75 : decode cX3_extendOrder 75 = .ok (.iconst 1, 1) := by decide +kernel
theorem dX3_extendOrder_76 : decode cX3_extendOrder 76 = .ok (.iadd, 1) := by decide +kernel
theorem dX3_extendOrder_77 : decode cX3_extendOrder 77 = .ok (.aaload, 1) := by decide +kernel
theorem dX3_extendOrder_78 : decode cX3_extendOrder 78 = .ok (.invokestatic 50, 3) := by decide +kernel
theorem dX3_extendOrder_81 : decode cX3_extendOrder 81 = .ok (.istore 5, 2) := by decide +kernel
theorem dX3_extendOrder_83 : decode cX3_extendOrder 83 = .ok (.iload 5, 2) := by decide +kernel
theorem dX3_extendOrder_85 : decode cX3_extendOrder 85 = .ok (.ifCond .eq 22, 3) := by decide +kernel
theorem dX3_extendOrder_88 : decode cX3_extendOrder 88 = .ok (.aload_n 0, 1) := by decide +kernel
theorem dX3_extendOrder_89 : decode cX3_extendOrder 89 = .ok (.aload_n 1, 1) := by decide +kernel
theorem dX3_extendOrder_90 : decode cX3_extendOrder 90 = .ok (.iload_n 2, 1) := by decide +kernel
theorem dX3_extendOrder_91 : decode cX3_extendOrder 91 = .ok (.iconst 1, 1) := by decide +kernel
theorem dX3_extendOrder_92 : decode cX3_extendOrder 92 = .ok (.iadd, 1) := by decide +kernel
theorem dX3_extendOrder_93 : decode cX3_extendOrder 93 = .ok (.iload_n 3, 1) := by decide +kernel
theorem dX3_extendOrder_94 : decode cX3_extendOrder 94 = .ok (.iconst 1, 1) := by decide +kernel
theorem dX3_extendOrder_95 : decode cX3_extendOrder 95 = .ok (.iload 4, 2) := by decide +kernel
theorem dX3_extendOrder_97 : decode cX3_extendOrder 97 = .ok (.ishl, 1) := by decide +kernel
theorem dX3_extendOrder_98 : decode cX3_extendOrder 98 = .ok (.ior, 1) := by decide +kernel
theorem dX3_extendOrder_99 : decode cX3_extendOrder 99 = .ok (.invokestatic 36, 3) := by decide +kernel
theorem dX3_extendOrder_102 : decode cX3_extendOrder 102 = .ok (.ifCond .eq 5, 3) := by decide +kernel
theorem dX3_extendOrder_105 : decode cX3_extendOrder 105 = .ok (.iconst 1, 1) := by decide +kernel
theorem dX3_extendOrder_106 : decode cX3_extendOrder 106 = .ok (.ireturn, 1) := by decide +kernel
theorem dX3_extendOrder_107 : decode cX3_extendOrder 107 = .ok (.aload_n 0, 1) := by decide +kernel
theorem dX3_extendOrder_108 : decode cX3_extendOrder 108 = .ok (.getfield 22, 3) := by decide +kernel
theorem dX3_extendOrder_111 : decode cX3_extendOrder 111 = .ok (.getfield 73, 3) := by decide +kernel
theorem dX3_extendOrder_114 : decode cX3_extendOrder 114 = .ok (.aload_n 0, 1) := by decide +kernel
theorem dX3_extendOrder_115 : decode cX3_extendOrder 115 = .ok (.getfield 22, 3) := by decide +kernel
theorem dX3_extendOrder_118 : decode cX3_extendOrder 118 = .ok (.getfield 76, 3) := by decide +kernel
theorem dX3_extendOrder_121 : decode cX3_extendOrder 121 = .ok (.iload 4, 2) := by decide +kernel
theorem dX3_extendOrder_123 : decode cX3_extendOrder 123 = .ok (.iaload, 1) := by decide +kernel
theorem dX3_extendOrder_124 : decode cX3_extendOrder 124 = .ok (.iaload, 1) := by decide +kernel
theorem dX3_extendOrder_125 : decode cX3_extendOrder 125 = .ok (.ifCond .ne 5, 3) := by decide +kernel
theorem dX3_extendOrder_128 : decode cX3_extendOrder 128 = .ok (.iconst 0, 1) := by decide +kernel
theorem dX3_extendOrder_129 : decode cX3_extendOrder 129 = .ok (.ireturn, 1) := by decide +kernel
theorem dX3_extendOrder_130 : decode cX3_extendOrder 130 = .ok (.iinc 4 1, 3) := by decide +kernel
theorem dX3_extendOrder_133 : decode cX3_extendOrder 133 = .ok (.goto (-111), 3) := by decide +kernel
theorem dX3_extendOrder_136 : decode cX3_extendOrder 136 = .ok (.iconst 0, 1) := by decide +kernel
theorem dX3_extendOrder_137 : decode cX3_extendOrder 137 = .ok (.ireturn, 1) := by decide +kernel
theorem dX3_fillFirstShelf_0 : decode cX3_fillFirstShelf 0 = .ok (.aload_n 0, 1) := by decide +kernel
theorem dX3_fillFirstShelf_1 : decode cX3_fillFirstShelf 1 = .ok (.getfield 13, 3) := by decide +kernel
theorem dX3_fillFirstShelf_4 : decode cX3_fillFirstShelf 4 = .ok (.iconst 0, 1) := by decide +kernel
theorem dX3_fillFirstShelf_5 : decode cX3_fillFirstShelf 5 = .ok (.aaload, 1) := by decide +kernel
theorem dX3_fillFirstShelf_6 : decode cX3_fillFirstShelf 6 = .ok (.iconst 0, 1) := by decide +kernel
theorem dX3_fillFirstShelf_7 : decode cX3_fillFirstShelf 7 = .ok (.invokestatic 54, 3) := by decide +kernel
theorem dX3_fillFirstShelf_10 : decode cX3_fillFirstShelf 10 = .ok (.iconst 0, 1) := by decide +kernel
theorem dX3_fillFirstShelf_11 : decode cX3_fillFirstShelf 11 = .ok (.istore_n 2, 1) := by decide +kernel
theorem dX3_fillFirstShelf_12 : decode cX3_fillFirstShelf 12 = .ok (.iload_n 2, 1) := by decide +kernel
theorem dX3_fillFirstShelf_13 : decode cX3_fillFirstShelf 13 = .ok (.aload_n 1, 1) := by decide +kernel
theorem dX3_fillFirstShelf_14 : decode cX3_fillFirstShelf 14 = .ok (.getfield 60, 3) := by decide +kernel
theorem dX3_fillFirstShelf_17 : decode cX3_fillFirstShelf 17 = .ok (.iconst 3, 1) := by decide +kernel
theorem dX3_fillFirstShelf_18 : decode cX3_fillFirstShelf 18 = .ok (.iaload, 1) := by decide +kernel
theorem dX3_fillFirstShelf_19 : decode cX3_fillFirstShelf 19 = .ok (.if_icmp .ge 25, 3) := by decide +kernel
theorem dX3_fillFirstShelf_22 : decode cX3_fillFirstShelf 22 = .ok (.aload_n 1, 1) := by decide +kernel
theorem dX3_fillFirstShelf_23 : decode cX3_fillFirstShelf 23 = .ok (.bipush 9, 2) := by decide +kernel
theorem dX3_fillFirstShelf_25 : decode cX3_fillFirstShelf 25 = .ok (.iload_n 2, 1) := by decide +kernel
theorem dX3_fillFirstShelf_26 : decode cX3_fillFirstShelf 26 = .ok (.iadd, 1) := by decide +kernel
theorem dX3_fillFirstShelf_27 : decode cX3_fillFirstShelf 27 = .ok (.iconst 0, 1) := by decide +kernel
theorem dX3_fillFirstShelf_28 : decode cX3_fillFirstShelf 28 = .ok (.aload_n 0, 1) := by decide +kernel
theorem dX3_fillFirstShelf_29 : decode cX3_fillFirstShelf 29 = .ok (.getfield 13, 3) := by decide +kernel
theorem dX3_fillFirstShelf_32 : decode cX3_fillFirstShelf 32 = .ok (.iconst 0, 1) := by decide +kernel
theorem dX3_fillFirstShelf_33 : decode cX3_fillFirstShelf 33 = .ok (.aaload, 1) := by decide +kernel
theorem dX3_fillFirstShelf_34 : decode cX3_fillFirstShelf 34 = .ok (.invokestatic 50, 3) := by decide +kernel
theorem dX3_fillFirstShelf_37 : decode cX3_fillFirstShelf 37 = .ok (.pop, 1) := by decide +kernel
theorem dX3_fillFirstShelf_38 : decode cX3_fillFirstShelf 38 = .ok (.iinc 2 1, 3) := by decide +kernel
theorem dX3_fillFirstShelf_41 : decode cX3_fillFirstShelf 41 = .ok (.goto (-29), 3) := by decide +kernel
theorem dX3_fillFirstShelf_44 : decode cX3_fillFirstShelf 44 = .ok (.return_, 1) := by decide +kernel
theorem dX3_findsOrder_0 : decode cX3_findsOrder 0 = .ok (.aload_n 1, 1) := by decide +kernel
theorem dX3_findsOrder_1 : decode cX3_findsOrder 1 = .ok (.invokevirtual 16, 3) := by decide +kernel
theorem dX3_findsOrder_4 : decode cX3_findsOrder 4 = .ok (.ifCond .eq 5, 3) := by decide +kernel
theorem dX3_findsOrder_7 : decode cX3_findsOrder 7 = .ok (.iconst 0, 1) := by decide +kernel
theorem dX3_findsOrder_8 : decode cX3_findsOrder 8 = .ok (.ireturn, 1) := by decide +kernel
theorem dX3_findsOrder_9 : decode cX3_findsOrder 9 = .ok (.aload_n 1, 1) := by decide +kernel
theorem dX3_findsOrder_10 : decode cX3_findsOrder 10 = .ok (.getfield 22, 3) := by decide +kernel
theorem dX3_findsOrder_13 : decode cX3_findsOrder 13 = .ok (.getfield 26, 3) := by decide +kernel
theorem dX3_findsOrder_16 : decode cX3_findsOrder 16 = .ok (.ifCond .ne 5, 3) := by decide +kernel
theorem dX3_findsOrder_19 : decode cX3_findsOrder 19 = .ok (.iconst 1, 1) := by decide +kernel
theorem dX3_findsOrder_20 : decode cX3_findsOrder 20 = .ok (.ireturn, 1) := by decide +kernel
theorem dX3_findsOrder_21 : decode cX3_findsOrder 21 = .ok (.aload_n 0, 1) := by decide +kernel
theorem dX3_findsOrder_22 : decode cX3_findsOrder 22 = .ok (.aload_n 1, 1) := by decide +kernel
theorem dX3_findsOrder_23 : decode cX3_findsOrder 23 = .ok (.getfield 22, 3) := by decide +kernel
theorem dX3_findsOrder_26 : decode cX3_findsOrder 26 = .ok (.invokevirtual 32, 3) := by decide +kernel
theorem dX3_findsOrder_29 : decode cX3_findsOrder 29 = .ok (.aload_n 1, 1) := by decide +kernel
theorem dX3_findsOrder_30 : decode cX3_findsOrder 30 = .ok (.aload_n 0, 1) := by decide +kernel
theorem dX3_findsOrder_31 : decode cX3_findsOrder 31 = .ok (.getfield 13, 3) := by decide +kernel
theorem dX3_findsOrder_34 : decode cX3_findsOrder 34 = .ok (.iconst 0, 1) := by decide +kernel
theorem dX3_findsOrder_35 : decode cX3_findsOrder 35 = .ok (.iconst 0, 1) := by decide +kernel
theorem dX3_findsOrder_36 : decode cX3_findsOrder 36 = .ok (.invokestatic 36, 3) := by decide +kernel
theorem dX3_findsOrder_39 : decode cX3_findsOrder 39 = .ok (.ireturn, 1) := by decide +kernel
theorem dX3_followsMoments_0 : decode cX3_followsMoments 0 = .ok (.aload_n 1, 1) := by decide +kernel
theorem dX3_followsMoments_1 : decode cX3_followsMoments 1 = .ok (.invokevirtual 16, 3) := by decide +kernel
theorem dX3_followsMoments_4 : decode cX3_followsMoments 4 = .ok (.ifCond .eq 5, 3) := by decide +kernel
theorem dX3_followsMoments_7 : decode cX3_followsMoments 7 = .ok (.iconst 0, 1) := by decide +kernel
theorem dX3_followsMoments_8 : decode cX3_followsMoments 8 = .ok (.ireturn, 1) := by decide +kernel
theorem dX3_followsMoments_9 : decode cX3_followsMoments 9 = .ok (.aload_n 0, 1) := by decide +kernel
theorem dX3_followsMoments_10 : decode cX3_followsMoments 10 = .ok (.aload_n 1, 1) := by decide +kernel
theorem dX3_followsMoments_11 : decode cX3_followsMoments 11 = .ok (.getfield 22, 3) := by decide +kernel
theorem dX3_followsMoments_14 : decode cX3_followsMoments 14 = .ok (.invokevirtual 32, 3) := by decide +kernel
theorem dX3_followsMoments_17 : decode cX3_followsMoments 17 = .ok (.aload_n 1, 1) := by decide +kernel
theorem dX3_followsMoments_18 : decode cX3_followsMoments 18 = .ok (.getfield 40, 3) := by decide +kernel
theorem dX3_followsMoments_21 : decode cX3_followsMoments 21 = .ok (.bipush 27, 2) := by decide +kernel
theorem dX3_followsMoments_23 : decode cX3_followsMoments 23 = .ok (.iaload, 1) := by decide +kernel
theorem dX3_followsMoments_24 : decode cX3_followsMoments 24 = .ok (.istore_n 2, 1) := by decide +kernel
theorem dX3_followsMoments_25 : decode cX3_followsMoments 25 = .ok (.iconst 0, 1) := by decide +kernel
theorem dX3_followsMoments_26 : decode cX3_followsMoments 26 = .ok (.istore_n 3, 1) := by decide +kernel
theorem dX3_followsMoments_27 : decode cX3_followsMoments 27 = .ok (.iload_n 3, 1) := by decide +kernel
theorem dX3_followsMoments_28 : decode cX3_followsMoments 28 = .ok (.aload_n 1, 1) := by decide +kernel
theorem dX3_followsMoments_29 : decode cX3_followsMoments 29 = .ok (.getfield 22, 3) := by decide +kernel
theorem dX3_followsMoments_32 : decode cX3_followsMoments 32 = .ok (.invokevirtual 46, 3) := by decide +kernel
theorem dX3_followsMoments_35 : decode cX3_followsMoments 35 = .ok (.if_icmp .ge 62, 3) := by decide +kernel
theorem dX3_followsMoments_38 : decode cX3_followsMoments 38 = .ok (.iload_n 3, 1) := by decide +kernel
theorem dX3_followsMoments_39 : decode cX3_followsMoments 39 = .ok (.bipush 6, 2) := by decide +kernel
theorem dX3_followsMoments_41 : decode cX3_followsMoments 41 = .ok (.if_icmp .ge 56, 3) := by decide +kernel
theorem dX3_followsMoments_44 : decode cX3_followsMoments 44 = .ok (.iload_n 2, 1) := by decide +kernel
theorem dX3_followsMoments_45 : decode cX3_followsMoments 45 = .ok (.iconst 4, 1) := by decide +kernel
theorem dX3_followsMoments_46 : decode cX3_followsMoments 46 = .ok (.iload_n 3, 1) := by decide +kernel
theorem dX3_followsMoments_47 : decode cX3_followsMoments 47 = .ok (.imul, 1) := by decide +kernel
theorem dX3_followsMoments_48 : decode cX3_followsMoments 48 = .ok (.ishr, 1) := by decide +kernel
theorem dX3_followsMoments_49 : decode cX3_followsMoments 49 = .ok (.bipush 15, 2) := by decide +kernel
theorem dX3_followsMoments_51 : decode cX3_followsMoments 51 = .ok (.iand, 1) := by decide +kernel
theorem dX3_followsMoments_52 : decode cX3_followsMoments 52 = .ok (.iconst 1, 1) := by decide +kernel
theorem dX3_followsMoments_53 : decode cX3_followsMoments 53 = .ok (.isub, 1) := by decide +kernel
theorem dX3_followsMoments_54 : decode cX3_followsMoments 54 = .ok (.istore 4, 2) := by decide +kernel
theorem dX3_followsMoments_56 : decode cX3_followsMoments 56 = .ok (.iload 4, 2) := by decide +kernel
theorem dX3_followsMoments_58 : decode cX3_followsMoments 58 = .ok (.ifCond .lt 31, 3) := by decide +kernel
theorem dX3_followsMoments_61 : decode cX3_followsMoments 61 = .ok (.aload_n 1, 1) := by decide +kernel
theorem dX3_followsMoments_62 : decode cX3_followsMoments 62 = .ok (.getfield 22, 3) := by decide +kernel
theorem dX3_followsMoments_65 : decode cX3_followsMoments 65 = .ok (.iload 4, 2) := by decide +kernel
theorem dX3_followsMoments_67 : decode cX3_followsMoments 67 = .ok (.aload_n 1, 1) := by decide +kernel
theorem dX3_followsMoments_68 : decode cX3_followsMoments 68 = .ok (.getfield 40, 3) := by decide +kernel
theorem dX3_followsMoments_71 : decode cX3_followsMoments 71 = .ok (.bipush 28, 2) := by decide +kernel
theorem dX3_followsMoments_73 : decode cX3_followsMoments 73 = .ok (.iload 4, 2) := by decide +kernel
theorem dX3_followsMoments_75 : decode cX3_followsMoments 75 = .ok (.iadd, 1) := by decide +kernel
theorem dX3_followsMoments_76 : decode cX3_followsMoments 76 = .ok (.iaload, 1) := by decide +kernel
theorem dX3_followsMoments_77 : decode cX3_followsMoments 77 = .ok (.aload_n 0, 1) := by decide +kernel
theorem dX3_followsMoments_78 : decode cX3_followsMoments 78 = .ok (.getfield 13, 3) := by decide +kernel
theorem dX3_followsMoments_81 : decode cX3_followsMoments 81 = .ok (.iconst 0, 1) := by decide +kernel
theorem dX3_followsMoments_82 : decode cX3_followsMoments 82 = .ok (.aaload, 1) := by decide +kernel
theorem dX3_followsMoments_83 : decode cX3_followsMoments 83 = .ok (.invokestatic 50, 3) := by decide +kernel
theorem dX3_followsMoments_86 : decode cX3_followsMoments 86 = .ok (.ifCond .ne 5, 3) := by decide +kernel
theorem dX3_followsMoments_89 : decode cX3_followsMoments 89 = .ok (.iconst 0, 1) := by decide +kernel
theorem dX3_followsMoments_90 : decode cX3_followsMoments 90 = .ok (.ireturn, 1) := by decide +kernel
theorem dX3_followsMoments_91 : decode cX3_followsMoments 91 = .ok (.iinc 3 1, 3) := by decide +kernel
theorem dX3_followsMoments_94 : decode cX3_followsMoments 94 = .ok (.goto (-67), 3) := by decide +kernel
theorem dX3_followsMoments_97 : decode cX3_followsMoments 97 = .ok (.iconst 1, 1) := by decide +kernel
theorem dX3_followsMoments_98 : decode cX3_followsMoments 98 = .ok (.ireturn, 1) := by decide +kernel
theorem dX3_removeFrom_0 : decode cX3_removeFrom 0 = .ok (.aload_n 0, 1) := by decide +kernel
theorem dX3_removeFrom_1 : decode cX3_removeFrom 1 = .ok (.iconst 0, 1) := by decide +kernel
theorem dX3_removeFrom_2 : decode cX3_removeFrom 2 = .ok (.iaload, 1) := by decide +kernel
theorem dX3_removeFrom_3 : decode cX3_removeFrom 3 = .ok (.aload_n 0, 1) := by decide +kernel
theorem dX3_removeFrom_4 : decode cX3_removeFrom 4 = .ok (.iconst 1, 1) := by decide +kernel
theorem dX3_removeFrom_5 : decode cX3_removeFrom 5 = .ok (.iaload, 1) := by decide +kernel
theorem dX3_removeFrom_6 : decode cX3_removeFrom 6 = .ok (.if_icmp .lt 6, 3) := by decide +kernel
theorem dX3_removeFrom_9 : decode cX3_removeFrom 9 = .ok (.bipush (-100), 2) := by decide +kernel
theorem dX3_removeFrom_11 : decode cX3_removeFrom 11 = .ok (.ireturn, 1) := by decide +kernel
theorem dX3_removeFrom_12 : decode cX3_removeFrom 12 = .ok (.iload_n 1, 1) := by decide +kernel
theorem dX3_removeFrom_13 : decode cX3_removeFrom 13 = .ok (.iconst 1, 1) := by decide +kernel
theorem dX3_removeFrom_14 : decode cX3_removeFrom 14 = .ok (.if_icmp .ne 18, 3) := by decide +kernel
theorem dX3_removeFrom_17 : decode cX3_removeFrom 17 = .ok (.aload_n 0, 1) := by decide +kernel
theorem dX3_removeFrom_18 : decode cX3_removeFrom 18 = .ok (.iconst 1, 1) := by decide +kernel
theorem dX3_removeFrom_19 : decode cX3_removeFrom 19 = .ok (.dup2, 1) := by decide +kernel
theorem dX3_removeFrom_20 : decode cX3_removeFrom 20 = .ok (.iaload, 1) := by decide +kernel
theorem dX3_removeFrom_21 : decode cX3_removeFrom 21 = .ok (.iconst 1, 1) := by decide +kernel
theorem dX3_removeFrom_22 : decode cX3_removeFrom 22 = .ok (.isub, 1) := by decide +kernel
theorem dX3_removeFrom_23 : decode cX3_removeFrom 23 = .ok (.iastore, 1) := by decide +kernel
theorem dX3_removeFrom_24 : decode cX3_removeFrom 24 = .ok (.aload_n 0, 1) := by decide +kernel
theorem dX3_removeFrom_25 : decode cX3_removeFrom 25 = .ok (.iconst 3, 1) := by decide +kernel
theorem dX3_removeFrom_26 : decode cX3_removeFrom 26 = .ok (.aload_n 0, 1) := by decide +kernel
theorem dX3_removeFrom_27 : decode cX3_removeFrom 27 = .ok (.iconst 1, 1) := by decide +kernel
theorem dX3_removeFrom_28 : decode cX3_removeFrom 28 = .ok (.iaload, 1) := by decide +kernel
theorem dX3_removeFrom_29 : decode cX3_removeFrom 29 = .ok (.iadd, 1) := by decide +kernel
theorem dX3_removeFrom_30 : decode cX3_removeFrom 30 = .ok (.iaload, 1) := by decide +kernel
theorem dX3_removeFrom_31 : decode cX3_removeFrom 31 = .ok (.ireturn, 1) := by decide +kernel
theorem dX3_removeFrom_32 : decode cX3_removeFrom 32 = .ok (.aload_n 0, 1) := by decide +kernel
theorem dX3_removeFrom_33 : decode cX3_removeFrom 33 = .ok (.iconst 0, 1) := by decide +kernel
theorem dX3_removeFrom_34 : decode cX3_removeFrom 34 = .ok (.dup2, 1) := by decide +kernel
theorem dX3_removeFrom_35 : decode cX3_removeFrom 35 = .ok (.iaload, 1) := by decide +kernel
theorem dX3_removeFrom_36 : decode cX3_removeFrom 36 = .ok (.iconst 1, 1) := by decide +kernel
theorem dX3_removeFrom_37 : decode cX3_removeFrom 37 = .ok (.iadd, 1) := by decide +kernel
theorem dX3_removeFrom_38 : decode cX3_removeFrom 38 = .ok (.iastore, 1) := by decide +kernel
theorem dX3_removeFrom_39 : decode cX3_removeFrom 39 = .ok (.aload_n 0, 1) := by decide +kernel
theorem dX3_removeFrom_40 : decode cX3_removeFrom 40 = .ok (.iconst 3, 1) := by decide +kernel
theorem dX3_removeFrom_41 : decode cX3_removeFrom 41 = .ok (.aload_n 0, 1) := by decide +kernel
theorem dX3_removeFrom_42 : decode cX3_removeFrom 42 = .ok (.iconst 0, 1) := by decide +kernel
theorem dX3_removeFrom_43 : decode cX3_removeFrom 43 = .ok (.iaload, 1) := by decide +kernel
theorem dX3_removeFrom_44 : decode cX3_removeFrom 44 = .ok (.iadd, 1) := by decide +kernel
theorem dX3_removeFrom_45 : decode cX3_removeFrom 45 = .ok (.iconst 1, 1) := by decide +kernel
theorem dX3_removeFrom_46 : decode cX3_removeFrom 46 = .ok (.isub, 1) := by decide +kernel
theorem dX3_removeFrom_47 : decode cX3_removeFrom 47 = .ok (.iaload, 1) := by decide +kernel
theorem dX3_removeFrom_48 : decode cX3_removeFrom 48 = .ok (.ireturn, 1) := by decide +kernel
theorem dX3_serve_0 : decode cX3_serve 0 = .ok (.aload_n 0, 1) := by decide +kernel
theorem dX3_serve_1 : decode cX3_serve 1 = .ok (.getfield 73, 3) := by decide +kernel
theorem dX3_serve_4 : decode cX3_serve 4 = .ok (.aload_n 0, 1) := by decide +kernel
theorem dX3_serve_5 : decode cX3_serve 5 = .ok (.getfield 76, 3) := by decide +kernel
theorem dX3_serve_8 : decode cX3_serve 8 = .ok (.iload_n 1, 1) := by decide +kernel
theorem dX3_serve_9 : decode cX3_serve 9 = .ok (.iaload, 1) := by decide +kernel
theorem dX3_serve_10 : decode cX3_serve 10 = .ok (.iaload, 1) := by decide +kernel
theorem dX3_serve_11 : decode cX3_serve 11 = .ok (.istore 4, 2) := by decide +kernel
theorem dX3_serve_13 : decode cX3_serve 13 = .ok (.aload_n 0, 1) := by decide +kernel
theorem dX3_serve_14 : decode cX3_serve 14 = .ok (.getfield 79, 3) := by decide +kernel
theorem dX3_serve_17 : decode cX3_serve 17 = .ok (.iload_n 1, 1) := by decide +kernel
theorem dX3_serve_18 : decode cX3_serve 18 = .ok (.iaload, 1) := by decide +kernel
theorem dX3_serve_19 : decode cX3_serve 19 = .ok (.istore 5, 2) := by decide +kernel
theorem dX3_serve_21 : decode cX3_serve 21 = .ok (.iload 4, 2) := by decide +kernel
theorem dX3_serve_23 : decode cX3_serve 23 = .ok (.ifCond .ne 5, 3) := by decide +kernel
theorem dX3_serve_26 : decode cX3_serve 26 = .ok (.iconst 1, 1) := by decide +kernel
theorem dX3_serve_27 : decode cX3_serve 27 = .ok (.ireturn, 1) := by decide +kernel
theorem dX3_serve_28 : decode cX3_serve 28 = .ok (.aload_n 0, 1) := by decide +kernel
theorem dX3_serve_29 : decode cX3_serve 29 = .ok (.getfield 26, 3) := by decide +kernel
theorem dX3_serve_32 : decode cX3_serve 32 = .ok (.iconst 1, 1) := by decide +kernel
theorem dX3_serve_33 : decode cX3_serve 33 = .ok (.if_icmp .eq 11, 3) := by decide +kernel
theorem dX3_serve_36 : decode cX3_serve 36 = .ok (.aload_n 0, 1) := by decide +kernel
theorem dX3_serve_37 : decode cX3_serve 37 = .ok (.getfield 26, 3) := by decide +kernel
theorem dX3_serve_40 : decode cX3_serve 40 = .ok (.iconst 2, 1) := by decide +kernel
theorem dX3_serve_41 : decode cX3_serve 41 = .ok (.if_icmp .ne 35, 3) := by decide +kernel
theorem dX3_serve_44 : decode cX3_serve 44 = .ok (.iload 4, 2) := by decide +kernel
theorem dX3_serve_46 : decode cX3_serve 46 = .ok (.iconst 1, 1) := by decide +kernel
theorem dX3_serve_47 : decode cX3_serve 47 = .ok (.if_icmp .eq 21, 3) := by decide +kernel
theorem dX3_serve_50 : decode cX3_serve 50 = .ok (.iload_n 2, 1) := by decide +kernel
theorem dX3_serve_51 : decode cX3_serve 51 = .ok (.aload_n 3, 1) := by decide +kernel
theorem dX3_serve_52 : decode cX3_serve 52 = .ok (.aload_n 0, 1) := by decide +kernel
theorem dX3_serve_53 : decode cX3_serve 53 = .ok (.getfield 26, 3) := by decide +kernel
theorem dX3_serve_56 : decode cX3_serve 56 = .ok (.invokestatic 82, 3) := by decide +kernel
theorem dX3_serve_59 : decode cX3_serve 59 = .ok (.if_icmp .ne 7, 3) := by decide +kernel
theorem dX3_serve_62 : decode cX3_serve 62 = .ok (.iconst 1, 1) := by decide +kernel
theorem dX3_serve_63 : decode cX3_serve 63 = .ok (.goto 4, 3) := by decide +kernel
theorem dX3_serve_66 : decode cX3_serve 66 = .ok (.iconst 0, 1) := by decide +kernel
theorem dX3_serve_67 : decode cX3_serve 67 = .ok (.ireturn, 1) := by decide +kernel
theorem dX3_serve_68 : decode cX3_serve 68 = .ok (.aload_n 3, 1) := by decide +kernel
theorem dX3_serve_69 : decode cX3_serve 69 = .ok (.iload 5, 2) := by decide +kernel
theorem dX3_serve_71 : decode cX3_serve 71 = .ok (.invokestatic 86, 3) := by decide +kernel
theorem dX3_serve_74 : decode cX3_serve 74 = .ok (.iconst 1, 1) := by decide +kernel
theorem dX3_serve_75 : decode cX3_serve 75 = .ok (.ireturn, 1) := by decide +kernel
theorem dX3_serve_76 : decode cX3_serve 76 = .ok (.iload 4, 2) := by decide +kernel
theorem dX3_serve_78 : decode cX3_serve 78 = .ok (.iconst 1, 1) := by decide +kernel
theorem dX3_serve_79 : decode cX3_serve 79 = .ok (.if_icmp .ne 25, 3) := by decide +kernel
theorem dX3_serve_82 : decode cX3_serve 82 = .ok (.aload_n 3, 1) := by decide +kernel
theorem dX3_serve_83 : decode cX3_serve 83 = .ok (.iconst 2, 1) := by decide +kernel
theorem dX3_serve_84 : decode cX3_serve 84 = .ok (.aload_n 0, 1) := by decide +kernel
theorem dX3_serve_85 : decode cX3_serve 85 = .ok (.getfield 26, 3) := by decide +kernel
theorem dX3_serve_88 : decode cX3_serve 88 = .ok (.iconst 3, 1) := by decide +kernel
theorem dX3_serve_89 : decode cX3_serve 89 = .ok (.if_icmp .ne 12, 3) := by decide +kernel
theorem dX3_serve_92 : decode cX3_serve 92 = .ok (.aload_n 3, 1) := by decide +kernel
theorem dX3_serve_93 : decode cX3_serve 93 = .ok (.iconst 2, 1) := by decide +kernel
theorem dX3_serve_94 : decode cX3_serve 94 = .ok (.iaload, 1) := by decide +kernel
theorem dX3_serve_95 : decode cX3_serve 95 = .ok (.iload 5, 2) := by decide +kernel
theorem dX3_serve_97 : decode cX3_serve 97 = .ok (.iadd, 1) := by decide +kernel
theorem dX3_serve_98 : decode cX3_serve 98 = .ok (.goto 5, 3) := by decide +kernel
theorem dX3_serve_101 : decode cX3_serve 101 = .ok (.iload 5, 2) := by decide +kernel
theorem dX3_serve_103 : decode cX3_serve 103 = .ok (.iastore, 1) := by decide +kernel
theorem dX3_serve_104 : decode cX3_serve 104 = .ok (.iload_n 2, 1) := by decide +kernel
theorem dX3_serve_105 : decode cX3_serve 105 = .ok (.aload_n 3, 1) := by decide +kernel
theorem dX3_serve_106 : decode cX3_serve 106 = .ok (.iconst 2, 1) := by decide +kernel
theorem dX3_serve_107 : decode cX3_serve 107 = .ok (.iaload, 1) := by decide +kernel
theorem dX3_serve_108 : decode cX3_serve 108 = .ok (.if_icmp .eq 17, 3) := by decide +kernel
theorem dX3_serve_111 : decode cX3_serve 111 = .ok (.iload 4, 2) := by decide +kernel
theorem dX3_serve_113 : decode cX3_serve 113 = .ok (.iconst 1, 1) := by decide +kernel
theorem dX3_serve_114 : decode cX3_serve 114 = .ok (.if_icmp .ne 15, 3) := by decide +kernel
theorem dX3_serve_117 : decode cX3_serve 117 = .ok (.aload_n 0, 1) := by decide +kernel
theorem dX3_serve_118 : decode cX3_serve 118 = .ok (.getfield 26, 3) := by decide +kernel
theorem dX3_serve_121 : decode cX3_serve 121 = .ok (.iconst 4, 1) := by decide +kernel
theorem dX3_serve_122 : decode cX3_serve 122 = .ok (.if_icmp .ne 7, 3) := by decide +kernel
theorem dX3_serve_125 : decode cX3_serve 125 = .ok (.iconst 1, 1) := by decide +kernel
theorem dX3_serve_126 : decode cX3_serve 126 = .ok (.goto 4, 3) := by decide +kernel
theorem dX3_serve_129 : decode cX3_serve 129 = .ok (.iconst 0, 1) := by decide +kernel
theorem dX3_serve_130 : decode cX3_serve 130 = .ok (.ireturn, 1) := by decide +kernel
theorem dX4_ofField_0 : decode cX4_ofField 0 = .ok (.bipush 8, 2) := by decide +kernel
theorem dX4_ofField_2 : decode cX4_ofField 2 = .ok (.iconst 2, 1) := by decide +kernel
theorem dX4_ofField_3 : decode cX4_ofField 3 = .ok (.iload_n 0, 1) := by decide +kernel
theorem dX4_ofField_4 : decode cX4_ofField 4 = .ok (.imul, 1) := by decide +kernel
theorem dX4_ofField_5 : decode cX4_ofField 5 = .ok (.iadd, 1) := by decide +kernel
theorem dX4_ofField_6 : decode cX4_ofField 6 = .ok (.iload_n 1, 1) := by decide +kernel
theorem dX4_ofField_7 : decode cX4_ofField 7 = .ok (.iadd, 1) := by decide +kernel
theorem dX4_ofField_8 : decode cX4_ofField 8 = .ok (.ireturn, 1) := by decide +kernel
theorem dX4_ofThread_0 : decode cX4_ofThread 0 = .ok (.bipush 46, 2) := by decide +kernel
theorem dX4_ofThread_2 : decode cX4_ofThread 2 = .ok (.iload_n 0, 1) := by decide +kernel
theorem dX4_ofThread_3 : decode cX4_ofThread 3 = .ok (.bipush 18, 2) := by decide +kernel
theorem dX4_ofThread_5 : decode cX4_ofThread 5 = .ok (.imul, 1) := by decide +kernel
theorem dX4_ofThread_6 : decode cX4_ofThread 6 = .ok (.iadd, 1) := by decide +kernel
theorem dX4_ofThread_7 : decode cX4_ofThread 7 = .ok (.ireturn, 1) := by decide +kernel
theorem dX6_addCall_0 : decode cX6_addCall 0 = .ok (.iload_n 1, 1) := by decide +kernel
theorem dX6_addCall_1 : decode cX6_addCall 1 = .ok (.iconst 3, 1) := by decide +kernel
theorem dX6_addCall_2 : decode cX6_addCall 2 = .ok (.imul, 1) := by decide +kernel
theorem dX6_addCall_3 : decode cX6_addCall 3 = .ok (.aload_n 0, 1) := by decide +kernel
theorem dX6_addCall_4 : decode cX6_addCall 4 = .ok (.getfield 21, 3) := by decide +kernel
theorem dX6_addCall_7 : decode cX6_addCall 7 = .ok (.iload_n 1, 1) := by decide +kernel
theorem dX6_addCall_8 : decode cX6_addCall 8 = .ok (.iaload, 1) := by decide +kernel
theorem dX6_addCall_9 : decode cX6_addCall 9 = .ok (.iadd, 1) := by decide +kernel
theorem dX6_addCall_10 : decode cX6_addCall 10 = .ok (.istore 4, 2) := by decide +kernel
theorem dX6_addCall_12 : decode cX6_addCall 12 = .ok (.aload_n 0, 1) := by decide +kernel
theorem dX6_addCall_13 : decode cX6_addCall 13 = .ok (.getfield 24, 3) := by decide +kernel
theorem dX6_addCall_16 : decode cX6_addCall 16 = .ok (.iload 4, 2) := by decide +kernel
theorem dX6_addCall_18 : decode cX6_addCall 18 = .ok (.iload_n 2, 1) := by decide +kernel
theorem dX6_addCall_19 : decode cX6_addCall 19 = .ok (.iastore, 1) := by decide +kernel
theorem dX6_addCall_20 : decode cX6_addCall 20 = .ok (.aload_n 0, 1) := by decide +kernel
theorem dX6_addCall_21 : decode cX6_addCall 21 = .ok (.getfield 27, 3) := by decide +kernel
theorem dX6_addCall_24 : decode cX6_addCall 24 = .ok (.iload 4, 2) := by decide +kernel
theorem dX6_addCall_26 : decode cX6_addCall 26 = .ok (.iload_n 3, 1) := by decide +kernel
theorem dX6_addCall_27 : decode cX6_addCall 27 = .ok (.iastore, 1) := by decide +kernel
theorem dX6_addCall_28 : decode cX6_addCall 28 = .ok (.aload_n 0, 1) := by decide +kernel
theorem dX6_addCall_29 : decode cX6_addCall 29 = .ok (.getfield 21, 3) := by decide +kernel
theorem dX6_addCall_32 : decode cX6_addCall 32 = .ok (.iload_n 1, 1) := by decide +kernel
theorem dX6_addCall_33 : decode cX6_addCall 33 = .ok (.dup2, 1) := by decide +kernel
theorem dX6_addCall_34 : decode cX6_addCall 34 = .ok (.iaload, 1) := by decide +kernel
theorem dX6_addCall_35 : decode cX6_addCall 35 = .ok (.iconst 1, 1) := by decide +kernel
theorem dX6_addCall_36 : decode cX6_addCall 36 = .ok (.iadd, 1) := by decide +kernel
theorem dX6_addCall_37 : decode cX6_addCall 37 = .ok (.iastore, 1) := by decide +kernel
theorem dX6_addCall_38 : decode cX6_addCall 38 = .ok (.aload_n 0, 1) := by decide +kernel
theorem dX6_addCall_39 : decode cX6_addCall 39 = .ok (.getfield 21, 3) := by decide +kernel
theorem dX6_addCall_42 : decode cX6_addCall 42 = .ok (.iload_n 1, 1) := by decide +kernel
theorem dX6_addCall_43 : decode cX6_addCall 43 = .ok (.iaload, 1) := by decide +kernel
theorem dX6_addCall_44 : decode cX6_addCall 44 = .ok (.ireturn, 1) := by decide +kernel
theorem dX6_append_0 : decode cX6_append 0 = .ok (.aload_n 0, 1) := by decide +kernel
theorem dX6_append_1 : decode cX6_append 1 = .ok (.iload_n 1, 1) := by decide +kernel
theorem dX6_append_2 : decode cX6_append 2 = .ok (.invokevirtual 59, 3) := by decide +kernel
theorem dX6_append_5 : decode cX6_append 5 = .ok (.istore 6, 2) := by decide +kernel
theorem dX6_append_7 : decode cX6_append 7 = .ok (.iload_n 1, 1) := by decide +kernel
theorem dX6_append_8 : decode cX6_append 8 = .ok (.bipush 30, 2) := by decide +kernel
theorem dX6_append_10 : decode cX6_append 10 = .ok (.imul, 1) := by decide +kernel
theorem dX6_append_11 : decode cX6_append 11 = .ok (.iload 6, 2) := by decide +kernel
theorem dX6_append_13 : decode cX6_append 13 = .ok (.iadd, 1) := by decide +kernel
theorem dX6_append_14 : decode cX6_append 14 = .ok (.iconst 5, 1) := by decide +kernel
theorem dX6_append_15 : decode cX6_append 15 = .ok (.imul, 1) := by decide +kernel
theorem dX6_append_16 : decode cX6_append 16 = .ok (.istore 7, 2) := by decide +kernel
theorem dX6_append_18 : decode cX6_append 18 = .ok (.aload_n 0, 1) := by decide +kernel
theorem dX6_append_19 : decode cX6_append 19 = .ok (.getfield 11, 3) := by decide +kernel
theorem dX6_append_22 : decode cX6_append 22 = .ok (.iload 7, 2) := by decide +kernel
theorem dX6_append_24 : decode cX6_append 24 = .ok (.iload_n 2, 1) := by decide +kernel
theorem dX6_append_25 : decode cX6_append 25 = .ok (.iastore, 1) := by decide +kernel
theorem dX6_append_26 : decode cX6_append 26 = .ok (.aload_n 0, 1) := by decide +kernel
theorem dX6_append_27 : decode cX6_append 27 = .ok (.getfield 11, 3) := by decide +kernel
theorem dX6_append_30 : decode cX6_append 30 = .ok (.iload 7, 2) := by decide +kernel
theorem dX6_append_32 : decode cX6_append 32 = .ok (.iconst 1, 1) := by decide +kernel
theorem dX6_append_33 : decode cX6_append 33 = .ok (.iadd, 1) := by decide +kernel
theorem dX6_append_34 : decode cX6_append 34 = .ok (.iload_n 3, 1) := by decide +kernel
theorem dX6_append_35 : decode cX6_append 35 = .ok (.iastore, 1) := by decide +kernel
theorem dX6_append_36 : decode cX6_append 36 = .ok (.aload_n 0, 1) := by decide +kernel
theorem dX6_append_37 : decode cX6_append 37 = .ok (.getfield 11, 3) := by decide +kernel
theorem dX6_append_40 : decode cX6_append 40 = .ok (.iload 7, 2) := by decide +kernel
theorem dX6_append_42 : decode cX6_append 42 = .ok (.iconst 2, 1) := by decide +kernel
theorem dX6_append_43 : decode cX6_append 43 = .ok (.iadd, 1) := by decide +kernel
theorem dX6_append_44 : decode cX6_append 44 = .ok (.iload 4, 2) := by decide +kernel
theorem dX6_append_46 : decode cX6_append 46 = .ok (.iastore, 1) := by decide +kernel
theorem dX6_append_47 : decode cX6_append 47 = .ok (.aload_n 0, 1) := by decide +kernel
theorem dX6_append_48 : decode cX6_append 48 = .ok (.getfield 11, 3) := by decide +kernel
theorem dX6_append_51 : decode cX6_append 51 = .ok (.iload 7, 2) := by decide +kernel
theorem dX6_append_53 : decode cX6_append 53 = .ok (.iconst 3, 1) := by decide +kernel
theorem dX6_append_54 : decode cX6_append 54 = .ok (.iadd, 1) := by decide +kernel
theorem dX6_append_55 : decode cX6_append 55 = .ok (.iload 5, 2) := by decide +kernel
theorem dX6_append_57 : decode cX6_append 57 = .ok (.iastore, 1) := by decide +kernel
theorem dX6_append_58 : decode cX6_append 58 = .ok (.aload_n 0, 1) := by decide +kernel
theorem dX6_append_59 : decode cX6_append 59 = .ok (.getfield 11, 3) := by decide +kernel
theorem dX6_append_62 : decode cX6_append 62 = .ok (.iload 7, 2) := by decide +kernel
theorem dX6_append_64 : decode cX6_append 64 = .ok (.iconst 4, 1) := by decide +kernel
theorem dX6_append_65 : decode cX6_append 65 = .ok (.iadd, 1) := by decide +kernel
theorem dX6_append_66 : decode cX6_append 66 = .ok (.iconst 0, 1) := by decide +kernel
theorem dX6_append_67 : decode cX6_append 67 = .ok (.iastore, 1) := by decide +kernel
theorem dX6_append_68 : decode cX6_append 68 = .ok (.aload_n 0, 1) := by decide +kernel
theorem dX6_append_69 : decode cX6_append 69 = .ok (.getfield 15, 3) := by decide +kernel
theorem dX6_append_72 : decode cX6_append 72 = .ok (.iload_n 1, 1) := by decide +kernel
theorem dX6_append_73 : decode cX6_append 73 = .ok (.iload 6, 2) := by decide +kernel
theorem dX6_append_75 : decode cX6_append 75 = .ok (.iconst 1, 1) := by decide +kernel
theorem dX6_append_76 : decode cX6_append 76 = .ok (.iadd, 1) := by decide +kernel
theorem dX6_append_77 : decode cX6_append 77 = .ok (.iastore, 1) := by decide +kernel
theorem dX6_append_78 : decode cX6_append 78 = .ok (.iload 6, 2) := by decide +kernel
theorem dX6_append_80 : decode cX6_append 80 = .ok (.iconst 1, 1) := by decide +kernel
theorem dX6_append_81 : decode cX6_append 81 = .ok (.iadd, 1) := by decide +kernel
theorem dX6_append_82 : decode cX6_append 82 = .ok (.ireturn, 1) := by decide +kernel
theorem dX6_copyFrom_0 : decode cX6_copyFrom 0 = .ok (.aload_n 1, 1) := by decide +kernel
theorem dX6_copyFrom_1 : decode cX6_copyFrom 1 = .ok (.getfield 11, 3) := by decide +kernel
theorem dX6_copyFrom_4 : decode cX6_copyFrom 4 = .ok (.iconst 0, 1) := by decide +kernel
theorem dX6_copyFrom_5 : decode cX6_copyFrom 5 = .ok (.aload_n 0, 1) := by decide +kernel
theorem dX6_copyFrom_6 : decode cX6_copyFrom 6 = .ok (.getfield 11, 3) := by decide +kernel
theorem dX6_copyFrom_9 : decode cX6_copyFrom 9 = .ok (.iconst 0, 1) := by decide +kernel
theorem dX6_copyFrom_10 : decode cX6_copyFrom 10 = .ok (.aload_n 0, 1) := by decide +kernel
theorem dX6_copyFrom_11 : decode cX6_copyFrom 11 = .ok (.getfield 11, 3) := by decide +kernel
theorem dX6_copyFrom_14 : decode cX6_copyFrom 14 = .ok (.arraylength, 1) := by decide +kernel
theorem dX6_copyFrom_15 : decode cX6_copyFrom 15 = .ok (.invokestatic 47, 3) := by decide +kernel
theorem dX6_copyFrom_18 : decode cX6_copyFrom 18 = .ok (.aload_n 1, 1) := by decide +kernel
theorem dX6_copyFrom_19 : decode cX6_copyFrom 19 = .ok (.getfield 15, 3) := by decide +kernel
theorem dX6_copyFrom_22 : decode cX6_copyFrom 22 = .ok (.iconst 0, 1) := by decide +kernel
theorem dX6_copyFrom_23 : decode cX6_copyFrom 23 = .ok (.aload_n 0, 1) := by decide +kernel
theorem dX6_copyFrom_24 : decode cX6_copyFrom 24 = .ok (.getfield 15, 3) := by decide +kernel
theorem dX6_copyFrom_27 : decode cX6_copyFrom 27 = .ok (.iconst 0, 1) := by decide +kernel
theorem dX6_copyFrom_28 : decode cX6_copyFrom 28 = .ok (.aload_n 0, 1) := by decide +kernel
theorem dX6_copyFrom_29 : decode cX6_copyFrom 29 = .ok (.getfield 15, 3) := by decide +kernel
theorem dX6_copyFrom_32 : decode cX6_copyFrom 32 = .ok (.arraylength, 1) := by decide +kernel
theorem dX6_copyFrom_33 : decode cX6_copyFrom 33 = .ok (.invokestatic 47, 3) := by decide +kernel
theorem dX6_copyFrom_36 : decode cX6_copyFrom 36 = .ok (.aload_n 1, 1) := by decide +kernel
theorem dX6_copyFrom_37 : decode cX6_copyFrom 37 = .ok (.getfield 18, 3) := by decide +kernel
theorem dX6_copyFrom_40 : decode cX6_copyFrom 40 = .ok (.iconst 0, 1) := by decide +kernel
theorem dX6_copyFrom_41 : decode cX6_copyFrom 41 = .ok (.aload_n 0, 1) := by decide +kernel
theorem dX6_copyFrom_42 : decode cX6_copyFrom 42 = .ok (.getfield 18, 3) := by decide +kernel
theorem dX6_copyFrom_45 : decode cX6_copyFrom 45 = .ok (.iconst 0, 1) := by decide +kernel
theorem dX6_copyFrom_46 : decode cX6_copyFrom 46 = .ok (.aload_n 0, 1) := by decide +kernel
theorem dX6_copyFrom_47 : decode cX6_copyFrom 47 = .ok (.getfield 18, 3) := by decide +kernel
theorem dX6_copyFrom_50 : decode cX6_copyFrom 50 = .ok (.arraylength, 1) := by decide +kernel
theorem dX6_copyFrom_51 : decode cX6_copyFrom 51 = .ok (.invokestatic 47, 3) := by decide +kernel
theorem dX6_copyFrom_54 : decode cX6_copyFrom 54 = .ok (.aload_n 1, 1) := by decide +kernel
theorem dX6_copyFrom_55 : decode cX6_copyFrom 55 = .ok (.getfield 21, 3) := by decide +kernel
theorem dX6_copyFrom_58 : decode cX6_copyFrom 58 = .ok (.iconst 0, 1) := by decide +kernel
theorem dX6_copyFrom_59 : decode cX6_copyFrom 59 = .ok (.aload_n 0, 1) := by decide +kernel
theorem dX6_copyFrom_60 : decode cX6_copyFrom 60 = .ok (.getfield 21, 3) := by decide +kernel
theorem dX6_copyFrom_63 : decode cX6_copyFrom 63 = .ok (.iconst 0, 1) := by decide +kernel
theorem dX6_copyFrom_64 : decode cX6_copyFrom 64 = .ok (.aload_n 0, 1) := by decide +kernel
theorem dX6_copyFrom_65 : decode cX6_copyFrom 65 = .ok (.getfield 21, 3) := by decide +kernel
theorem dX6_copyFrom_68 : decode cX6_copyFrom 68 = .ok (.arraylength, 1) := by decide +kernel
theorem dX6_copyFrom_69 : decode cX6_copyFrom 69 = .ok (.invokestatic 47, 3) := by decide +kernel
theorem dX6_copyFrom_72 : decode cX6_copyFrom 72 = .ok (.aload_n 1, 1) := by decide +kernel
theorem dX6_copyFrom_73 : decode cX6_copyFrom 73 = .ok (.getfield 24, 3) := by decide +kernel
theorem dX6_copyFrom_76 : decode cX6_copyFrom 76 = .ok (.iconst 0, 1) := by decide +kernel
theorem dX6_copyFrom_77 : decode cX6_copyFrom 77 = .ok (.aload_n 0, 1) := by decide +kernel
theorem dX6_copyFrom_78 : decode cX6_copyFrom 78 = .ok (.getfield 24, 3) := by decide +kernel
theorem dX6_copyFrom_81 : decode cX6_copyFrom 81 = .ok (.iconst 0, 1) := by decide +kernel
theorem dX6_copyFrom_82 : decode cX6_copyFrom 82 = .ok (.aload_n 0, 1) := by decide +kernel
theorem dX6_copyFrom_83 : decode cX6_copyFrom 83 = .ok (.getfield 24, 3) := by decide +kernel
theorem dX6_copyFrom_86 : decode cX6_copyFrom 86 = .ok (.arraylength, 1) := by decide +kernel
theorem dX6_copyFrom_87 : decode cX6_copyFrom 87 = .ok (.invokestatic 47, 3) := by decide +kernel
theorem dX6_copyFrom_90 : decode cX6_copyFrom 90 = .ok (.aload_n 1, 1) := by decide +kernel
theorem dX6_copyFrom_91 : decode cX6_copyFrom 91 = .ok (.getfield 27, 3) := by decide +kernel
theorem dX6_copyFrom_94 : decode cX6_copyFrom 94 = .ok (.iconst 0, 1) := by decide +kernel
theorem dX6_copyFrom_95 : decode cX6_copyFrom 95 = .ok (.aload_n 0, 1) := by decide +kernel
theorem dX6_copyFrom_96 : decode cX6_copyFrom 96 = .ok (.getfield 27, 3) := by decide +kernel
theorem dX6_copyFrom_99 : decode cX6_copyFrom 99 = .ok (.iconst 0, 1) := by decide +kernel
theorem dX6_copyFrom_100 : decode cX6_copyFrom 100 = .ok (.aload_n 0, 1) := by decide +kernel
theorem dX6_copyFrom_101 : decode cX6_copyFrom 101 = .ok (.getfield 27, 3) := by decide +kernel
theorem dX6_copyFrom_104 : decode cX6_copyFrom 104 = .ok (.arraylength, 1) := by decide +kernel
theorem dX6_copyFrom_105 : decode cX6_copyFrom 105 = .ok (.invokestatic 47, 3) := by decide +kernel
theorem dX6_copyFrom_108 : decode cX6_copyFrom 108 = .ok (.aload_n 0, 1) := by decide +kernel
theorem dX6_copyFrom_109 : decode cX6_copyFrom 109 = .ok (.aload_n 1, 1) := by decide +kernel
theorem dX6_copyFrom_110 : decode cX6_copyFrom 110 = .ok (.getfield 30, 3) := by decide +kernel
theorem dX6_copyFrom_113 : decode cX6_copyFrom 113 = .ok (.putfield 30, 3) := by decide +kernel
theorem dX6_copyFrom_116 : decode cX6_copyFrom 116 = .ok (.aload_n 0, 1) := by decide +kernel
theorem dX6_copyFrom_117 : decode cX6_copyFrom 117 = .ok (.aload_n 1, 1) := by decide +kernel
theorem dX6_copyFrom_118 : decode cX6_copyFrom 118 = .ok (.getfield 34, 3) := by decide +kernel
theorem dX6_copyFrom_121 : decode cX6_copyFrom 121 = .ok (.putfield 34, 3) := by decide +kernel
theorem dX6_copyFrom_124 : decode cX6_copyFrom 124 = .ok (.aload_n 0, 1) := by decide +kernel
theorem dX6_copyFrom_125 : decode cX6_copyFrom 125 = .ok (.aload_n 1, 1) := by decide +kernel
theorem dX6_copyFrom_126 : decode cX6_copyFrom 126 = .ok (.getfield 38, 3) := by decide +kernel
theorem dX6_copyFrom_129 : decode cX6_copyFrom 129 = .ok (.putfield 38, 3) := by decide +kernel
theorem dX6_copyFrom_132 : decode cX6_copyFrom 132 = .ok (.return_, 1) := by decide +kernel
theorem dX6_find_0 : decode cX6_find 0 = .ok (.iload_n 2, 1) := by decide +kernel
theorem dX6_find_1 : decode cX6_find 1 = .ok (.ifCond .lt 13, 3) := by decide +kernel
theorem dX6_find_4 : decode cX6_find 4 = .ok (.iload_n 2, 1) := by decide +kernel
theorem dX6_find_5 : decode cX6_find 5 = .ok (.aload_n 0, 1) := by decide +kernel
theorem dX6_find_6 : decode cX6_find 6 = .ok (.getfield 15, 3) := by decide +kernel
theorem dX6_find_9 : decode cX6_find 9 = .ok (.iload_n 1, 1) := by decide +kernel
theorem dX6_find_10 : decode cX6_find 10 = .ok (.iaload, 1) := by decide +kernel
theorem dX6_find_11 : decode cX6_find 11 = .ok (.if_icmp .lt 5, 3) := by decide +kernel
theorem dX6_find_14 : decode cX6_find 14 = .ok (.iconst (-1), 1) := by decide +kernel
theorem dX6_find_15 : decode cX6_find 15 = .ok (.ireturn, 1) := by decide +kernel
theorem dX6_find_16 : decode cX6_find 16 = .ok (.iload_n 1, 1) := by decide +kernel
theorem dX6_find_17 : decode cX6_find 17 = .ok (.bipush 30, 2) := by decide +kernel
theorem dX6_find_19 : decode cX6_find 19 = .ok (.imul, 1) := by decide +kernel
theorem dX6_find_20 : decode cX6_find 20 = .ok (.iload_n 2, 1) := by decide +kernel
theorem dX6_find_21 : decode cX6_find 21 = .ok (.iadd, 1) := by decide +kernel
theorem dX6_find_22 : decode cX6_find 22 = .ok (.iconst 5, 1) := by decide +kernel
theorem dX6_find_23 : decode cX6_find 23 = .ok (.imul, 1) := by decide +kernel
theorem dX6_find_24 : decode cX6_find 24 = .ok (.ireturn, 1) := by decide +kernel
theorem dX6_isFullFor_0 : decode cX6_isFullFor 0 = .ok (.iload_n 1, 1) := by decide +kernel
theorem dX6_isFullFor_1 : decode cX6_isFullFor 1 = .ok (.iconst 3, 1) := by decide +kernel
theorem dX6_isFullFor_2 : decode cX6_isFullFor 2 = .ok (.if_icmp .ne 19, 3) := by decide +kernel
theorem dX6_isFullFor_5 : decode cX6_isFullFor 5 = .ok (.aload_n 0, 1) := by decide +kernel
theorem dX6_isFullFor_6 : decode cX6_isFullFor 6 = .ok (.getfield 21, 3) := by decide +kernel
theorem dX6_isFullFor_9 : decode cX6_isFullFor 9 = .ok (.iload_n 1, 1) := by decide +kernel
theorem dX6_isFullFor_10 : decode cX6_isFullFor 10 = .ok (.iaload, 1) := by decide +kernel
theorem dX6_isFullFor_11 : decode cX6_isFullFor 11 = .ok (.iconst 4, 1) := by decide +kernel
theorem dX6_isFullFor_12 : decode cX6_isFullFor 12 = .ok (.if_icmp .lt 7, 3) := by decide +kernel
theorem dX6_isFullFor_15 : decode cX6_isFullFor 15 = .ok (.iconst 1, 1) := by decide +kernel
theorem dX6_isFullFor_16 : decode cX6_isFullFor 16 = .ok (.goto 4, 3) := by decide +kernel
theorem dX6_isFullFor_19 : decode cX6_isFullFor 19 = .ok (.iconst 0, 1) := by decide +kernel
theorem dX6_isFullFor_20 : decode cX6_isFullFor 20 = .ok (.ireturn, 1) := by decide +kernel
theorem dX6_isFullFor_21 : decode cX6_isFullFor 21 = .ok (.aload_n 0, 1) := by decide +kernel
theorem dX6_isFullFor_22 : decode cX6_isFullFor 22 = .ok (.getfield 21, 3) := by decide +kernel
theorem dX6_isFullFor_25 : decode cX6_isFullFor 25 = .ok (.iload_n 1, 1) := by decide +kernel
theorem dX6_isFullFor_26 : decode cX6_isFullFor 26 = .ok (.iaload, 1) := by decide +kernel
theorem dX6_isFullFor_27 : decode cX6_isFullFor 27 = .ok (.iconst 3, 1) := by decide +kernel
theorem dX6_isFullFor_28 : decode cX6_isFullFor 28 = .ok (.if_icmp .ge 12, 3) := by decide +kernel
theorem dX6_isFullFor_31 : decode cX6_isFullFor 31 = .ok (.aload_n 0, 1) := by decide +kernel
theorem dX6_isFullFor_32 : decode cX6_isFullFor 32 = .ok (.invokevirtual 63, 3) := by decide +kernel
theorem dX6_isFullFor_35 : decode cX6_isFullFor 35 = .ok (.bipush 6, 2) := by decide +kernel
theorem dX6_isFullFor_37 : decode cX6_isFullFor 37 = .ok (.if_icmp .lt 7, 3) := by decide +kernel
theorem dX6_isFullFor_40 : decode cX6_isFullFor 40 = .ok (.iconst 1, 1) := by decide +kernel
theorem dX6_isFullFor_41 : decode cX6_isFullFor 41 = .ok (.goto 4, 3) := by decide +kernel
theorem dX6_isFullFor_44 : decode cX6_isFullFor 44 = .ok (.iconst 0, 1) := by decide +kernel
theorem dX6_isFullFor_45 : decode cX6_isFullFor 45 = .ok (.ireturn, 1) := by decide +kernel
theorem dX6_size_0 : decode cX6_size 0 = .ok (.iconst 0, 1) := by decide +kernel
theorem dX6_size_1 : decode cX6_size 1 = .ok (.aload_n 0, 1) := by decide +kernel
theorem dX6_size_2 : decode cX6_size 2 = .ok (.getfield 15, 3) := by decide +kernel
theorem dX6_size_5 : decode cX6_size 5 = .ok (.iload_n 1, 1) := by decide +kernel
theorem dX6_size_6 : decode cX6_size 6 = .ok (.iaload, 1) := by decide +kernel
theorem dX6_size_7 : decode cX6_size 7 = .ok (.invokestatic 53, 3) := by decide +kernel
theorem dX6_size_10 : decode cX6_size 10 = .ok (.ireturn, 1) := by decide +kernel
theorem dX6_total_0 : decode cX6_total 0 = .ok (.aload_n 0, 1) := by decide +kernel
theorem dX6_total_1 : decode cX6_total 1 = .ok (.getfield 21, 3) := by decide +kernel
theorem dX6_total_4 : decode cX6_total 4 = .ok (.iconst 0, 1) := by decide +kernel
theorem dX6_total_5 : decode cX6_total 5 = .ok (.iaload, 1) := by decide +kernel
theorem dX6_total_6 : decode cX6_total 6 = .ok (.aload_n 0, 1) := by decide +kernel
theorem dX6_total_7 : decode cX6_total 7 = .ok (.getfield 21, 3) := by decide +kernel
theorem dX6_total_10 : decode cX6_total 10 = .ok (.iconst 1, 1) := by decide +kernel
theorem dX6_total_11 : decode cX6_total 11 = .ok (.iaload, 1) := by decide +kernel
theorem dX6_total_12 : decode cX6_total 12 = .ok (.iadd, 1) := by decide +kernel
theorem dX6_total_13 : decode cX6_total 13 = .ok (.aload_n 0, 1) := by decide +kernel
theorem dX6_total_14 : decode cX6_total 14 = .ok (.getfield 21, 3) := by decide +kernel
theorem dX6_total_17 : decode cX6_total 17 = .ok (.iconst 2, 1) := by decide +kernel
theorem dX6_total_18 : decode cX6_total 18 = .ok (.iaload, 1) := by decide +kernel
theorem dX6_total_19 : decode cX6_total 19 = .ok (.iadd, 1) := by decide +kernel
theorem dX6_total_20 : decode cX6_total 20 = .ok (.ireturn, 1) := by decide +kernel
theorem dX7_amount_0 : decode cX7_amount 0 = .ok (.iload_n 0, 1) := by decide +kernel
theorem dX7_amount_1 : decode cX7_amount 1 = .ok (.iconst 5, 1) := by decide +kernel
theorem dX7_amount_2 : decode cX7_amount 2 = .ok (.ishr, 1) := by decide +kernel
theorem dX7_amount_3 : decode cX7_amount 3 = .ok (.ireturn, 1) := by decide +kernel
theorem dX7_answerFrom_0 : decode cX7_answerFrom 0 = .ok (.iload_n 0, 1) := by decide +kernel
theorem dX7_answerFrom_1 : decode cX7_answerFrom 1 = .ok (.invokestatic 20, 3) := by decide +kernel
theorem dX7_answerFrom_4 : decode cX7_answerFrom 4 = .ok (.lookupswitch 34 #[(0, 28), (2, 31)], 28) := by decide +kernel
theorem dX7_answerFrom_32 : decode cX7_answerFrom 32 = .ok (.bipush (-100), 2) := by decide +kernel
theorem dX7_answerFrom_34 : decode cX7_answerFrom 34 = .ok (.ireturn, 1) := by decide +kernel
theorem dX7_answerFrom_35 : decode cX7_answerFrom 35 = .ok (.bipush 100, 2) := by decide +kernel
theorem dX7_answerFrom_37 : decode cX7_answerFrom 37 = .ok (.ireturn, 1) := by decide +kernel
theorem dX7_answerFrom_38 : decode cX7_answerFrom 38 = .ok (.iload_n 0, 1) := by decide +kernel
theorem dX7_answerFrom_39 : decode cX7_answerFrom 39 = .ok (.invokestatic 24, 3) := by decide +kernel
theorem dX7_answerFrom_42 : decode cX7_answerFrom 42 = .ok (.ireturn, 1) := by decide +kernel
theorem dX7_areAlike_0 : decode cX7_areAlike 0 = .ok (.iload_n 0, 1) := by decide +kernel
theorem dX7_areAlike_1 : decode cX7_areAlike 1 = .ok (.iconst 2, 1) := by decide +kernel
theorem dX7_areAlike_2 : decode cX7_areAlike 2 = .ok (.ishr, 1) := by decide +kernel
theorem dX7_areAlike_3 : decode cX7_areAlike 3 = .ok (.iload_n 1, 1) := by decide +kernel
theorem dX7_areAlike_4 : decode cX7_areAlike 4 = .ok (.iconst 2, 1) := by decide +kernel
theorem dX7_areAlike_5 : decode cX7_areAlike 5 = .ok (.ishr, 1) := by decide +kernel
theorem dX7_areAlike_6 : decode cX7_areAlike 6 = .ok (.if_icmp .ne 7, 3) := by decide +kernel
theorem dX7_areAlike_9 : decode cX7_areAlike 9 = .ok (.iconst 1, 1) := by decide +kernel
theorem dX7_areAlike_10 : decode cX7_areAlike 10 = .ok (.goto 4, 3) := by decide +kernel
theorem dX7_areAlike_13 : decode cX7_areAlike 13 = .ok (.iconst 0, 1) := by decide +kernel
theorem dX7_areAlike_14 : decode cX7_areAlike 14 = .ok (.ireturn, 1) := by decide +kernel
theorem dX7_kind_0 : decode cX7_kind 0 = .ok (.iload_n 0, 1) := by decide +kernel
theorem dX7_kind_1 : decode cX7_kind 1 = .ok (.iconst 3, 1) := by decide +kernel
theorem dX7_kind_2 : decode cX7_kind 2 = .ok (.ishr, 1) := by decide +kernel
theorem dX7_kind_3 : decode cX7_kind 3 = .ok (.iconst 3, 1) := by decide +kernel
theorem dX7_kind_4 : decode cX7_kind 4 = .ok (.iand, 1) := by decide +kernel
theorem dX7_kind_5 : decode cX7_kind 5 = .ok (.ireturn, 1) := by decide +kernel
theorem dX7_lack_0 : decode cX7_lack 0 = .ok (.iload_n 0, 1) := by decide +kernel
theorem dX7_lack_1 : decode cX7_lack 1 = .ok (.iconst 3, 1) := by decide +kernel
theorem dX7_lack_2 : decode cX7_lack 2 = .ok (.ishr, 1) := by decide +kernel
theorem dX7_lack_3 : decode cX7_lack 3 = .ok (.iconst 3, 1) := by decide +kernel
theorem dX7_lack_4 : decode cX7_lack 4 = .ok (.iand, 1) := by decide +kernel
theorem dX7_lack_5 : decode cX7_lack 5 = .ok (.istore_n 2, 1) := by decide +kernel
theorem dX7_lack_6 : decode cX7_lack 6 = .ok (.iload_n 2, 1) := by decide +kernel
theorem dX7_lack_7 : decode cX7_lack 7 = .ok (.iload_n 1, 1) := by decide +kernel
theorem dX7_lack_8 : decode cX7_lack 8 = .ok (.if_icmp .ne 5, 3) := by decide +kernel
theorem dX7_lack_11 : decode cX7_lack 11 = .ok (.iconst 0, 1) := by decide +kernel
theorem dX7_lack_12 : decode cX7_lack 12 = .ok (.ireturn, 1) := by decide +kernel
theorem dX7_lack_13 : decode cX7_lack 13 = .ok (.iload_n 2, 1) := by decide +kernel
theorem dX7_lack_14 : decode cX7_lack 14 = .ok (.ifCond .ne 7, 3) := by decide +kernel
theorem dX7_lack_17 : decode cX7_lack 17 = .ok (.iconst 1, 1) := by decide +kernel
theorem dX7_lack_18 : decode cX7_lack 18 = .ok (.goto 4, 3) := by decide +kernel
theorem dX7_lack_21 : decode cX7_lack 21 = .ok (.iconst 2, 1) := by decide +kernel
theorem dX7_lack_22 : decode cX7_lack 22 = .ok (.ireturn, 1) := by decide +kernel
theorem dX7_marked_0 : decode cX7_marked 0 = .ok (.iload_n 0, 1) := by decide +kernel
theorem dX7_marked_1 : decode cX7_marked 1 = .ok (.iconst 3, 1) := by decide +kernel
theorem dX7_marked_2 : decode cX7_marked 2 = .ok (.ishr, 1) := by decide +kernel
theorem dX7_marked_3 : decode cX7_marked 3 = .ok (.iconst 3, 1) := by decide +kernel
theorem dX7_marked_4 : decode cX7_marked 4 = .ok (.iand, 1) := by decide +kernel
theorem dX7_marked_5 : decode cX7_marked 5 = .ok (.ifCond .ne 5, 3) := by decide +kernel
theorem dX7_marked_8 : decode cX7_marked 8 = .ok (.iload_n 0, 1) := by decide +kernel
theorem dX7_marked_9 : decode cX7_marked 9 = .ok (.ireturn, 1) := by decide +kernel
theorem dX7_marked_10 : decode cX7_marked 10 = .ok (.iload_n 0, 1) := by decide +kernel
theorem dX7_marked_11 : decode cX7_marked 11 = .ok (.bipush (-5), 2) := by decide +kernel
theorem dX7_marked_13 : decode cX7_marked 13 = .ok (.iand, 1) := by decide +kernel
theorem dX7_marked_14 : decode cX7_marked 14 = .ok (.iload_n 1, 1) := by decide +kernel
theorem dX7_marked_15 : decode cX7_marked 15 = .ok (.iconst 2, 1) := by decide +kernel
theorem dX7_marked_16 : decode cX7_marked 16 = .ok (.ishl, 1) := by decide +kernel
theorem dX7_marked_17 : decode cX7_marked 17 = .ok (.ior, 1) := by decide +kernel
theorem dX7_marked_18 : decode cX7_marked 18 = .ok (.ireturn, 1) := by decide +kernel
theorem dX7_ofNode_0 : decode cX7_ofNode 0 = .ok (.iload_n 0, 1) := by decide +kernel
theorem dX7_ofNode_1 : decode cX7_ofNode 1 = .ok (.iconst 5, 1) := by decide +kernel
theorem dX7_ofNode_2 : decode cX7_ofNode 2 = .ok (.ishl, 1) := by decide +kernel
theorem dX7_ofNode_3 : decode cX7_ofNode 3 = .ok (.bipush 16, 2) := by decide +kernel
theorem dX7_ofNode_5 : decode cX7_ofNode 5 = .ok (.ior, 1) := by decide +kernel
theorem dX7_ofNode_6 : decode cX7_ofNode 6 = .ok (.ireturn, 1) := by decide +kernel
theorem dX7_ofNumber_0 : decode cX7_ofNumber 0 = .ok (.bipush (-99), 2) := by decide +kernel
theorem dX7_ofNumber_2 : decode cX7_ofNumber 2 = .ok (.bipush 99, 2) := by decide +kernel
theorem dX7_ofNumber_4 : decode cX7_ofNumber 4 = .ok (.iload_n 0, 1) := by decide +kernel
theorem dX7_ofNumber_5 : decode cX7_ofNumber 5 = .ok (.invokestatic 9, 3) := by decide +kernel
theorem dX7_ofNumber_8 : decode cX7_ofNumber 8 = .ok (.invokestatic 15, 3) := by decide +kernel
theorem dX7_ofNumber_11 : decode cX7_ofNumber 11 = .ok (.iconst 5, 1) := by decide +kernel
theorem dX7_ofNumber_12 : decode cX7_ofNumber 12 = .ok (.ishl, 1) := by decide +kernel
theorem dX7_ofNumber_13 : decode cX7_ofNumber 13 = .ok (.bipush 8, 2) := by decide +kernel
theorem dX7_ofNumber_15 : decode cX7_ofNumber 15 = .ok (.ior, 1) := by decide +kernel
theorem dX7_ofNumber_16 : decode cX7_ofNumber 16 = .ok (.ireturn, 1) := by decide +kernel
theorem dX7_part_0 : decode cX7_part 0 = .ok (.iload_n 1, 1) := by decide +kernel
theorem dX7_part_1 : decode cX7_part 1 = .ok (.tableswitch 43 0 2 #[27, 32, 37], 27) := by decide +kernel
theorem dX7_part_28 : decode cX7_part 28 = .ok (.iload_n 0, 1) := by decide +kernel
theorem dX7_part_29 : decode cX7_part 29 = .ok (.invokestatic 20, 3) := by decide +kernel
theorem dX7_part_32 : decode cX7_part 32 = .ok (.ireturn, 1) := by decide +kernel
theorem dX7_part_33 : decode cX7_part 33 = .ok (.iload_n 0, 1) := by decide +kernel
theorem dX7_part_34 : decode cX7_part 34 = .ok (.invokestatic 24, 3) := by decide +kernel
theorem dX7_part_37 : decode cX7_part 37 = .ok (.ireturn, 1) := by decide +kernel
theorem dX7_part_38 : decode cX7_part 38 = .ok (.iload_n 0, 1) := by decide +kernel
theorem dX7_part_39 : decode cX7_part 39 = .ok (.iconst 2, 1) := by decide +kernel
theorem dX7_part_40 : decode cX7_part 40 = .ok (.ishr, 1) := by decide +kernel
theorem dX7_part_41 : decode cX7_part 41 = .ok (.iconst 1, 1) := by decide +kernel
theorem dX7_part_42 : decode cX7_part 42 = .ok (.iand, 1) := by decide +kernel
theorem dX7_part_43 : decode cX7_part 43 = .ok (.ireturn, 1) := by decide +kernel
theorem dX7_part_44 : decode cX7_part 44 = .ok (.iload_n 0, 1) := by decide +kernel
theorem dX7_part_45 : decode cX7_part 45 = .ok (.iconst 3, 1) := by decide +kernel
theorem dX7_part_46 : decode cX7_part 46 = .ok (.iand, 1) := by decide +kernel
theorem dX7_part_47 : decode cX7_part 47 = .ok (.ireturn, 1) := by decide +kernel
