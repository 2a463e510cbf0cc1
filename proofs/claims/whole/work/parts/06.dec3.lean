theorem dX9_act_0 : decode cX9_act 0 = .ok (.iload_n 1, 1) := by decide +kernel
theorem dX9_act_1 : decode cX9_act 1 = .ok (.invokestatic 99, 3) := by decide +kernel
theorem dX9_act_4 : decode cX9_act 4 = .ok (.ifCond .eq 15, 3) := by decide +kernel
theorem dX9_act_7 : decode cX9_act 7 = .ok (.iload_n 2, 1) := by decide +kernel
theorem dX9_act_8 : decode cX9_act 8 = .ok (.iload_n 3, 1) := by decide +kernel
theorem dX9_act_9 : decode cX9_act 9 = .ok (.iload 4, 2) := by decide +kernel
theorem dX9_act_11 : decode cX9_act 11 = .ok (.iload 5, 2) := by decide +kernel
theorem dX9_act_13 : decode cX9_act 13 = .ok (.invokestatic 102, 3) := by decide +kernel
theorem dX9_act_16 : decode cX9_act 16 = .ok (.ifCond .ne 5, 3) := by decide +kernel
theorem dX9_act_19 : decode cX9_act 19 = .ok (.iconst (-1), 1) := by decide +kernel
theorem dX9_act_20 : decode cX9_act 20 = .ok (.ireturn, 1) := by decide +kernel
theorem dX9_act_21 : decode cX9_act 21 = .ok (.aload_n 0, 1) := by decide +kernel
theorem dX9_act_22 : decode cX9_act 22 = .ok (.getfield 7, 3) := by decide +kernel
theorem dX9_act_25 : decode cX9_act 25 = .ok (.iconst 0, 1) := by decide +kernel
theorem dX9_act_26 : decode cX9_act 26 = .ok (.iload_n 1, 1) := by decide +kernel
theorem dX9_act_27 : decode cX9_act 27 = .ok (.iadd, 1) := by decide +kernel
theorem dX9_act_28 : decode cX9_act 28 = .ok (.iaload, 1) := by decide +kernel
theorem dX9_act_29 : decode cX9_act 29 = .ok (.ifCond .ge 7, 3) := by decide +kernel
theorem dX9_act_32 : decode cX9_act 32 = .ok (.iconst 0, 1) := by decide +kernel
theorem dX9_act_33 : decode cX9_act 33 = .ok (.goto 11, 3) := by decide +kernel
theorem dX9_act_36 : decode cX9_act 36 = .ok (.aload_n 0, 1) := by decide +kernel
theorem dX9_act_37 : decode cX9_act 37 = .ok (.getfield 7, 3) := by decide +kernel
theorem dX9_act_40 : decode cX9_act 40 = .ok (.iconst 0, 1) := by decide +kernel
theorem dX9_act_41 : decode cX9_act 41 = .ok (.iload_n 1, 1) := by decide +kernel
theorem dX9_act_42 : decode cX9_act 42 = .ok (.iadd, 1) := by decide +kernel
theorem dX9_act_43 : decode cX9_act 43 = .ok (.iaload, 1) := by decide +kernel
theorem dX9_act_44 : decode cX9_act 44 = .ok (.istore 6, 2) := by decide +kernel
theorem dX9_act_46 : decode cX9_act 46 = .ok (.iload 6, 2) := by decide +kernel
theorem dX9_act_48 : decode cX9_act 48 = .ok (.bipush 30, 2) := by decide +kernel
theorem dX9_act_50 : decode cX9_act 50 = .ok (.if_icmp .ne 6, 3) := by decide +kernel
theorem dX9_act_53 : decode cX9_act 53 = .ok (.bipush (-3), 2) := by decide +kernel
theorem dX9_act_55 : decode cX9_act 55 = .ok (.ireturn, 1) := by decide +kernel
theorem dX9_act_56 : decode cX9_act 56 = .ok (.bipush 6, 2) := by decide +kernel
theorem dX9_act_58 : decode cX9_act 58 = .ok (.bipush 120, 2) := by decide +kernel
theorem dX9_act_60 : decode cX9_act 60 = .ok (.iload_n 1, 1) := by decide +kernel
theorem dX9_act_61 : decode cX9_act 61 = .ok (.imul, 1) := by decide +kernel
theorem dX9_act_62 : decode cX9_act 62 = .ok (.iadd, 1) := by decide +kernel
theorem dX9_act_63 : decode cX9_act 63 = .ok (.iconst 4, 1) := by decide +kernel
theorem dX9_act_64 : decode cX9_act 64 = .ok (.iload 6, 2) := by decide +kernel
theorem dX9_act_66 : decode cX9_act 66 = .ok (.imul, 1) := by decide +kernel
theorem dX9_act_67 : decode cX9_act 67 = .ok (.iadd, 1) := by decide +kernel
theorem dX9_act_68 : decode cX9_act 68 = .ok (.istore 7, 2) := by decide +kernel
theorem dX9_act_70 : decode cX9_act 70 = .ok (.aload_n 0, 1) := by decide +kernel
theorem dX9_act_71 : decode cX9_act 71 = .ok (.getfield 7, 3) := by decide +kernel
theorem dX9_act_74 : decode cX9_act 74 = .ok (.iload 7, 2) := by decide +kernel
theorem dX9_act_76 : decode cX9_act 76 = .ok (.iload_n 2, 1) := by decide +kernel
theorem dX9_act_77 : decode cX9_act 77 = .ok (.iastore, 1) := by decide +kernel
theorem dX9_act_78 : decode cX9_act 78 = .ok (.aload_n 0, 1) := by decide +kernel
theorem dX9_act_79 : decode cX9_act 79 = .ok (.getfield 7, 3) := by decide +kernel
theorem dX9_act_82 : decode cX9_act 82 = .ok (.iload 7, 2) := by decide +kernel
theorem dX9_act_84 : decode cX9_act 84 = .ok (.iconst 1, 1) := by decide +kernel
theorem dX9_act_85 : decode cX9_act 85 = .ok (.iadd, 1) := by decide +kernel
theorem dX9_act_86 : decode cX9_act 86 = .ok (.iload_n 3, 1) := by decide +kernel
theorem dX9_act_87 : decode cX9_act 87 = .ok (.iastore, 1) := by decide +kernel
theorem dX9_act_88 : decode cX9_act 88 = .ok (.aload_n 0, 1) := by decide +kernel
theorem dX9_act_89 : decode cX9_act 89 = .ok (.getfield 7, 3) := by decide +kernel
theorem dX9_act_92 : decode cX9_act 92 = .ok (.iload 7, 2) := by decide +kernel
theorem dX9_act_94 : decode cX9_act 94 = .ok (.iconst 2, 1) := by decide +kernel
theorem dX9_act_95 : decode cX9_act 95 = .ok (.iadd, 1) := by decide +kernel
theorem dX9_act_96 : decode cX9_act 96 = .ok (.iload 4, 2) := by decide +kernel
theorem dX9_act_98 : decode cX9_act 98 = .ok (.iastore, 1) := by decide +kernel
theorem dX9_act_99 : decode cX9_act 99 = .ok (.aload_n 0, 1) := by decide +kernel
theorem dX9_act_100 : decode cX9_act 100 = .ok (.getfield 7, 3) := by decide +kernel
theorem dX9_act_103 : decode cX9_act 103 = .ok (.iload 7, 2) := by decide +kernel
theorem dX9_act_105 : decode cX9_act 105 = .ok (.iconst 3, 1) := by decide +kernel
theorem dX9_act_106 : decode cX9_act 106 = .ok (.iadd, 1) := by decide +kernel
theorem dX9_act_107 : decode cX9_act 107 = .ok (.iload 5, 2) := by decide +kernel
theorem dX9_act_109 : decode cX9_act 109 = .ok (.iastore, 1) := by decide +kernel
theorem dX9_act_110 : decode cX9_act 110 = .ok (.aload_n 0, 1) := by decide +kernel
theorem dX9_act_111 : decode cX9_act 111 = .ok (.getfield 7, 3) := by decide +kernel
theorem dX9_act_114 : decode cX9_act 114 = .ok (.sipush 732, 3) := by decide +kernel
theorem dX9_act_117 : decode cX9_act 117 = .ok (.bipush 30, 2) := by decide +kernel
theorem dX9_act_119 : decode cX9_act 119 = .ok (.iload_n 1, 1) := by decide +kernel
theorem dX9_act_120 : decode cX9_act 120 = .ok (.imul, 1) := by decide +kernel
theorem dX9_act_121 : decode cX9_act 121 = .ok (.iadd, 1) := by decide +kernel
theorem dX9_act_122 : decode cX9_act 122 = .ok (.iload 6, 2) := by decide +kernel
theorem dX9_act_124 : decode cX9_act 124 = .ok (.iadd, 1) := by decide +kernel
theorem dX9_act_125 : decode cX9_act 125 = .ok (.iconst 0, 1) := by decide +kernel
theorem dX9_act_126 : decode cX9_act 126 = .ok (.iastore, 1) := by decide +kernel
theorem dX9_act_127 : decode cX9_act 127 = .ok (.aload_n 0, 1) := by decide +kernel
theorem dX9_act_128 : decode cX9_act 128 = .ok (.getfield 7, 3) := by decide +kernel
theorem dX9_act_131 : decode cX9_act 131 = .ok (.iconst 0, 1) := by decide +kernel
theorem dX9_act_132 : decode cX9_act 132 = .ok (.iload_n 1, 1) := by decide +kernel
theorem dX9_act_133 : decode cX9_act 133 = .ok (.iadd, 1) := by decide +kernel
theorem dX9_act_134 : decode cX9_act 134 = .ok (.iload 6, 2) := by decide +kernel
theorem dX9_act_136 : decode cX9_act 136 = .ok (.iconst 1, 1) := by decide +kernel
theorem dX9_act_137 : decode cX9_act 137 = .ok (.iadd, 1) := by decide +kernel
theorem dX9_act_138 : decode cX9_act 138 = .ok (.iastore, 1) := by decide +kernel
theorem dX9_act_139 : decode cX9_act 139 = .ok (.iload 6, 2) := by decide +kernel
theorem dX9_act_141 : decode cX9_act 141 = .ok (.iconst 1, 1) := by decide +kernel
theorem dX9_act_142 : decode cX9_act 142 = .ok (.iadd, 1) := by decide +kernel
theorem dX9_act_143 : decode cX9_act 143 = .ok (.ireturn, 1) := by decide +kernel
theorem dX9_adds_0 : decode cX9_adds 0 = .ok (.aload_n 0, 1) := by decide +kernel
theorem dX9_adds_1 : decode cX9_adds 1 = .ok (.getfield 16, 3) := by decide +kernel
theorem dX9_adds_4 : decode cX9_adds 4 = .ok (.iload_n 2, 1) := by decide +kernel
theorem dX9_adds_5 : decode cX9_adds 5 = .ok (.iaload, 1) := by decide +kernel
theorem dX9_adds_6 : decode cX9_adds 6 = .ok (.iconst 3, 1) := by decide +kernel
theorem dX9_adds_7 : decode cX9_adds 7 = .ok (.iand, 1) := by decide +kernel
theorem dX9_adds_8 : decode cX9_adds 8 = .ok (.ifCond .ne 7, 3) := by decide +kernel
theorem dX9_adds_11 : decode cX9_adds 11 = .ok (.iconst 0, 1) := by decide +kernel
theorem dX9_adds_12 : decode cX9_adds 12 = .ok (.goto 12, 3) := by decide +kernel
theorem dX9_adds_15 : decode cX9_adds 15 = .ok (.aload_n 0, 1) := by decide +kernel
theorem dX9_adds_16 : decode cX9_adds 16 = .ok (.getfield 16, 3) := by decide +kernel
theorem dX9_adds_19 : decode cX9_adds 19 = .ok (.iload_n 2, 1) := by decide +kernel
theorem dX9_adds_20 : decode cX9_adds 20 = .ok (.iaload, 1) := by decide +kernel
theorem dX9_adds_21 : decode cX9_adds 21 = .ok (.invokestatic 180, 3) := by decide +kernel
theorem dX9_adds_24 : decode cX9_adds 24 = .ok (.iload_n 3, 1) := by decide +kernel
theorem dX9_adds_25 : decode cX9_adds 25 = .ok (.iadd, 1) := by decide +kernel
theorem dX9_adds_26 : decode cX9_adds 26 = .ok (.invokestatic 151, 3) := by decide +kernel
theorem dX9_adds_29 : decode cX9_adds 29 = .ok (.istore 4, 2) := by decide +kernel
theorem dX9_adds_31 : decode cX9_adds 31 = .ok (.aload_n 0, 1) := by decide +kernel
theorem dX9_adds_32 : decode cX9_adds 32 = .ok (.iload_n 2, 1) := by decide +kernel
theorem dX9_adds_33 : decode cX9_adds 33 = .ok (.iload 4, 2) := by decide +kernel
theorem dX9_adds_35 : decode cX9_adds 35 = .ok (.invokevirtual 125, 3) := by decide +kernel
theorem dX9_adds_38 : decode cX9_adds 38 = .ok (.aload_n 0, 1) := by decide +kernel
theorem dX9_adds_39 : decode cX9_adds 39 = .ok (.iload_n 1, 1) := by decide +kernel
theorem dX9_adds_40 : decode cX9_adds 40 = .ok (.iconst 5, 1) := by decide +kernel
theorem dX9_adds_41 : decode cX9_adds 41 = .ok (.iload 4, 2) := by decide +kernel
theorem dX9_adds_43 : decode cX9_adds 43 = .ok (.invokevirtual 147, 3) := by decide +kernel
theorem dX9_adds_46 : decode cX9_adds 46 = .ok (.return_, 1) := by decide +kernel
theorem dX9_agrees_0 : decode cX9_agrees 0 = .ok (.aload_n 0, 1) := by decide +kernel
theorem dX9_agrees_1 : decode cX9_agrees 1 = .ok (.getfield 291, 3) := by decide +kernel
theorem dX9_agrees_4 : decode cX9_agrees 4 = .ok (.ifCond .ne 6, 3) := by decide +kernel
theorem dX9_agrees_7 : decode cX9_agrees 7 = .ok (.bipush (-2), 2) := by decide +kernel
theorem dX9_agrees_9 : decode cX9_agrees 9 = .ok (.ireturn, 1) := by decide +kernel
theorem dX9_agrees_10 : decode cX9_agrees 10 = .ok (.aload_n 0, 1) := by decide +kernel
theorem dX9_agrees_11 : decode cX9_agrees 11 = .ok (.invokevirtual 306, 3) := by decide +kernel
theorem dX9_agrees_14 : decode cX9_agrees 14 = .ok (.aload_n 0, 1) := by decide +kernel
theorem dX9_agrees_15 : decode cX9_agrees 15 = .ok (.invokevirtual 319, 3) := by decide +kernel
theorem dX9_agrees_18 : decode cX9_agrees 18 = .ok (.ifCond .ne 8, 3) := by decide +kernel
theorem dX9_agrees_21 : decode cX9_agrees 21 = .ok (.bipush (-2), 2) := by decide +kernel
theorem dX9_agrees_23 : decode cX9_agrees 23 = .ok (.goto 15, 3) := by decide +kernel
theorem dX9_agrees_26 : decode cX9_agrees 26 = .ok (.aload_n 0, 1) := by decide +kernel
theorem dX9_agrees_27 : decode cX9_agrees 27 = .ok (.invokevirtual 322, 3) := by decide +kernel
theorem dX9_agrees_30 : decode cX9_agrees 30 = .ok (.ifCond .eq 7, 3) := by decide +kernel
theorem dX9_agrees_33 : decode cX9_agrees 33 = .ok (.iconst 1, 1) := by decide +kernel
theorem dX9_agrees_34 : decode cX9_agrees 34 = .ok (.goto 4, 3) := by decide +kernel
theorem dX9_agrees_37 : decode cX9_agrees 37 = .ok (.iconst 0, 1) := by decide +kernel
theorem dX9_agrees_38 : decode cX9_agrees 38 = .ok (.ireturn, 1) := by decide +kernel
theorem dX9_agreesNow_0 : decode cX9_agreesNow 0 = .ok (.aload_n 0, 1) := by decide +kernel
theorem dX9_agreesNow_1 : decode cX9_agreesNow 1 = .ok (.invokevirtual 268, 3) := by decide +kernel
theorem dX9_agreesNow_4 : decode cX9_agreesNow 4 = .ok (.ifCond .eq 5, 3) := by decide +kernel
theorem dX9_agreesNow_7 : decode cX9_agreesNow 7 = .ok (.iconst 0, 1) := by decide +kernel
theorem dX9_agreesNow_8 : decode cX9_agreesNow 8 = .ok (.ireturn, 1) := by decide +kernel
theorem dX9_agreesNow_9 : decode cX9_agreesNow 9 = .ok (.aload_n 0, 1) := by decide +kernel
theorem dX9_agreesNow_10 : decode cX9_agreesNow 10 = .ok (.getfield 13, 3) := by decide +kernel
theorem dX9_agreesNow_13 : decode cX9_agreesNow 13 = .ok (.sipush 950, 3) := by decide +kernel
theorem dX9_agreesNow_16 : decode cX9_agreesNow 16 = .ok (.iaload, 1) := by decide +kernel
theorem dX9_agreesNow_17 : decode cX9_agreesNow 17 = .ok (.ifCond .ne 5, 3) := by decide +kernel
theorem dX9_agreesNow_20 : decode cX9_agreesNow 20 = .ok (.iconst 1, 1) := by decide +kernel
theorem dX9_agreesNow_21 : decode cX9_agreesNow 21 = .ok (.ireturn, 1) := by decide +kernel
theorem dX9_agreesNow_22 : decode cX9_agreesNow 22 = .ok (.aload_n 0, 1) := by decide +kernel
theorem dX9_agreesNow_23 : decode cX9_agreesNow 23 = .ok (.invokevirtual 271, 3) := by decide +kernel
theorem dX9_agreesNow_26 : decode cX9_agreesNow 26 = .ok (.istore_n 1, 1) := by decide +kernel
theorem dX9_agreesNow_27 : decode cX9_agreesNow 27 = .ok (.iconst 0, 1) := by decide +kernel
theorem dX9_agreesNow_28 : decode cX9_agreesNow 28 = .ok (.istore_n 2, 1) := by decide +kernel
theorem dX9_agreesNow_29 : decode cX9_agreesNow 29 = .ok (.iconst 0, 1) := by decide +kernel
theorem dX9_agreesNow_30 : decode cX9_agreesNow 30 = .ok (.istore_n 3, 1) := by decide +kernel
theorem dX9_agreesNow_31 : decode cX9_agreesNow 31 = .ok (.iconst 0, 1) := by decide +kernel
theorem dX9_agreesNow_32 : decode cX9_agreesNow 32 = .ok (.istore 4, 2) := by decide +kernel
theorem dX9_agreesNow_34 : decode cX9_agreesNow 34 = .ok (.iload_n 2, 1) := by decide +kernel
theorem dX9_agreesNow_35 : decode cX9_agreesNow 35 = .ok (.iload_n 1, 1) := by decide +kernel
theorem dX9_agreesNow_36 : decode cX9_agreesNow 36 = .ok (.if_icmp .ne 5, 3) := by decide +kernel
theorem dX9_agreesNow_39 : decode cX9_agreesNow 39 = .ok (.iconst 1, 1) := by decide +kernel
theorem dX9_agreesNow_40 : decode cX9_agreesNow 40 = .ok (.ireturn, 1) := by decide +kernel
theorem dX9_agreesNow_41 : decode cX9_agreesNow 41 = .ok (.iload 4, 2) := by decide +kernel
theorem dX9_agreesNow_43 : decode cX9_agreesNow 43 = .ok (.istore 5, 2) := by decide +kernel
theorem dX9_agreesNow_45 : decode cX9_agreesNow 45 = .ok (.iload 5, 2) := by decide +kernel
theorem dX9_agreesNow_47 : decode cX9_agreesNow 47 = .ok (.bipush 9, 2) := by decide +kernel
theorem dX9_agreesNow_49 : decode cX9_agreesNow 49 = .ok (.if_icmp .ge 20, 3) := by decide +kernel
theorem dX9_agreesNow_52 : decode cX9_agreesNow 52 = .ok (.aload_n 0, 1) := by decide +kernel
theorem dX9_agreesNow_53 : decode cX9_agreesNow 53 = .ok (.iload 5, 2) := by decide +kernel
theorem dX9_agreesNow_55 : decode cX9_agreesNow 55 = .ok (.iload_n 3, 1) := by decide +kernel
theorem dX9_agreesNow_56 : decode cX9_agreesNow 56 = .ok (.iload_n 2, 1) := by decide +kernel
theorem dX9_agreesNow_57 : decode cX9_agreesNow 57 = .ok (.invokevirtual 275, 3) := by decide +kernel
theorem dX9_agreesNow_60 : decode cX9_agreesNow 60 = .ok (.ifCond .ne 9, 3) := by decide +kernel
theorem dX9_agreesNow_63 : decode cX9_agreesNow 63 = .ok (.iinc 5 1, 3) := by decide +kernel
theorem dX9_agreesNow_66 : decode cX9_agreesNow 66 = .ok (.goto (-21), 3) := by decide +kernel
theorem dX9_agreesNow_69 : decode cX9_agreesNow 69 = .ok (.iload 5, 2) := by decide +kernel
theorem dX9_agreesNow_71 : decode cX9_agreesNow 71 = .ok (.bipush 9, 2) := by decide +kernel
theorem dX9_agreesNow_73 : decode cX9_agreesNow 73 = .ok (.if_icmp .ge 19, 3) := by decide +kernel
theorem dX9_agreesNow_76 : decode cX9_agreesNow 76 = .ok (.iload_n 3, 1) := by decide +kernel
theorem dX9_agreesNow_77 : decode cX9_agreesNow 77 = .ok (.iconst 1, 1) := by decide +kernel
theorem dX9_agreesNow_78 : decode cX9_agreesNow 78 = .ok (.iload 5, 2) := by decide +kernel
theorem dX9_agreesNow_80 : decode cX9_agreesNow 80 = .ok (.ishl, 1) := by decide +kernel
theorem dX9_agreesNow_81 : decode cX9_agreesNow 81 = .ok (.ior, 1) := by decide +kernel
theorem dX9_agreesNow_82 : decode cX9_agreesNow 82 = .ok (.istore_n 3, 1) := by decide +kernel
theorem dX9_agreesNow_83 : decode cX9_agreesNow 83 = .ok (.iinc 2 1, 3) := by decide +kernel
theorem dX9_agreesNow_86 : decode cX9_agreesNow 86 = .ok (.iconst 0, 1) := by decide +kernel
theorem dX9_agreesNow_87 : decode cX9_agreesNow 87 = .ok (.istore 4, 2) := by decide +kernel
theorem dX9_agreesNow_89 : decode cX9_agreesNow 89 = .ok (.goto 35, 3) := by decide +kernel
theorem dX9_agreesNow_92 : decode cX9_agreesNow 92 = .ok (.iload_n 2, 1) := by decide +kernel
theorem dX9_agreesNow_93 : decode cX9_agreesNow 93 = .ok (.ifCond .ne 5, 3) := by decide +kernel
theorem dX9_agreesNow_96 : decode cX9_agreesNow 96 = .ok (.iconst 0, 1) := by decide +kernel
theorem dX9_agreesNow_97 : decode cX9_agreesNow 97 = .ok (.ireturn, 1) := by decide +kernel
theorem dX9_agreesNow_98 : decode cX9_agreesNow 98 = .ok (.iinc 2 (-1), 3) := by decide +kernel
theorem dX9_agreesNow_101 : decode cX9_agreesNow 101 = .ok (.iload_n 3, 1) := by decide +kernel
theorem dX9_agreesNow_102 : decode cX9_agreesNow 102 = .ok (.iconst 1, 1) := by decide +kernel
theorem dX9_agreesNow_103 : decode cX9_agreesNow 103 = .ok (.aload_n 0, 1) := by decide +kernel
theorem dX9_agreesNow_104 : decode cX9_agreesNow 104 = .ok (.getfield 22, 3) := by decide +kernel
theorem dX9_agreesNow_107 : decode cX9_agreesNow 107 = .ok (.iload_n 2, 1) := by decide +kernel
theorem dX9_agreesNow_108 : decode cX9_agreesNow 108 = .ok (.iaload, 1) := by decide +kernel
theorem dX9_agreesNow_109 : decode cX9_agreesNow 109 = .ok (.ishl, 1) := by decide +kernel
theorem dX9_agreesNow_110 : decode cX9_agreesNow 110 = .ok (.iconst (-1), 1) := by decide +kernel
theorem dX9_agreesNow_111 : decode cX9_agreesNow 111 = .ok (.ixor, 1) := by decide +kernel
theorem dX9_agreesNow_112 : decode cX9_agreesNow 112 = .ok (.iand, 1) := by decide +kernel
theorem dX9_agreesNow_113 : decode cX9_agreesNow 113 = .ok (.istore_n 3, 1) := by decide +kernel
theorem dX9_agreesNow_114 : decode cX9_agreesNow 114 = .ok (.aload_n 0, 1) := by decide +kernel
theorem dX9_agreesNow_115 : decode cX9_agreesNow 115 = .ok (.getfield 22, 3) := by decide +kernel
theorem dX9_agreesNow_118 : decode cX9_agreesNow 118 = .ok (.iload_n 2, 1) := by decide +kernel
theorem dX9_agreesNow_119 : decode cX9_agreesNow 119 = .ok (.iaload, 1) := by decide +kernel
theorem dX9_agreesNow_120 : decode cX9_agreesNow 120 = .ok (.iconst 1, 1) := by decide +kernel
theorem dX9_agreesNow_121 : decode cX9_agreesNow 121 = .ok (.iadd, 1) := by decide +kernel
theorem dX9_agreesNow_122 : decode cX9_agreesNow 122 = .ok (.istore 4, 2) := by decide +kernel
theorem dX9_agreesNow_124 : decode cX9_agreesNow 124 = .ok (.goto (-90), 3) := by decide +kernel
theorem dX9_alike_0 : decode cX9_alike 0 = .ok (.iload_n 0, 1) := by decide +kernel
theorem dX9_alike_1 : decode cX9_alike 1 = .ok (.sipush 2047, 3) := by decide +kernel
theorem dX9_alike_4 : decode cX9_alike 4 = .ok (.iand, 1) := by decide +kernel
theorem dX9_alike_5 : decode cX9_alike 5 = .ok (.iload_n 1, 1) := by decide +kernel
theorem dX9_alike_6 : decode cX9_alike 6 = .ok (.sipush 2047, 3) := by decide +kernel
theorem dX9_alike_9 : decode cX9_alike 9 = .ok (.iand, 1) := by decide +kernel
theorem dX9_alike_10 : decode cX9_alike 10 = .ok (.if_icmp .ne 7, 3) := by decide +kernel
theorem dX9_alike_13 : decode cX9_alike 13 = .ok (.iconst 1, 1) := by decide +kernel
theorem dX9_alike_14 : decode cX9_alike 14 = .ok (.goto 4, 3) := by decide +kernel
theorem dX9_alike_17 : decode cX9_alike 17 = .ok (.iconst 0, 1) := by decide +kernel
theorem dX9_alike_18 : decode cX9_alike 18 = .ok (.ireturn, 1) := by decide +kernel
theorem dX9_answer_0 : decode cX9_answer 0 = .ok (.iload_n 1, 1) := by decide +kernel
theorem dX9_answer_1 : decode cX9_answer 1 = .ok (.i2l, 1) := by decide +kernel
theorem dX9_answer_2 : decode cX9_answer 2 = .ok (.lconst 0, 1) := by decide +kernel
theorem dX9_answer_3 : decode cX9_answer 3 = .ok (.ldc2_w 108, 3) := by decide +kernel
theorem dX9_answer_6 : decode cX9_answer 6 = .ok (.invokestatic 68, 3) := by decide +kernel
theorem dX9_answer_9 : decode cX9_answer 9 = .ok (.ifCond .eq 15, 3) := by decide +kernel
theorem dX9_answer_12 : decode cX9_answer 12 = .ok (.iload_n 2, 1) := by decide +kernel
theorem dX9_answer_13 : decode cX9_answer 13 = .ok (.i2l, 1) := by decide +kernel
theorem dX9_answer_14 : decode cX9_answer 14 = .ok (.lconst 0, 1) := by decide +kernel
theorem dX9_answer_15 : decode cX9_answer 15 = .ok (.ldc2_w 108, 3) := by decide +kernel
theorem dX9_answer_18 : decode cX9_answer 18 = .ok (.invokestatic 68, 3) := by decide +kernel
theorem dX9_answer_21 : decode cX9_answer 21 = .ok (.ifCond .ne 7, 3) := by decide +kernel
theorem dX9_answer_24 : decode cX9_answer 24 = .ok (.sipush (-1000), 3) := by decide +kernel
theorem dX9_answer_27 : decode cX9_answer 27 = .ok (.ireturn, 1) := by decide +kernel
theorem dX9_answer_28 : decode cX9_answer 28 = .ok (.aload_n 0, 1) := by decide +kernel
theorem dX9_answer_29 : decode cX9_answer 29 = .ok (.getfield 291, 3) := by decide +kernel
theorem dX9_answer_32 : decode cX9_answer 32 = .ok (.ifCond .ne 7, 3) := by decide +kernel
theorem dX9_answer_35 : decode cX9_answer 35 = .ok (.sipush (-2000), 3) := by decide +kernel
theorem dX9_answer_38 : decode cX9_answer 38 = .ok (.ireturn, 1) := by decide +kernel
theorem dX9_answer_39 : decode cX9_answer 39 = .ok (.aload_n 0, 1) := by decide +kernel
theorem dX9_answer_40 : decode cX9_answer 40 = .ok (.getfield 25, 3) := by decide +kernel
theorem dX9_answer_43 : decode cX9_answer 43 = .ok (.bipush 81, 2) := by decide +kernel
theorem dX9_answer_45 : decode cX9_answer 45 = .ok (.iconst 2, 1) := by decide +kernel
theorem dX9_answer_46 : decode cX9_answer 46 = .ok (.iconst 3, 1) := by decide +kernel
theorem dX9_answer_47 : decode cX9_answer 47 = .ok (.iload_n 1, 1) := by decide +kernel
theorem dX9_answer_48 : decode cX9_answer 48 = .ok (.imul, 1) := by decide +kernel
theorem dX9_answer_49 : decode cX9_answer 49 = .ok (.iload_n 2, 1) := by decide +kernel
theorem dX9_answer_50 : decode cX9_answer 50 = .ok (.iadd, 1) := by decide +kernel
theorem dX9_answer_51 : decode cX9_answer 51 = .ok (.imul, 1) := by decide +kernel
theorem dX9_answer_52 : decode cX9_answer 52 = .ok (.iadd, 1) := by decide +kernel
theorem dX9_answer_53 : decode cX9_answer 53 = .ok (.iconst 1, 1) := by decide +kernel
theorem dX9_answer_54 : decode cX9_answer 54 = .ok (.iadd, 1) := by decide +kernel
theorem dX9_answer_55 : decode cX9_answer 55 = .ok (.iaload, 1) := by decide +kernel
theorem dX9_answer_56 : decode cX9_answer 56 = .ok (.istore_n 3, 1) := by decide +kernel
theorem dX9_answer_57 : decode cX9_answer 57 = .ok (.iload_n 3, 1) := by decide +kernel
theorem dX9_answer_58 : decode cX9_answer 58 = .ok (.ifCond .ne 8, 3) := by decide +kernel
theorem dX9_answer_61 : decode cX9_answer 61 = .ok (.bipush (-4), 2) := by decide +kernel
theorem dX9_answer_63 : decode cX9_answer 63 = .ok (.goto 8, 3) := by decide +kernel
theorem dX9_answer_66 : decode cX9_answer 66 = .ok (.iload_n 3, 1) := by decide +kernel
theorem dX9_answer_67 : decode cX9_answer 67 = .ok (.sipush 1000, 3) := by decide +kernel
theorem dX9_answer_70 : decode cX9_answer 70 = .ok (.isub, 1) := by decide +kernel
theorem dX9_answer_71 : decode cX9_answer 71 = .ok (.ireturn, 1) := by decide +kernel
theorem dX9_answerAlike_0 : decode cX9_answerAlike 0 = .ok (.iconst 1, 1) := by decide +kernel
theorem dX9_answerAlike_1 : decode cX9_answerAlike 1 = .ok (.istore_n 3, 1) := by decide +kernel
theorem dX9_answerAlike_2 : decode cX9_answerAlike 2 = .ok (.iconst 0, 1) := by decide +kernel
theorem dX9_answerAlike_3 : decode cX9_answerAlike 3 = .ok (.istore 4, 2) := by decide +kernel
theorem dX9_answerAlike_5 : decode cX9_answerAlike 5 = .ok (.iload 4, 2) := by decide +kernel
theorem dX9_answerAlike_7 : decode cX9_answerAlike 7 = .ok (.bipush 9, 2) := by decide +kernel
theorem dX9_answerAlike_9 : decode cX9_answerAlike 9 = .ok (.if_icmp .ge 60, 3) := by decide +kernel
theorem dX9_answerAlike_12 : decode cX9_answerAlike 12 = .ok (.iload_n 3, 1) := by decide +kernel
theorem dX9_answerAlike_13 : decode cX9_answerAlike 13 = .ok (.ifCond .eq 56, 3) := by decide +kernel
theorem dX9_answerAlike_16 : decode cX9_answerAlike 16 = .ok (.aload_n 0, 1) := by decide +kernel
theorem dX9_answerAlike_17 : decode cX9_answerAlike 17 = .ok (.getfield 29, 3) := by decide +kernel
theorem dX9_answerAlike_20 : decode cX9_answerAlike 20 = .ok (.bipush 100, 2) := by decide +kernel
theorem dX9_answerAlike_22 : decode cX9_answerAlike 22 = .ok (.iload_n 1, 1) := by decide +kernel
theorem dX9_answerAlike_23 : decode cX9_answerAlike 23 = .ok (.imul, 1) := by decide +kernel
theorem dX9_answerAlike_24 : decode cX9_answerAlike 24 = .ok (.bipush 81, 2) := by decide +kernel
theorem dX9_answerAlike_26 : decode cX9_answerAlike 26 = .ok (.iadd, 1) := by decide +kernel
theorem dX9_answerAlike_27 : decode cX9_answerAlike 27 = .ok (.iconst 2, 1) := by decide +kernel
theorem dX9_answerAlike_28 : decode cX9_answerAlike 28 = .ok (.iload 4, 2) := by decide +kernel
theorem dX9_answerAlike_30 : decode cX9_answerAlike 30 = .ok (.imul, 1) := by decide +kernel
theorem dX9_answerAlike_31 : decode cX9_answerAlike 31 = .ok (.iadd, 1) := by decide +kernel
theorem dX9_answerAlike_32 : decode cX9_answerAlike 32 = .ok (.iconst 1, 1) := by decide +kernel
theorem dX9_answerAlike_33 : decode cX9_answerAlike 33 = .ok (.iadd, 1) := by decide +kernel
theorem dX9_answerAlike_34 : decode cX9_answerAlike 34 = .ok (.iaload, 1) := by decide +kernel
theorem dX9_answerAlike_35 : decode cX9_answerAlike 35 = .ok (.aload_n 0, 1) := by decide +kernel
theorem dX9_answerAlike_36 : decode cX9_answerAlike 36 = .ok (.getfield 29, 3) := by decide +kernel
theorem dX9_answerAlike_39 : decode cX9_answerAlike 39 = .ok (.bipush 100, 2) := by decide +kernel
theorem dX9_answerAlike_41 : decode cX9_answerAlike 41 = .ok (.iload_n 2, 1) := by decide +kernel
theorem dX9_answerAlike_42 : decode cX9_answerAlike 42 = .ok (.imul, 1) := by decide +kernel
theorem dX9_answerAlike_43 : decode cX9_answerAlike 43 = .ok (.bipush 81, 2) := by decide +kernel
theorem dX9_answerAlike_45 : decode cX9_answerAlike 45 = .ok (.iadd, 1) := by decide +kernel
theorem dX9_answerAlike_46 : decode cX9_answerAlike 46 = .ok (.iconst 2, 1) := by decide +kernel
theorem dX9_answerAlike_47 : decode cX9_answerAlike 47 = .ok (.iload 4, 2) := by decide +kernel
theorem dX9_answerAlike_49 : decode cX9_answerAlike 49 = .ok (.imul, 1) := by decide +kernel
theorem dX9_answerAlike_50 : decode cX9_answerAlike 50 = .ok (.iadd, 1) := by decide +kernel
theorem dX9_answerAlike_51 : decode cX9_answerAlike 51 = .ok (.iconst 1, 1) := by decide +kernel
theorem dX9_answerAlike_52 : decode cX9_answerAlike 52 = .ok (.iadd, 1) := by decide +kernel
theorem dX9_answerAlike_53 : decode cX9_answerAlike 53 = .ok (.iaload, 1) := by decide +kernel
theorem dX9_answerAlike_54 : decode cX9_answerAlike 54 = .ok (.if_icmp .ne 7, 3) := by decide +kernel
theorem dX9_answerAlike_57 : decode cX9_answerAlike 57 = .ok (.iconst 1, 1) := by decide +kernel
theorem dX9_answerAlike_58 : decode cX9_answerAlike 58 = .ok (.goto 4, 3) := by decide +kernel
theorem dX9_answerAlike_61 : decode cX9_answerAlike 61 = .ok (.iconst 0, 1) := by decide +kernel
theorem dX9_answerAlike_62 : decode cX9_answerAlike 62 = .ok (.istore_n 3, 1) := by decide +kernel
theorem dX9_answerAlike_63 : decode cX9_answerAlike 63 = .ok (.iinc 4 1, 3) := by decide +kernel
theorem dX9_answerAlike_66 : decode cX9_answerAlike 66 = .ok (.goto (-61), 3) := by decide +kernel
theorem dX9_answerAlike_69 : decode cX9_answerAlike 69 = .ok (.iload_n 3, 1) := by decide +kernel
theorem dX9_answerAlike_70 : decode cX9_answerAlike 70 = .ok (.ireturn, 1) := by decide +kernel
theorem dX9_answers_0 : decode cX9_answers 0 = .ok (.aload_n 0, 1) := by decide +kernel
theorem dX9_answers_1 : decode cX9_answers 1 = .ok (.getfield 334, 3) := by decide +kernel
theorem dX9_answers_4 : decode cX9_answers 4 = .ok (.ifCond .ne 6, 3) := by decide +kernel
theorem dX9_answers_7 : decode cX9_answers 7 = .ok (.bipush (-2), 2) := by decide +kernel
theorem dX9_answers_9 : decode cX9_answers 9 = .ok (.ireturn, 1) := by decide +kernel
theorem dX9_answers_10 : decode cX9_answers 10 = .ok (.iconst 0, 1) := by decide +kernel
theorem dX9_answers_11 : decode cX9_answers 11 = .ok (.istore_n 1, 1) := by decide +kernel
theorem dX9_answers_12 : decode cX9_answers 12 = .ok (.iconst 0, 1) := by decide +kernel
theorem dX9_answers_13 : decode cX9_answers 13 = .ok (.istore_n 2, 1) := by decide +kernel
theorem dX9_answers_14 : decode cX9_answers 14 = .ok (.iload_n 2, 1) := by decide +kernel
theorem dX9_answers_15 : decode cX9_answers 15 = .ok (.aload_n 0, 1) := by decide +kernel
theorem dX9_answers_16 : decode cX9_answers 16 = .ok (.getfield 328, 3) := by decide +kernel
theorem dX9_answers_19 : decode cX9_answers 19 = .ok (.if_icmp .ge 87, 3) := by decide +kernel
theorem dX9_answers_22 : decode cX9_answers 22 = .ok (.aload_n 0, 1) := by decide +kernel
theorem dX9_answers_23 : decode cX9_answers 23 = .ok (.getfield 54, 3) := by decide +kernel
theorem dX9_answers_26 : decode cX9_answers 26 = .ok (.iload_n 2, 1) := by decide +kernel
theorem dX9_answers_27 : decode cX9_answers 27 = .ok (.iaload, 1) := by decide +kernel
theorem dX9_answers_28 : decode cX9_answers 28 = .ok (.iconst 3, 1) := by decide +kernel
theorem dX9_answers_29 : decode cX9_answers 29 = .ok (.iand, 1) := by decide +kernel
theorem dX9_answers_30 : decode cX9_answers 30 = .ok (.iconst 3, 1) := by decide +kernel
theorem dX9_answers_31 : decode cX9_answers 31 = .ok (.if_icmp .ne 7, 3) := by decide +kernel
theorem dX9_answers_34 : decode cX9_answers 34 = .ok (.iconst 1, 1) := by decide +kernel
theorem dX9_answers_35 : decode cX9_answers 35 = .ok (.goto 4, 3) := by decide +kernel
theorem dX9_answers_38 : decode cX9_answers 38 = .ok (.iconst 0, 1) := by decide +kernel
theorem dX9_answers_39 : decode cX9_answers 39 = .ok (.istore_n 3, 1) := by decide +kernel
theorem dX9_answers_40 : decode cX9_answers 40 = .ok (.iconst 0, 1) := by decide +kernel
theorem dX9_answers_41 : decode cX9_answers 41 = .ok (.istore 4, 2) := by decide +kernel
theorem dX9_answers_43 : decode cX9_answers 43 = .ok (.iload 4, 2) := by decide +kernel
theorem dX9_answers_45 : decode cX9_answers 45 = .ok (.iload_n 2, 1) := by decide +kernel
theorem dX9_answers_46 : decode cX9_answers 46 = .ok (.if_icmp .ge 42, 3) := by decide +kernel
theorem dX9_answers_49 : decode cX9_answers 49 = .ok (.iload_n 3, 1) := by decide +kernel
theorem dX9_answers_50 : decode cX9_answers 50 = .ok (.ifCond .eq 38, 3) := by decide +kernel
theorem dX9_answers_53 : decode cX9_answers 53 = .ok (.aload_n 0, 1) := by decide +kernel
theorem dX9_answers_54 : decode cX9_answers 54 = .ok (.getfield 54, 3) := by decide +kernel
theorem dX9_answers_57 : decode cX9_answers 57 = .ok (.iload 4, 2) := by decide +kernel
theorem dX9_answers_59 : decode cX9_answers 59 = .ok (.iaload, 1) := by decide +kernel
theorem dX9_answers_60 : decode cX9_answers 60 = .ok (.iconst 3, 1) := by decide +kernel
theorem dX9_answers_61 : decode cX9_answers 61 = .ok (.iand, 1) := by decide +kernel
theorem dX9_answers_62 : decode cX9_answers 62 = .ok (.iconst 3, 1) := by decide +kernel
theorem dX9_answers_63 : decode cX9_answers 63 = .ok (.if_icmp .ne 13, 3) := by decide +kernel
theorem dX9_answers_66 : decode cX9_answers 66 = .ok (.aload_n 0, 1) := by decide +kernel
theorem dX9_answers_67 : decode cX9_answers 67 = .ok (.iload_n 2, 1) := by decide +kernel
theorem dX9_answers_68 : decode cX9_answers 68 = .ok (.iload 4, 2) := by decide +kernel
theorem dX9_answers_70 : decode cX9_answers 70 = .ok (.invokevirtual 388, 3) := by decide +kernel
theorem dX9_answers_73 : decode cX9_answers 73 = .ok (.ifCond .ne 7, 3) := by decide +kernel
theorem dX9_answers_76 : decode cX9_answers 76 = .ok (.iconst 1, 1) := by decide +kernel
theorem dX9_answers_77 : decode cX9_answers 77 = .ok (.goto 4, 3) := by decide +kernel
theorem dX9_answers_80 : decode cX9_answers 80 = .ok (.iconst 0, 1) := by decide +kernel
theorem dX9_answers_81 : decode cX9_answers 81 = .ok (.istore_n 3, 1) := by decide +kernel
theorem dX9_answers_82 : decode cX9_answers 82 = .ok (.iinc 4 1, 3) := by decide +kernel
theorem dX9_answers_85 : decode cX9_answers 85 = .ok (.goto (-42), 3) := by decide +kernel
theorem dX9_answers_88 : decode cX9_answers 88 = .ok (.iload_n 1, 1) := by decide +kernel
theorem dX9_answers_89 : decode cX9_answers 89 = .ok (.iload_n 3, 1) := by decide +kernel
theorem dX9_answers_90 : decode cX9_answers 90 = .ok (.ifCond .eq 7, 3) := by decide +kernel
theorem dX9_answers_93 : decode cX9_answers 93 = .ok (.iconst 1, 1) := by decide +kernel
theorem dX9_answers_94 : decode cX9_answers 94 = .ok (.goto 4, 3) := by decide +kernel
theorem dX9_answers_97 : decode cX9_answers 97 = .ok (.iconst 0, 1) := by decide +kernel
theorem dX9_answers_98 : decode cX9_answers 98 = .ok (.iadd, 1) := by decide +kernel
theorem dX9_answers_99 : decode cX9_answers 99 = .ok (.istore_n 1, 1) := by decide +kernel
theorem dX9_answers_100 : decode cX9_answers 100 = .ok (.iinc 2 1, 3) := by decide +kernel
theorem dX9_answers_103 : decode cX9_answers 103 = .ok (.goto (-89), 3) := by decide +kernel
theorem dX9_answers_106 : decode cX9_answers 106 = .ok (.iload_n 1, 1) := by decide +kernel
theorem dX9_answers_107 : decode cX9_answers 107 = .ok (.ireturn, 1) := by decide +kernel
theorem dX9_argumentOf_0 : decode cX9_argumentOf 0 = .ok (.aload_n 0, 1) := by decide +kernel
theorem dX9_argumentOf_1 : decode cX9_argumentOf 1 = .ok (.getfield 13, 3) := by decide +kernel
theorem dX9_argumentOf_4 : decode cX9_argumentOf 4 = .ok (.bipush 6, 2) := by decide +kernel
theorem dX9_argumentOf_6 : decode cX9_argumentOf 6 = .ok (.bipush 120, 2) := by decide +kernel
theorem dX9_argumentOf_8 : decode cX9_argumentOf 8 = .ok (.aload_n 0, 1) := by decide +kernel
theorem dX9_argumentOf_9 : decode cX9_argumentOf 9 = .ok (.iload_n 1, 1) := by decide +kernel
theorem dX9_argumentOf_10 : decode cX9_argumentOf 10 = .ok (.invokevirtual 144, 3) := by decide +kernel
theorem dX9_argumentOf_13 : decode cX9_argumentOf 13 = .ok (.imul, 1) := by decide +kernel
theorem dX9_argumentOf_14 : decode cX9_argumentOf 14 = .ok (.iadd, 1) := by decide +kernel
theorem dX9_argumentOf_15 : decode cX9_argumentOf 15 = .ok (.iconst 4, 1) := by decide +kernel
theorem dX9_argumentOf_16 : decode cX9_argumentOf 16 = .ok (.aload_n 0, 1) := by decide +kernel
theorem dX9_argumentOf_17 : decode cX9_argumentOf 17 = .ok (.getfield 16, 3) := by decide +kernel
theorem dX9_argumentOf_20 : decode cX9_argumentOf 20 = .ok (.iload_n 1, 1) := by decide +kernel
theorem dX9_argumentOf_21 : decode cX9_argumentOf 21 = .ok (.invokestatic 122, 3) := by decide +kernel
theorem dX9_argumentOf_24 : decode cX9_argumentOf 24 = .ok (.iconst 2, 1) := by decide +kernel
theorem dX9_argumentOf_25 : decode cX9_argumentOf 25 = .ok (.iadd, 1) := by decide +kernel
theorem dX9_argumentOf_26 : decode cX9_argumentOf 26 = .ok (.iaload, 1) := by decide +kernel
theorem dX9_argumentOf_27 : decode cX9_argumentOf 27 = .ok (.imul, 1) := by decide +kernel
theorem dX9_argumentOf_28 : decode cX9_argumentOf 28 = .ok (.iadd, 1) := by decide +kernel
theorem dX9_argumentOf_29 : decode cX9_argumentOf 29 = .ok (.iload_n 2, 1) := by decide +kernel
theorem dX9_argumentOf_30 : decode cX9_argumentOf 30 = .ok (.iadd, 1) := by decide +kernel
theorem dX9_argumentOf_31 : decode cX9_argumentOf 31 = .ok (.iaload, 1) := by decide +kernel
theorem dX9_argumentOf_32 : decode cX9_argumentOf 32 = .ok (.ireturn, 1) := by decide +kernel
theorem dX9_asNode_0 : decode cX9_asNode 0 = .ok (.iconst 2, 1) := by decide +kernel
theorem dX9_asNode_1 : decode cX9_asNode 1 = .ok (.iload_n 0, 1) := by decide +kernel
theorem dX9_asNode_2 : decode cX9_asNode 2 = .ok (.iconst 2, 1) := by decide +kernel
theorem dX9_asNode_3 : decode cX9_asNode 3 = .ok (.ishl, 1) := by decide +kernel
theorem dX9_asNode_4 : decode cX9_asNode 4 = .ok (.ior, 1) := by decide +kernel
theorem dX9_asNode_5 : decode cX9_asNode 5 = .ok (.ireturn, 1) := by decide +kernel
theorem dX9_asNumber_0 : decode cX9_asNumber 0 = .ok (.iload_n 0, 1) := by decide +kernel
theorem dX9_asNumber_1 : decode cX9_asNumber 1 = .ok (.bipush 99, 2) := by decide +kernel
theorem dX9_asNumber_3 : decode cX9_asNumber 3 = .ok (.if_icmp .le 8, 3) := by decide +kernel
theorem dX9_asNumber_6 : decode cX9_asNumber 6 = .ok (.bipush 99, 2) := by decide +kernel
theorem dX9_asNumber_8 : decode cX9_asNumber 8 = .ok (.goto 15, 3) := by decide +kernel
theorem dX9_asNumber_11 : decode cX9_asNumber 11 = .ok (.iload_n 0, 1) := by decide +kernel
theorem dX9_asNumber_12 : decode cX9_asNumber 12 = .ok (.bipush (-99), 2) := by decide +kernel
theorem dX9_asNumber_14 : decode cX9_asNumber 14 = .ok (.if_icmp .ge 8, 3) := by decide +kernel
theorem dX9_asNumber_17 : decode cX9_asNumber 17 = .ok (.bipush (-99), 2) := by decide +kernel
theorem dX9_asNumber_19 : decode cX9_asNumber 19 = .ok (.goto 4, 3) := by decide +kernel
theorem dX9_asNumber_22 : decode cX9_asNumber 22 = .ok (.iload_n 0, 1) := by decide +kernel
theorem dX9_asNumber_23 : decode cX9_asNumber 23 = .ok (.istore_n 1, 1) := by decide +kernel
theorem dX9_asNumber_24 : decode cX9_asNumber 24 = .ok (.iconst 1, 1) := by decide +kernel
theorem dX9_asNumber_25 : decode cX9_asNumber 25 = .ok (.iload_n 1, 1) := by decide +kernel
theorem dX9_asNumber_26 : decode cX9_asNumber 26 = .ok (.bipush 99, 2) := by decide +kernel
theorem dX9_asNumber_28 : decode cX9_asNumber 28 = .ok (.iadd, 1) := by decide +kernel
theorem dX9_asNumber_29 : decode cX9_asNumber 29 = .ok (.iconst 2, 1) := by decide +kernel
theorem dX9_asNumber_30 : decode cX9_asNumber 30 = .ok (.ishl, 1) := by decide +kernel
theorem dX9_asNumber_31 : decode cX9_asNumber 31 = .ok (.ior, 1) := by decide +kernel
theorem dX9_asNumber_32 : decode cX9_asNumber 32 = .ok (.ireturn, 1) := by decide +kernel
theorem dX9_at_0 : decode cX9_at 0 = .ok (.bipush 27, 2) := by decide +kernel
theorem dX9_at_2 : decode cX9_at 2 = .ok (.bipush 18, 2) := by decide +kernel
theorem dX9_at_4 : decode cX9_at 4 = .ok (.iload_n 0, 1) := by decide +kernel
theorem dX9_at_5 : decode cX9_at 5 = .ok (.imul, 1) := by decide +kernel
theorem dX9_at_6 : decode cX9_at 6 = .ok (.iadd, 1) := by decide +kernel
theorem dX9_at_7 : decode cX9_at 7 = .ok (.ireturn, 1) := by decide +kernel
theorem dX9_becomes_0 : decode cX9_becomes 0 = .ok (.aload_n 0, 1) := by decide +kernel
theorem dX9_becomes_1 : decode cX9_becomes 1 = .ok (.getfield 16, 3) := by decide +kernel
theorem dX9_becomes_4 : decode cX9_becomes 4 = .ok (.iload_n 1, 1) := by decide +kernel
theorem dX9_becomes_5 : decode cX9_becomes 5 = .ok (.iaload, 1) := by decide +kernel
theorem dX9_becomes_6 : decode cX9_becomes 6 = .ok (.invokestatic 118, 3) := by decide +kernel
theorem dX9_becomes_9 : decode cX9_becomes 9 = .ok (.istore_n 3, 1) := by decide +kernel
theorem dX9_becomes_10 : decode cX9_becomes 10 = .ok (.aload_n 0, 1) := by decide +kernel
theorem dX9_becomes_11 : decode cX9_becomes 11 = .ok (.getfield 13, 3) := by decide +kernel
theorem dX9_becomes_14 : decode cX9_becomes 14 = .ok (.sipush 948, 3) := by decide +kernel
theorem dX9_becomes_17 : decode cX9_becomes 17 = .ok (.iaload, 1) := by decide +kernel
theorem dX9_becomes_18 : decode cX9_becomes 18 = .ok (.iconst 2, 1) := by decide +kernel
theorem dX9_becomes_19 : decode cX9_becomes 19 = .ok (.if_icmp .ne 11, 3) := by decide +kernel
theorem dX9_becomes_22 : decode cX9_becomes 22 = .ok (.iload_n 3, 1) := by decide +kernel
theorem dX9_becomes_23 : decode cX9_becomes 23 = .ok (.iconst 1, 1) := by decide +kernel
theorem dX9_becomes_24 : decode cX9_becomes 24 = .ok (.iadd, 1) := by decide +kernel
theorem dX9_becomes_25 : decode cX9_becomes 25 = .ok (.iconst 3, 1) := by decide +kernel
theorem dX9_becomes_26 : decode cX9_becomes 26 = .ok (.iand, 1) := by decide +kernel
theorem dX9_becomes_27 : decode cX9_becomes 27 = .ok (.goto 4, 3) := by decide +kernel
theorem dX9_becomes_30 : decode cX9_becomes 30 = .ok (.iload_n 3, 1) := by decide +kernel
theorem dX9_becomes_31 : decode cX9_becomes 31 = .ok (.istore_n 3, 1) := by decide +kernel
theorem dX9_becomes_32 : decode cX9_becomes 32 = .ok (.aload_n 0, 1) := by decide +kernel
theorem dX9_becomes_33 : decode cX9_becomes 33 = .ok (.getfield 16, 3) := by decide +kernel
theorem dX9_becomes_36 : decode cX9_becomes 36 = .ok (.iload_n 1, 1) := by decide +kernel
theorem dX9_becomes_37 : decode cX9_becomes 37 = .ok (.iload_n 2, 1) := by decide +kernel
theorem dX9_becomes_38 : decode cX9_becomes 38 = .ok (.sipush 2047, 3) := by decide +kernel
theorem dX9_becomes_41 : decode cX9_becomes 41 = .ok (.iand, 1) := by decide +kernel
theorem dX9_becomes_42 : decode cX9_becomes 42 = .ok (.iload_n 3, 1) := by decide +kernel
theorem dX9_becomes_43 : decode cX9_becomes 43 = .ok (.bipush 11, 2) := by decide +kernel
theorem dX9_becomes_45 : decode cX9_becomes 45 = .ok (.ishl, 1) := by decide +kernel
theorem dX9_becomes_46 : decode cX9_becomes 46 = .ok (.ior, 1) := by decide +kernel
theorem dX9_becomes_47 : decode cX9_becomes 47 = .ok (.iastore, 1) := by decide +kernel
theorem dX9_becomes_48 : decode cX9_becomes 48 = .ok (.return_, 1) := by decide +kernel
theorem dX9_begin_0 : decode cX9_begin 0 = .ok (.aload_n 0, 1) := by decide +kernel
theorem dX9_begin_1 : decode cX9_begin 1 = .ok (.iconst 0, 1) := by decide +kernel
theorem dX9_begin_2 : decode cX9_begin 2 = .ok (.invokevirtual 285, 3) := by decide +kernel
theorem dX9_begin_5 : decode cX9_begin 5 = .ok (.aload_n 0, 1) := by decide +kernel
theorem dX9_begin_6 : decode cX9_begin 6 = .ok (.invokevirtual 271, 3) := by decide +kernel
theorem dX9_begin_9 : decode cX9_begin 9 = .ok (.ifCond .ne 6, 3) := by decide +kernel
theorem dX9_begin_12 : decode cX9_begin 12 = .ok (.bipush (-2), 2) := by decide +kernel
theorem dX9_begin_14 : decode cX9_begin 14 = .ok (.ireturn, 1) := by decide +kernel
theorem dX9_begin_15 : decode cX9_begin 15 = .ok (.aload_n 0, 1) := by decide +kernel
theorem dX9_begin_16 : decode cX9_begin 16 = .ok (.invokevirtual 288, 3) := by decide +kernel
theorem dX9_begin_19 : decode cX9_begin 19 = .ok (.istore_n 1, 1) := by decide +kernel
theorem dX9_begin_20 : decode cX9_begin 20 = .ok (.aload_n 0, 1) := by decide +kernel
theorem dX9_begin_21 : decode cX9_begin 21 = .ok (.iload_n 1, 1) := by decide +kernel
theorem dX9_begin_22 : decode cX9_begin 22 = .ok (.ifCond .ne 7, 3) := by decide +kernel
theorem dX9_begin_25 : decode cX9_begin 25 = .ok (.iconst 1, 1) := by decide +kernel
theorem dX9_begin_26 : decode cX9_begin 26 = .ok (.goto 4, 3) := by decide +kernel
theorem dX9_begin_29 : decode cX9_begin 29 = .ok (.iconst 0, 1) := by decide +kernel
theorem dX9_begin_30 : decode cX9_begin 30 = .ok (.putfield 291, 3) := by decide +kernel
theorem dX9_begin_33 : decode cX9_begin 33 = .ok (.iload_n 1, 1) := by decide +kernel
theorem dX9_begin_34 : decode cX9_begin 34 = .ok (.ifCond .le 8, 3) := by decide +kernel
theorem dX9_begin_37 : decode cX9_begin 37 = .ok (.bipush (-10), 2) := by decide +kernel
theorem dX9_begin_39 : decode cX9_begin 39 = .ok (.iload_n 1, 1) := by decide +kernel
theorem dX9_begin_40 : decode cX9_begin 40 = .ok (.isub, 1) := by decide +kernel
theorem dX9_begin_41 : decode cX9_begin 41 = .ok (.ireturn, 1) := by decide +kernel
theorem dX9_begin_42 : decode cX9_begin 42 = .ok (.aload_n 0, 1) := by decide +kernel
theorem dX9_begin_43 : decode cX9_begin 43 = .ok (.iconst 1, 1) := by decide +kernel
theorem dX9_begin_44 : decode cX9_begin 44 = .ok (.invokevirtual 294, 3) := by decide +kernel
theorem dX9_begin_47 : decode cX9_begin 47 = .ok (.aload_n 0, 1) := by decide +kernel
theorem dX9_begin_48 : decode cX9_begin 48 = .ok (.invokevirtual 297, 3) := by decide +kernel
theorem dX9_begin_51 : decode cX9_begin 51 = .ok (.aload_n 0, 1) := by decide +kernel
theorem dX9_begin_52 : decode cX9_begin 52 = .ok (.iconst 1, 1) := by decide +kernel
theorem dX9_begin_53 : decode cX9_begin 53 = .ok (.putfield 291, 3) := by decide +kernel
theorem dX9_begin_56 : decode cX9_begin 56 = .ok (.aload_n 0, 1) := by decide +kernel
theorem dX9_begin_57 : decode cX9_begin 57 = .ok (.iconst 0, 1) := by decide +kernel
theorem dX9_begin_58 : decode cX9_begin 58 = .ok (.putfield 300, 3) := by decide +kernel
theorem dX9_begin_61 : decode cX9_begin 61 = .ok (.aload_n 0, 1) := by decide +kernel
theorem dX9_begin_62 : decode cX9_begin 62 = .ok (.iconst (-1), 1) := by decide +kernel
theorem dX9_begin_63 : decode cX9_begin 63 = .ok (.putfield 303, 3) := by decide +kernel
theorem dX9_begin_66 : decode cX9_begin 66 = .ok (.iconst 1, 1) := by decide +kernel
theorem dX9_begin_67 : decode cX9_begin 67 = .ok (.ireturn, 1) := by decide +kernel
theorem dX9_begins_0 : decode cX9_begins 0 = .ok (.iload_n 1, 1) := by decide +kernel
theorem dX9_begins_1 : decode cX9_begins 1 = .ok (.invokestatic 122, 3) := by decide +kernel
theorem dX9_begins_4 : decode cX9_begins 4 = .ok (.istore_n 2, 1) := by decide +kernel
theorem dX9_begins_5 : decode cX9_begins 5 = .ok (.iconst 0, 1) := by decide +kernel
theorem dX9_begins_6 : decode cX9_begins 6 = .ok (.istore_n 3, 1) := by decide +kernel
theorem dX9_begins_7 : decode cX9_begins 7 = .ok (.iload_n 3, 1) := by decide +kernel
theorem dX9_begins_8 : decode cX9_begins 8 = .ok (.bipush 6, 2) := by decide +kernel
theorem dX9_begins_10 : decode cX9_begins 10 = .ok (.if_icmp .ge 16, 3) := by decide +kernel
theorem dX9_begins_13 : decode cX9_begins 13 = .ok (.aload_n 0, 1) := by decide +kernel
theorem dX9_begins_14 : decode cX9_begins 14 = .ok (.iload_n 1, 1) := by decide +kernel
theorem dX9_begins_15 : decode cX9_begins 15 = .ok (.iload_n 3, 1) := by decide +kernel
theorem dX9_begins_16 : decode cX9_begins 16 = .ok (.iconst 0, 1) := by decide +kernel
theorem dX9_begins_17 : decode cX9_begins 17 = .ok (.invokevirtual 147, 3) := by decide +kernel
theorem dX9_begins_20 : decode cX9_begins 20 = .ok (.iinc 3 1, 3) := by decide +kernel
theorem dX9_begins_23 : decode cX9_begins 23 = .ok (.goto (-16), 3) := by decide +kernel
theorem dX9_begins_26 : decode cX9_begins 26 = .ok (.aload_n 0, 1) := by decide +kernel
theorem dX9_begins_27 : decode cX9_begins 27 = .ok (.iload_n 1, 1) := by decide +kernel
theorem dX9_begins_28 : decode cX9_begins 28 = .ok (.iconst 0, 1) := by decide +kernel
theorem dX9_begins_29 : decode cX9_begins 29 = .ok (.aload_n 0, 1) := by decide +kernel
theorem dX9_begins_30 : decode cX9_begins 30 = .ok (.getfield 13, 3) := by decide +kernel
theorem dX9_begins_33 : decode cX9_begins 33 = .ok (.sipush 932, 3) := by decide +kernel
theorem dX9_begins_36 : decode cX9_begins 36 = .ok (.iconst 4, 1) := by decide +kernel
theorem dX9_begins_37 : decode cX9_begins 37 = .ok (.aload_n 0, 1) := by decide +kernel
theorem dX9_begins_38 : decode cX9_begins 38 = .ok (.getfield 133, 3) := by decide +kernel
theorem dX9_begins_41 : decode cX9_begins 41 = .ok (.ifCond .eq 7, 3) := by decide +kernel
theorem dX9_begins_44 : decode cX9_begins 44 = .ok (.iconst 3, 1) := by decide +kernel
theorem dX9_begins_45 : decode cX9_begins 45 = .ok (.goto 4, 3) := by decide +kernel
theorem dX9_begins_48 : decode cX9_begins 48 = .ok (.iload_n 1, 1) := by decide +kernel
theorem dX9_begins_49 : decode cX9_begins 49 = .ok (.imul, 1) := by decide +kernel
theorem dX9_begins_50 : decode cX9_begins 50 = .ok (.iadd, 1) := by decide +kernel
theorem dX9_begins_51 : decode cX9_begins 51 = .ok (.aload_n 0, 1) := by decide +kernel
theorem dX9_begins_52 : decode cX9_begins 52 = .ok (.getfield 16, 3) := by decide +kernel
theorem dX9_begins_55 : decode cX9_begins 55 = .ok (.iload_n 2, 1) := by decide +kernel
theorem dX9_begins_56 : decode cX9_begins 56 = .ok (.iconst 0, 1) := by decide +kernel
theorem dX9_begins_57 : decode cX9_begins 57 = .ok (.iadd, 1) := by decide +kernel
theorem dX9_begins_58 : decode cX9_begins 58 = .ok (.iaload, 1) := by decide +kernel
theorem dX9_begins_59 : decode cX9_begins 59 = .ok (.iadd, 1) := by decide +kernel
theorem dX9_begins_60 : decode cX9_begins 60 = .ok (.iaload, 1) := by decide +kernel
theorem dX9_begins_61 : decode cX9_begins 61 = .ok (.invokestatic 151, 3) := by decide +kernel
theorem dX9_begins_64 : decode cX9_begins 64 = .ok (.invokevirtual 147, 3) := by decide +kernel
theorem dX9_begins_67 : decode cX9_begins 67 = .ok (.aload_n 0, 1) := by decide +kernel
theorem dX9_begins_68 : decode cX9_begins 68 = .ok (.getfield 16, 3) := by decide +kernel
theorem dX9_begins_71 : decode cX9_begins 71 = .ok (.iload_n 2, 1) := by decide +kernel
theorem dX9_begins_72 : decode cX9_begins 72 = .ok (.iconst 2, 1) := by decide +kernel
theorem dX9_begins_73 : decode cX9_begins 73 = .ok (.iadd, 1) := by decide +kernel
theorem dX9_begins_74 : decode cX9_begins 74 = .ok (.iconst 0, 1) := by decide +kernel
theorem dX9_begins_75 : decode cX9_begins 75 = .ok (.iastore, 1) := by decide +kernel
theorem dX9_begins_76 : decode cX9_begins 76 = .ok (.aload_n 0, 1) := by decide +kernel
theorem dX9_begins_77 : decode cX9_begins 77 = .ok (.getfield 16, 3) := by decide +kernel
theorem dX9_begins_80 : decode cX9_begins 80 = .ok (.iload_n 2, 1) := by decide +kernel
theorem dX9_begins_81 : decode cX9_begins 81 = .ok (.iconst 1, 1) := by decide +kernel
theorem dX9_begins_82 : decode cX9_begins 82 = .ok (.iadd, 1) := by decide +kernel
theorem dX9_begins_83 : decode cX9_begins 83 = .ok (.iconst 1, 1) := by decide +kernel
theorem dX9_begins_84 : decode cX9_begins 84 = .ok (.iastore, 1) := by decide +kernel
theorem dX9_begins_85 : decode cX9_begins 85 = .ok (.iconst 0, 1) := by decide +kernel
theorem dX9_begins_86 : decode cX9_begins 86 = .ok (.istore_n 3, 1) := by decide +kernel
theorem dX9_begins_87 : decode cX9_begins 87 = .ok (.iconst 0, 1) := by decide +kernel
theorem dX9_begins_88 : decode cX9_begins 88 = .ok (.istore 4, 2) := by decide +kernel
theorem dX9_begins_90 : decode cX9_begins 90 = .ok (.iload 4, 2) := by decide +kernel
theorem dX9_begins_92 : decode cX9_begins 92 = .ok (.iconst 3, 1) := by decide +kernel
theorem dX9_begins_93 : decode cX9_begins 93 = .ok (.if_icmp .ge 47, 3) := by decide +kernel
theorem dX9_begins_96 : decode cX9_begins 96 = .ok (.iconst 0, 1) := by decide +kernel
theorem dX9_begins_97 : decode cX9_begins 97 = .ok (.istore 5, 2) := by decide +kernel
theorem dX9_begins_99 : decode cX9_begins 99 = .ok (.iload 5, 2) := by decide +kernel
theorem dX9_begins_101 : decode cX9_begins 101 = .ok (.aload_n 0, 1) := by decide +kernel
theorem dX9_begins_102 : decode cX9_begins 102 = .ok (.getfield 16, 3) := by decide +kernel
theorem dX9_begins_105 : decode cX9_begins 105 = .ok (.iload 4, 2) := by decide +kernel
theorem dX9_begins_107 : decode cX9_begins 107 = .ok (.invokestatic 122, 3) := by decide +kernel
theorem dX9_begins_110 : decode cX9_begins 110 = .ok (.iconst 0, 1) := by decide +kernel
theorem dX9_begins_111 : decode cX9_begins 111 = .ok (.iadd, 1) := by decide +kernel
theorem dX9_begins_112 : decode cX9_begins 112 = .ok (.iaload, 1) := by decide +kernel
theorem dX9_begins_113 : decode cX9_begins 113 = .ok (.if_icmp .ge 21, 3) := by decide +kernel
theorem dX9_begins_116 : decode cX9_begins 116 = .ok (.iload_n 3, 1) := by decide +kernel
theorem dX9_begins_117 : decode cX9_begins 117 = .ok (.iconst 1, 1) := by decide +kernel
theorem dX9_begins_118 : decode cX9_begins 118 = .ok (.iconst 3, 1) := by decide +kernel
theorem dX9_begins_119 : decode cX9_begins 119 = .ok (.iload 4, 2) := by decide +kernel
theorem dX9_begins_121 : decode cX9_begins 121 = .ok (.imul, 1) := by decide +kernel
theorem dX9_begins_122 : decode cX9_begins 122 = .ok (.iload 5, 2) := by decide +kernel
theorem dX9_begins_124 : decode cX9_begins 124 = .ok (.iadd, 1) := by decide +kernel
theorem dX9_begins_125 : decode cX9_begins 125 = .ok (.ishl, 1) := by decide +kernel
theorem dX9_begins_126 : decode cX9_begins 126 = .ok (.ior, 1) := by decide +kernel
theorem dX9_begins_127 : decode cX9_begins 127 = .ok (.istore_n 3, 1) := by decide +kernel
theorem dX9_begins_128 : decode cX9_begins 128 = .ok (.iinc 5 1, 3) := by decide +kernel
theorem dX9_begins_131 : decode cX9_begins 131 = .ok (.goto (-32), 3) := by decide +kernel
theorem dX9_begins_134 : decode cX9_begins 134 = .ok (.iinc 4 1, 3) := by decide +kernel
theorem dX9_begins_137 : decode cX9_begins 137 = .ok (.goto (-47), 3) := by decide +kernel
theorem dX9_begins_140 : decode cX9_begins 140 = .ok (.aload_n 0, 1) := by decide +kernel
theorem dX9_begins_141 : decode cX9_begins 141 = .ok (.getfield 133, 3) := by decide +kernel
theorem dX9_begins_144 : decode cX9_begins 144 = .ok (.ifCond .ne 26, 3) := by decide +kernel
theorem dX9_begins_147 : decode cX9_begins 147 = .ok (.aload_n 0, 1) := by decide +kernel
theorem dX9_begins_148 : decode cX9_begins 148 = .ok (.getfield 16, 3) := by decide +kernel
theorem dX9_begins_151 : decode cX9_begins 151 = .ok (.bipush 81, 2) := by decide +kernel
theorem dX9_begins_153 : decode cX9_begins 153 = .ok (.iconst 2, 1) := by decide +kernel
theorem dX9_begins_154 : decode cX9_begins 154 = .ok (.iconst 3, 1) := by decide +kernel
theorem dX9_begins_155 : decode cX9_begins 155 = .ok (.iload_n 1, 1) := by decide +kernel
theorem dX9_begins_156 : decode cX9_begins 156 = .ok (.imul, 1) := by decide +kernel
theorem dX9_begins_157 : decode cX9_begins 157 = .ok (.aload_n 0, 1) := by decide +kernel
theorem dX9_begins_158 : decode cX9_begins 158 = .ok (.getfield 16, 3) := by decide +kernel
theorem dX9_begins_161 : decode cX9_begins 161 = .ok (.iload_n 2, 1) := by decide +kernel
theorem dX9_begins_162 : decode cX9_begins 162 = .ok (.iconst 0, 1) := by decide +kernel
theorem dX9_begins_163 : decode cX9_begins 163 = .ok (.iadd, 1) := by decide +kernel
theorem dX9_begins_164 : decode cX9_begins 164 = .ok (.iaload, 1) := by decide +kernel
theorem dX9_begins_165 : decode cX9_begins 165 = .ok (.iadd, 1) := by decide +kernel
theorem dX9_begins_166 : decode cX9_begins 166 = .ok (.imul, 1) := by decide +kernel
theorem dX9_begins_167 : decode cX9_begins 167 = .ok (.iadd, 1) := by decide +kernel
theorem dX9_begins_168 : decode cX9_begins 168 = .ok (.iload_n 3, 1) := by decide +kernel
theorem dX9_begins_169 : decode cX9_begins 169 = .ok (.iastore, 1) := by decide +kernel
theorem dX9_begins_170 : decode cX9_begins 170 = .ok (.return_, 1) := by decide +kernel
theorem dX9_call_0 : decode cX9_call 0 = .ok (.iload_n 1, 1) := by decide +kernel
theorem dX9_call_1 : decode cX9_call 1 = .ok (.i2l, 1) := by decide +kernel
theorem dX9_call_2 : decode cX9_call 2 = .ok (.lconst 0, 1) := by decide +kernel
theorem dX9_call_3 : decode cX9_call 3 = .ok (.ldc2_w 114, 3) := by decide +kernel
theorem dX9_call_6 : decode cX9_call 6 = .ok (.invokestatic 68, 3) := by decide +kernel
theorem dX9_call_9 : decode cX9_call 9 = .ok (.ifCond .eq 17, 3) := by decide +kernel
theorem dX9_call_12 : decode cX9_call 12 = .ok (.iload_n 2, 1) := by decide +kernel
theorem dX9_call_13 : decode cX9_call 13 = .ok (.invokestatic 99, 3) := by decide +kernel
theorem dX9_call_16 : decode cX9_call 16 = .ok (.ifCond .eq 10, 3) := by decide +kernel
theorem dX9_call_19 : decode cX9_call 19 = .ok (.iload_n 3, 1) := by decide +kernel
theorem dX9_call_20 : decode cX9_call 20 = .ok (.invokestatic 94, 3) := by decide +kernel
theorem dX9_call_23 : decode cX9_call 23 = .ok (.ifCond .ne 5, 3) := by decide +kernel
theorem dX9_call_26 : decode cX9_call 26 = .ok (.iconst (-1), 1) := by decide +kernel
theorem dX9_call_27 : decode cX9_call 27 = .ok (.ireturn, 1) := by decide +kernel
theorem dX9_call_28 : decode cX9_call 28 = .ok (.aload_n 0, 1) := by decide +kernel
theorem dX9_call_29 : decode cX9_call 29 = .ok (.getfield 7, 3) := by decide +kernel
theorem dX9_call_32 : decode cX9_call 32 = .ok (.sipush 912, 3) := by decide +kernel
theorem dX9_call_35 : decode cX9_call 35 = .ok (.iload_n 1, 1) := by decide +kernel
theorem dX9_call_36 : decode cX9_call 36 = .ok (.iadd, 1) := by decide +kernel
theorem dX9_call_37 : decode cX9_call 37 = .ok (.iaload, 1) := by decide +kernel
theorem dX9_call_38 : decode cX9_call 38 = .ok (.istore 4, 2) := by decide +kernel
theorem dX9_call_40 : decode cX9_call 40 = .ok (.aload_n 0, 1) := by decide +kernel
theorem dX9_call_41 : decode cX9_call 41 = .ok (.getfield 7, 3) := by decide +kernel
theorem dX9_call_44 : decode cX9_call 44 = .ok (.sipush 912, 3) := by decide +kernel
theorem dX9_call_47 : decode cX9_call 47 = .ok (.iaload, 1) := by decide +kernel
theorem dX9_call_48 : decode cX9_call 48 = .ok (.aload_n 0, 1) := by decide +kernel
theorem dX9_call_49 : decode cX9_call 49 = .ok (.getfield 7, 3) := by decide +kernel
theorem dX9_call_52 : decode cX9_call 52 = .ok (.sipush 913, 3) := by decide +kernel
theorem dX9_call_55 : decode cX9_call 55 = .ok (.iaload, 1) := by decide +kernel
theorem dX9_call_56 : decode cX9_call 56 = .ok (.iadd, 1) := by decide +kernel
theorem dX9_call_57 : decode cX9_call 57 = .ok (.aload_n 0, 1) := by decide +kernel
theorem dX9_call_58 : decode cX9_call 58 = .ok (.getfield 7, 3) := by decide +kernel
theorem dX9_call_61 : decode cX9_call 61 = .ok (.sipush 914, 3) := by decide +kernel
theorem dX9_call_64 : decode cX9_call 64 = .ok (.iaload, 1) := by decide +kernel
theorem dX9_call_65 : decode cX9_call 65 = .ok (.iadd, 1) := by decide +kernel
theorem dX9_call_66 : decode cX9_call 66 = .ok (.istore 5, 2) := by decide +kernel
theorem dX9_call_68 : decode cX9_call 68 = .ok (.iload 4, 2) := by decide +kernel
theorem dX9_call_70 : decode cX9_call 70 = .ok (.iload_n 1, 1) := by decide +kernel
theorem dX9_call_71 : decode cX9_call 71 = .ok (.iconst 3, 1) := by decide +kernel
theorem dX9_call_72 : decode cX9_call 72 = .ok (.if_icmp .ne 7, 3) := by decide +kernel
theorem dX9_call_75 : decode cX9_call 75 = .ok (.iconst 4, 1) := by decide +kernel
theorem dX9_call_76 : decode cX9_call 76 = .ok (.goto 4, 3) := by decide +kernel
theorem dX9_call_79 : decode cX9_call 79 = .ok (.iconst 3, 1) := by decide +kernel
theorem dX9_call_80 : decode cX9_call 80 = .ok (.if_icmp .eq 15, 3) := by decide +kernel
theorem dX9_call_83 : decode cX9_call 83 = .ok (.iload_n 1, 1) := by decide +kernel
theorem dX9_call_84 : decode cX9_call 84 = .ok (.iconst 3, 1) := by decide +kernel
theorem dX9_call_85 : decode cX9_call 85 = .ok (.if_icmp .ge 13, 3) := by decide +kernel
theorem dX9_call_88 : decode cX9_call 88 = .ok (.iload 5, 2) := by decide +kernel
theorem dX9_call_90 : decode cX9_call 90 = .ok (.bipush 6, 2) := by decide +kernel
theorem dX9_call_92 : decode cX9_call 92 = .ok (.if_icmp .ne 6, 3) := by decide +kernel
theorem dX9_call_95 : decode cX9_call 95 = .ok (.bipush (-3), 2) := by decide +kernel
theorem dX9_call_97 : decode cX9_call 97 = .ok (.ireturn, 1) := by decide +kernel
theorem dX9_call_98 : decode cX9_call 98 = .ok (.aload_n 0, 1) := by decide +kernel
theorem dX9_call_99 : decode cX9_call 99 = .ok (.getfield 7, 3) := by decide +kernel
theorem dX9_call_102 : decode cX9_call 102 = .ok (.sipush 916, 3) := by decide +kernel
theorem dX9_call_105 : decode cX9_call 105 = .ok (.iconst 4, 1) := by decide +kernel
theorem dX9_call_106 : decode cX9_call 106 = .ok (.iload_n 1, 1) := by decide +kernel
theorem dX9_call_107 : decode cX9_call 107 = .ok (.imul, 1) := by decide +kernel
theorem dX9_call_108 : decode cX9_call 108 = .ok (.iadd, 1) := by decide +kernel
theorem dX9_call_109 : decode cX9_call 109 = .ok (.iload 4, 2) := by decide +kernel
theorem dX9_call_111 : decode cX9_call 111 = .ok (.iadd, 1) := by decide +kernel
theorem dX9_call_112 : decode cX9_call 112 = .ok (.iload_n 2, 1) := by decide +kernel
theorem dX9_call_113 : decode cX9_call 113 = .ok (.iastore, 1) := by decide +kernel
theorem dX9_call_114 : decode cX9_call 114 = .ok (.aload_n 0, 1) := by decide +kernel
theorem dX9_call_115 : decode cX9_call 115 = .ok (.getfield 7, 3) := by decide +kernel
theorem dX9_call_118 : decode cX9_call 118 = .ok (.sipush 932, 3) := by decide +kernel
theorem dX9_call_121 : decode cX9_call 121 = .ok (.iconst 4, 1) := by decide +kernel
theorem dX9_call_122 : decode cX9_call 122 = .ok (.iload_n 1, 1) := by decide +kernel
theorem dX9_call_123 : decode cX9_call 123 = .ok (.imul, 1) := by decide +kernel
theorem dX9_call_124 : decode cX9_call 124 = .ok (.iadd, 1) := by decide +kernel
theorem dX9_call_125 : decode cX9_call 125 = .ok (.iload 4, 2) := by decide +kernel
theorem dX9_call_127 : decode cX9_call 127 = .ok (.iadd, 1) := by decide +kernel
theorem dX9_call_128 : decode cX9_call 128 = .ok (.iload_n 3, 1) := by decide +kernel
theorem dX9_call_129 : decode cX9_call 129 = .ok (.iastore, 1) := by decide +kernel
theorem dX9_call_130 : decode cX9_call 130 = .ok (.aload_n 0, 1) := by decide +kernel
theorem dX9_call_131 : decode cX9_call 131 = .ok (.getfield 7, 3) := by decide +kernel
theorem dX9_call_134 : decode cX9_call 134 = .ok (.sipush 912, 3) := by decide +kernel
theorem dX9_call_137 : decode cX9_call 137 = .ok (.iload_n 1, 1) := by decide +kernel
theorem dX9_call_138 : decode cX9_call 138 = .ok (.iadd, 1) := by decide +kernel
theorem dX9_call_139 : decode cX9_call 139 = .ok (.iload 4, 2) := by decide +kernel
theorem dX9_call_141 : decode cX9_call 141 = .ok (.iconst 1, 1) := by decide +kernel
theorem dX9_call_142 : decode cX9_call 142 = .ok (.iadd, 1) := by decide +kernel
theorem dX9_call_143 : decode cX9_call 143 = .ok (.iastore, 1) := by decide +kernel
theorem dX9_call_144 : decode cX9_call 144 = .ok (.iload 4, 2) := by decide +kernel
theorem dX9_call_146 : decode cX9_call 146 = .ok (.iconst 1, 1) := by decide +kernel
theorem dX9_call_147 : decode cX9_call 147 = .ok (.iadd, 1) := by decide +kernel
theorem dX9_call_148 : decode cX9_call 148 = .ok (.ireturn, 1) := by decide +kernel
theorem dX9_callMany_0 : decode cX9_callMany 0 = .ok (.aload_n 0, 1) := by decide +kernel
theorem dX9_callMany_1 : decode cX9_callMany 1 = .ok (.getfield 13, 3) := by decide +kernel
theorem dX9_callMany_4 : decode cX9_callMany 4 = .ok (.sipush 912, 3) := by decide +kernel
theorem dX9_callMany_7 : decode cX9_callMany 7 = .ok (.iaload, 1) := by decide +kernel
theorem dX9_callMany_8 : decode cX9_callMany 8 = .ok (.aload_n 0, 1) := by decide +kernel
theorem dX9_callMany_9 : decode cX9_callMany 9 = .ok (.getfield 13, 3) := by decide +kernel
theorem dX9_callMany_12 : decode cX9_callMany 12 = .ok (.sipush 913, 3) := by decide +kernel
theorem dX9_callMany_15 : decode cX9_callMany 15 = .ok (.iaload, 1) := by decide +kernel
theorem dX9_callMany_16 : decode cX9_callMany 16 = .ok (.iadd, 1) := by decide +kernel
theorem dX9_callMany_17 : decode cX9_callMany 17 = .ok (.aload_n 0, 1) := by decide +kernel
theorem dX9_callMany_18 : decode cX9_callMany 18 = .ok (.getfield 13, 3) := by decide +kernel
theorem dX9_callMany_21 : decode cX9_callMany 21 = .ok (.sipush 914, 3) := by decide +kernel
theorem dX9_callMany_24 : decode cX9_callMany 24 = .ok (.iaload, 1) := by decide +kernel
theorem dX9_callMany_25 : decode cX9_callMany 25 = .ok (.iadd, 1) := by decide +kernel
theorem dX9_callMany_26 : decode cX9_callMany 26 = .ok (.ireturn, 1) := by decide +kernel
theorem dX9_chooses_0 : decode cX9_chooses 0 = .ok (.aload_n 0, 1) := by decide +kernel
theorem dX9_chooses_1 : decode cX9_chooses 1 = .ok (.iconst 0, 1) := by decide +kernel
theorem dX9_chooses_2 : decode cX9_chooses 2 = .ok (.putfield 234, 3) := by decide +kernel
theorem dX9_chooses_5 : decode cX9_chooses 5 = .ok (.iload_n 1, 1) := by decide +kernel
theorem dX9_chooses_6 : decode cX9_chooses 6 = .ok (.iconst 2, 1) := by decide +kernel
theorem dX9_chooses_7 : decode cX9_chooses 7 = .ok (.if_icmp .le 13, 3) := by decide +kernel
theorem dX9_chooses_10 : decode cX9_chooses 10 = .ok (.aload_n 0, 1) := by decide +kernel
theorem dX9_chooses_11 : decode cX9_chooses 11 = .ok (.iload_n 1, 1) := by decide +kernel
theorem dX9_chooses_12 : decode cX9_chooses 12 = .ok (.iconst 3, 1) := by decide +kernel
theorem dX9_chooses_13 : decode cX9_chooses 13 = .ok (.isub, 1) := by decide +kernel
theorem dX9_chooses_14 : decode cX9_chooses 14 = .ok (.invokevirtual 129, 3) := by decide +kernel
theorem dX9_chooses_17 : decode cX9_chooses 17 = .ok (.goto 8, 3) := by decide +kernel
theorem dX9_chooses_20 : decode cX9_chooses 20 = .ok (.aload_n 0, 1) := by decide +kernel
theorem dX9_chooses_21 : decode cX9_chooses 21 = .ok (.iload_n 1, 1) := by decide +kernel
theorem dX9_chooses_22 : decode cX9_chooses 22 = .ok (.invokevirtual 246, 3) := by decide +kernel
theorem dX9_chooses_25 : decode cX9_chooses 25 = .ok (.return_, 1) := by decide +kernel
theorem dX9_clear_0 : decode cX9_clear 0 = .ok (.iconst 0, 1) := by decide +kernel
theorem dX9_clear_1 : decode cX9_clear 1 = .ok (.istore_n 1, 1) := by decide +kernel
theorem dX9_clear_2 : decode cX9_clear 2 = .ok (.iconst 0, 1) := by decide +kernel
theorem dX9_clear_3 : decode cX9_clear 3 = .ok (.istore_n 2, 1) := by decide +kernel
theorem dX9_clear_4 : decode cX9_clear 4 = .ok (.iload_n 2, 1) := by decide +kernel
theorem dX9_clear_5 : decode cX9_clear 5 = .ok (.iconst 4, 1) := by decide +kernel
theorem dX9_clear_6 : decode cX9_clear 6 = .ok (.if_icmp .ge 33, 3) := by decide +kernel
theorem dX9_clear_9 : decode cX9_clear 9 = .ok (.iload_n 1, 1) := by decide +kernel
theorem dX9_clear_10 : decode cX9_clear 10 = .ok (.aload_n 0, 1) := by decide +kernel
theorem dX9_clear_11 : decode cX9_clear 11 = .ok (.getfield 7, 3) := by decide +kernel
theorem dX9_clear_14 : decode cX9_clear 14 = .ok (.sipush 912, 3) := by decide +kernel
theorem dX9_clear_17 : decode cX9_clear 17 = .ok (.iload_n 2, 1) := by decide +kernel
theorem dX9_clear_18 : decode cX9_clear 18 = .ok (.iadd, 1) := by decide +kernel
theorem dX9_clear_19 : decode cX9_clear 19 = .ok (.iaload, 1) := by decide +kernel
theorem dX9_clear_20 : decode cX9_clear 20 = .ok (.iadd, 1) := by decide +kernel
theorem dX9_clear_21 : decode cX9_clear 21 = .ok (.istore_n 1, 1) := by decide +kernel
theorem dX9_clear_22 : decode cX9_clear 22 = .ok (.aload_n 0, 1) := by decide +kernel
theorem dX9_clear_23 : decode cX9_clear 23 = .ok (.getfield 7, 3) := by decide +kernel
theorem dX9_clear_26 : decode cX9_clear 26 = .ok (.sipush 912, 3) := by decide +kernel
theorem dX9_clear_29 : decode cX9_clear 29 = .ok (.iload_n 2, 1) := by decide +kernel
theorem dX9_clear_30 : decode cX9_clear 30 = .ok (.iadd, 1) := by decide +kernel
theorem dX9_clear_31 : decode cX9_clear 31 = .ok (.iconst 0, 1) := by decide +kernel
theorem dX9_clear_32 : decode cX9_clear 32 = .ok (.iastore, 1) := by decide +kernel
theorem dX9_clear_33 : decode cX9_clear 33 = .ok (.iinc 2 1, 3) := by decide +kernel
theorem dX9_clear_36 : decode cX9_clear 36 = .ok (.goto (-32), 3) := by decide +kernel
theorem dX9_clear_39 : decode cX9_clear 39 = .ok (.iload_n 1, 1) := by decide +kernel
theorem dX9_clear_40 : decode cX9_clear 40 = .ok (.ireturn, 1) := by decide +kernel
theorem dX9_comes_0 : decode cX9_comes 0 = .ok (.iload_n 1, 1) := by decide +kernel
theorem dX9_comes_1 : decode cX9_comes 1 = .ok (.invokestatic 122, 3) := by decide +kernel
theorem dX9_comes_4 : decode cX9_comes 4 = .ok (.istore_n 2, 1) := by decide +kernel
theorem dX9_comes_5 : decode cX9_comes 5 = .ok (.aload_n 0, 1) := by decide +kernel
theorem dX9_comes_6 : decode cX9_comes 6 = .ok (.aload_n 0, 1) := by decide +kernel
theorem dX9_comes_7 : decode cX9_comes 7 = .ok (.getfield 16, 3) := by decide +kernel
theorem dX9_comes_10 : decode cX9_comes 10 = .ok (.iload_n 2, 1) := by decide +kernel
theorem dX9_comes_11 : decode cX9_comes 11 = .ok (.bipush 8, 2) := by decide +kernel
theorem dX9_comes_13 : decode cX9_comes 13 = .ok (.iadd, 1) := by decide +kernel
theorem dX9_comes_14 : decode cX9_comes 14 = .ok (.iaload, 1) := by decide +kernel
theorem dX9_comes_15 : decode cX9_comes 15 = .ok (.bipush 16, 2) := by decide +kernel
theorem dX9_comes_17 : decode cX9_comes 17 = .ok (.ishr, 1) := by decide +kernel
theorem dX9_comes_18 : decode cX9_comes 18 = .ok (.aload_n 0, 1) := by decide +kernel
theorem dX9_comes_19 : decode cX9_comes 19 = .ok (.getfield 16, 3) := by decide +kernel
theorem dX9_comes_22 : decode cX9_comes 22 = .ok (.iload_n 2, 1) := by decide +kernel
theorem dX9_comes_23 : decode cX9_comes 23 = .ok (.bipush 8, 2) := by decide +kernel
theorem dX9_comes_25 : decode cX9_comes 25 = .ok (.iadd, 1) := by decide +kernel
theorem dX9_comes_26 : decode cX9_comes 26 = .ok (.iaload, 1) := by decide +kernel
theorem dX9_comes_27 : decode cX9_comes 27 = .ok (.sipush 2047, 3) := by decide +kernel
theorem dX9_comes_30 : decode cX9_comes 30 = .ok (.iand, 1) := by decide +kernel
theorem dX9_comes_31 : decode cX9_comes 31 = .ok (.invokevirtual 125, 3) := by decide +kernel
theorem dX9_comes_34 : decode cX9_comes 34 = .ok (.aload_n 0, 1) := by decide +kernel
theorem dX9_comes_35 : decode cX9_comes 35 = .ok (.getfield 16, 3) := by decide +kernel
theorem dX9_comes_38 : decode cX9_comes 38 = .ok (.iload_n 2, 1) := by decide +kernel
theorem dX9_comes_39 : decode cX9_comes 39 = .ok (.bipush 7, 2) := by decide +kernel
theorem dX9_comes_41 : decode cX9_comes 41 = .ok (.iadd, 1) := by decide +kernel
theorem dX9_comes_42 : decode cX9_comes 42 = .ok (.dup2, 1) := by decide +kernel
theorem dX9_comes_43 : decode cX9_comes 43 = .ok (.iaload, 1) := by decide +kernel
theorem dX9_comes_44 : decode cX9_comes 44 = .ok (.iconst 1, 1) := by decide +kernel
theorem dX9_comes_45 : decode cX9_comes 45 = .ok (.isub, 1) := by decide +kernel
theorem dX9_comes_46 : decode cX9_comes 46 = .ok (.iastore, 1) := by decide +kernel
theorem dX9_comes_47 : decode cX9_comes 47 = .ok (.iconst 0, 1) := by decide +kernel
theorem dX9_comes_48 : decode cX9_comes 48 = .ok (.istore_n 3, 1) := by decide +kernel
theorem dX9_comes_49 : decode cX9_comes 49 = .ok (.iload_n 3, 1) := by decide +kernel
theorem dX9_comes_50 : decode cX9_comes 50 = .ok (.iconst 3, 1) := by decide +kernel
theorem dX9_comes_51 : decode cX9_comes 51 = .ok (.if_icmp .ge 33, 3) := by decide +kernel
theorem dX9_comes_54 : decode cX9_comes 54 = .ok (.aload_n 0, 1) := by decide +kernel
theorem dX9_comes_55 : decode cX9_comes 55 = .ok (.getfield 16, 3) := by decide +kernel
theorem dX9_comes_58 : decode cX9_comes 58 = .ok (.iload_n 2, 1) := by decide +kernel
theorem dX9_comes_59 : decode cX9_comes 59 = .ok (.bipush 8, 2) := by decide +kernel
theorem dX9_comes_61 : decode cX9_comes 61 = .ok (.iadd, 1) := by decide +kernel
theorem dX9_comes_62 : decode cX9_comes 62 = .ok (.iload_n 3, 1) := by decide +kernel
theorem dX9_comes_63 : decode cX9_comes 63 = .ok (.iadd, 1) := by decide +kernel
theorem dX9_comes_64 : decode cX9_comes 64 = .ok (.aload_n 0, 1) := by decide +kernel
theorem dX9_comes_65 : decode cX9_comes 65 = .ok (.getfield 16, 3) := by decide +kernel
theorem dX9_comes_68 : decode cX9_comes 68 = .ok (.iload_n 2, 1) := by decide +kernel
theorem dX9_comes_69 : decode cX9_comes 69 = .ok (.bipush 8, 2) := by decide +kernel
theorem dX9_comes_71 : decode cX9_comes 71 = .ok (.iadd, 1) := by decide +kernel
theorem dX9_comes_72 : decode cX9_comes 72 = .ok (.iload_n 3, 1) := by decide +kernel
theorem dX9_comes_73 : decode cX9_comes 73 = .ok (.iadd, 1) := by decide +kernel
theorem dX9_comes_74 : decode cX9_comes 74 = .ok (.iconst 1, 1) := by decide +kernel
theorem dX9_comes_75 : decode cX9_comes 75 = .ok (.iadd, 1) := by decide +kernel
theorem dX9_comes_76 : decode cX9_comes 76 = .ok (.iaload, 1) := by decide +kernel
theorem dX9_comes_77 : decode cX9_comes 77 = .ok (.iastore, 1) := by decide +kernel
theorem dX9_comes_78 : decode cX9_comes 78 = .ok (.iinc 3 1, 3) := by decide +kernel
theorem dX9_comes_81 : decode cX9_comes 81 = .ok (.goto (-32), 3) := by decide +kernel
theorem dX9_comes_84 : decode cX9_comes 84 = .ok (.aload_n 0, 1) := by decide +kernel
theorem dX9_comes_85 : decode cX9_comes 85 = .ok (.getfield 16, 3) := by decide +kernel
theorem dX9_comes_88 : decode cX9_comes 88 = .ok (.iload_n 2, 1) := by decide +kernel
theorem dX9_comes_89 : decode cX9_comes 89 = .ok (.bipush 8, 2) := by decide +kernel
theorem dX9_comes_91 : decode cX9_comes 91 = .ok (.iadd, 1) := by decide +kernel
theorem dX9_comes_92 : decode cX9_comes 92 = .ok (.iconst 3, 1) := by decide +kernel
theorem dX9_comes_93 : decode cX9_comes 93 = .ok (.iadd, 1) := by decide +kernel
theorem dX9_comes_94 : decode cX9_comes 94 = .ok (.iconst 0, 1) := by decide +kernel
theorem dX9_comes_95 : decode cX9_comes 95 = .ok (.iastore, 1) := by decide +kernel
theorem dX9_comes_96 : decode cX9_comes 96 = .ok (.return_, 1) := by decide +kernel
theorem dX9_countOf_0 : decode cX9_countOf 0 = .ok (.iload_n 0, 1) := by decide +kernel
theorem dX9_countOf_1 : decode cX9_countOf 1 = .ok (.bipush 11, 2) := by decide +kernel
theorem dX9_countOf_3 : decode cX9_countOf 3 = .ok (.ishr, 1) := by decide +kernel
theorem dX9_countOf_4 : decode cX9_countOf 4 = .ok (.iconst 3, 1) := by decide +kernel
theorem dX9_countOf_5 : decode cX9_countOf 5 = .ok (.iand, 1) := by decide +kernel
theorem dX9_countOf_6 : decode cX9_countOf 6 = .ok (.ireturn, 1) := by decide +kernel
theorem dX9_endAt_0 : decode cX9_endAt 0 = .ok (.iload_n 1, 1) := by decide +kernel
theorem dX9_endAt_1 : decode cX9_endAt 1 = .ok (.istore_n 2, 1) := by decide +kernel
theorem dX9_endAt_2 : decode cX9_endAt 2 = .ok (.iconst 0, 1) := by decide +kernel
theorem dX9_endAt_3 : decode cX9_endAt 3 = .ok (.istore_n 3, 1) := by decide +kernel
theorem dX9_endAt_4 : decode cX9_endAt 4 = .ok (.iload_n 3, 1) := by decide +kernel
theorem dX9_endAt_5 : decode cX9_endAt 5 = .ok (.aload_n 0, 1) := by decide +kernel
theorem dX9_endAt_6 : decode cX9_endAt 6 = .ok (.getfield 328, 3) := by decide +kernel
theorem dX9_endAt_9 : decode cX9_endAt 9 = .ok (.if_icmp .ge 30, 3) := by decide +kernel
theorem dX9_endAt_12 : decode cX9_endAt 12 = .ok (.aload_n 0, 1) := by decide +kernel
theorem dX9_endAt_13 : decode cX9_endAt 13 = .ok (.getfield 54, 3) := by decide +kernel
theorem dX9_endAt_16 : decode cX9_endAt 16 = .ok (.iload_n 3, 1) := by decide +kernel
theorem dX9_endAt_17 : decode cX9_endAt 17 = .ok (.iaload, 1) := by decide +kernel
theorem dX9_endAt_18 : decode cX9_endAt 18 = .ok (.iconst 1, 1) := by decide +kernel
theorem dX9_endAt_19 : decode cX9_endAt 19 = .ok (.iand, 1) := by decide +kernel
theorem dX9_endAt_20 : decode cX9_endAt 20 = .ok (.iconst 1, 1) := by decide +kernel
theorem dX9_endAt_21 : decode cX9_endAt 21 = .ok (.if_icmp .ne 12, 3) := by decide +kernel
theorem dX9_endAt_24 : decode cX9_endAt 24 = .ok (.iload_n 2, 1) := by decide +kernel
theorem dX9_endAt_25 : decode cX9_endAt 25 = .ok (.ifCond .ne 5, 3) := by decide +kernel
theorem dX9_endAt_28 : decode cX9_endAt 28 = .ok (.iload_n 3, 1) := by decide +kernel
theorem dX9_endAt_29 : decode cX9_endAt 29 = .ok (.ireturn, 1) := by decide +kernel
theorem dX9_endAt_30 : decode cX9_endAt 30 = .ok (.iinc 2 (-1), 3) := by decide +kernel
theorem dX9_endAt_33 : decode cX9_endAt 33 = .ok (.iinc 3 1, 3) := by decide +kernel
theorem dX9_endAt_36 : decode cX9_endAt 36 = .ok (.goto (-32), 3) := by decide +kernel
theorem dX9_endAt_39 : decode cX9_endAt 39 = .ok (.bipush (-4), 2) := by decide +kernel
theorem dX9_endAt_41 : decode cX9_endAt 41 = .ok (.ireturn, 1) := by decide +kernel
theorem dX9_epoch_0 : decode cX9_epoch 0 = .ok (.aload_n 0, 1) := by decide +kernel
theorem dX9_epoch_1 : decode cX9_epoch 1 = .ok (.getfield 291, 3) := by decide +kernel
theorem dX9_epoch_4 : decode cX9_epoch 4 = .ok (.ifCond .eq 13, 3) := by decide +kernel
theorem dX9_epoch_7 : decode cX9_epoch 7 = .ok (.aload_n 0, 1) := by decide +kernel
theorem dX9_epoch_8 : decode cX9_epoch 8 = .ok (.getfield 25, 3) := by decide +kernel
theorem dX9_epoch_11 : decode cX9_epoch 11 = .ok (.bipush 26, 2) := by decide +kernel
theorem dX9_epoch_13 : decode cX9_epoch 13 = .ok (.iaload, 1) := by decide +kernel
theorem dX9_epoch_14 : decode cX9_epoch 14 = .ok (.goto 5, 3) := by decide +kernel
theorem dX9_epoch_17 : decode cX9_epoch 17 = .ok (.bipush (-2), 2) := by decide +kernel
theorem dX9_epoch_19 : decode cX9_epoch 19 = .ok (.ireturn, 1) := by decide +kernel
theorem dX9_epochMoves_0 : decode cX9_epochMoves 0 = .ok (.aload_n 0, 1) := by decide +kernel
theorem dX9_epochMoves_1 : decode cX9_epochMoves 1 = .ok (.getfield 13, 3) := by decide +kernel
theorem dX9_epochMoves_4 : decode cX9_epochMoves 4 = .ok (.sipush 948, 3) := by decide +kernel
theorem dX9_epochMoves_7 : decode cX9_epochMoves 7 = .ok (.iaload, 1) := by decide +kernel
theorem dX9_epochMoves_8 : decode cX9_epochMoves 8 = .ok (.iconst 4, 1) := by decide +kernel
theorem dX9_epochMoves_9 : decode cX9_epochMoves 9 = .ok (.if_icmp .eq 4, 3) := by decide +kernel
theorem dX9_epochMoves_12 : decode cX9_epochMoves 12 = .ok (.return_, 1) := by decide +kernel
theorem dX9_epochMoves_13 : decode cX9_epochMoves 13 = .ok (.iconst 0, 1) := by decide +kernel
theorem dX9_epochMoves_14 : decode cX9_epochMoves 14 = .ok (.istore_n 1, 1) := by decide +kernel
theorem dX9_epochMoves_15 : decode cX9_epochMoves 15 = .ok (.iconst 0, 1) := by decide +kernel
theorem dX9_epochMoves_16 : decode cX9_epochMoves 16 = .ok (.istore_n 2, 1) := by decide +kernel
theorem dX9_epochMoves_17 : decode cX9_epochMoves 17 = .ok (.iload_n 2, 1) := by decide +kernel
theorem dX9_epochMoves_18 : decode cX9_epochMoves 18 = .ok (.bipush 6, 2) := by decide +kernel
theorem dX9_epochMoves_20 : decode cX9_epochMoves 20 = .ok (.if_icmp .ge 32, 3) := by decide +kernel
theorem dX9_epochMoves_23 : decode cX9_epochMoves 23 = .ok (.iload_n 1, 1) := by decide +kernel
theorem dX9_epochMoves_24 : decode cX9_epochMoves 24 = .ok (.ifCond .ne 16, 3) := by decide +kernel
theorem dX9_epochMoves_27 : decode cX9_epochMoves 27 = .ok (.aload_n 0, 1) := by decide +kernel
theorem dX9_epochMoves_28 : decode cX9_epochMoves 28 = .ok (.getfield 16, 3) := by decide +kernel
theorem dX9_epochMoves_31 : decode cX9_epochMoves 31 = .ok (.bipush 20, 2) := by decide +kernel
theorem dX9_epochMoves_33 : decode cX9_epochMoves 33 = .ok (.iload_n 2, 1) := by decide +kernel
theorem dX9_epochMoves_34 : decode cX9_epochMoves 34 = .ok (.iadd, 1) := by decide +kernel
theorem dX9_epochMoves_35 : decode cX9_epochMoves 35 = .ok (.iaload, 1) := by decide +kernel
theorem dX9_epochMoves_36 : decode cX9_epochMoves 36 = .ok (.iconst 1, 1) := by decide +kernel
theorem dX9_epochMoves_37 : decode cX9_epochMoves 37 = .ok (.if_icmp .le 7, 3) := by decide +kernel
theorem dX9_epochMoves_40 : decode cX9_epochMoves 40 = .ok (.iconst 1, 1) := by decide +kernel
theorem dX9_epochMoves_41 : decode cX9_epochMoves 41 = .ok (.goto 4, 3) := by decide +kernel
theorem dX9_epochMoves_44 : decode cX9_epochMoves 44 = .ok (.iconst 0, 1) := by decide +kernel
theorem dX9_epochMoves_45 : decode cX9_epochMoves 45 = .ok (.istore_n 1, 1) := by decide +kernel
theorem dX9_epochMoves_46 : decode cX9_epochMoves 46 = .ok (.iinc 2 1, 3) := by decide +kernel
theorem dX9_epochMoves_49 : decode cX9_epochMoves 49 = .ok (.goto (-32), 3) := by decide +kernel
theorem dX9_epochMoves_52 : decode cX9_epochMoves 52 = .ok (.iconst 1, 1) := by decide +kernel
theorem dX9_epochMoves_53 : decode cX9_epochMoves 53 = .ok (.istore_n 2, 1) := by decide +kernel
theorem dX9_epochMoves_54 : decode cX9_epochMoves 54 = .ok (.iconst 0, 1) := by decide +kernel
theorem dX9_epochMoves_55 : decode cX9_epochMoves 55 = .ok (.istore_n 3, 1) := by decide +kernel
theorem dX9_epochMoves_56 : decode cX9_epochMoves 56 = .ok (.iload_n 3, 1) := by decide +kernel
theorem dX9_epochMoves_57 : decode cX9_epochMoves 57 = .ok (.iconst 3, 1) := by decide +kernel
theorem dX9_epochMoves_58 : decode cX9_epochMoves 58 = .ok (.if_icmp .ge 56, 3) := by decide +kernel
theorem dX9_epochMoves_61 : decode cX9_epochMoves 61 = .ok (.iload_n 2, 1) := by decide +kernel
theorem dX9_epochMoves_62 : decode cX9_epochMoves 62 = .ok (.ifCond .eq 44, 3) := by decide +kernel
theorem dX9_epochMoves_65 : decode cX9_epochMoves 65 = .ok (.aload_n 0, 1) := by decide +kernel
theorem dX9_epochMoves_66 : decode cX9_epochMoves 66 = .ok (.getfield 16, 3) := by decide +kernel
theorem dX9_epochMoves_69 : decode cX9_epochMoves 69 = .ok (.iload_n 3, 1) := by decide +kernel
theorem dX9_epochMoves_70 : decode cX9_epochMoves 70 = .ok (.invokestatic 122, 3) := by decide +kernel
theorem dX9_epochMoves_73 : decode cX9_epochMoves 73 = .ok (.iconst 4, 1) := by decide +kernel
theorem dX9_epochMoves_74 : decode cX9_epochMoves 74 = .ok (.iadd, 1) := by decide +kernel
theorem dX9_epochMoves_75 : decode cX9_epochMoves 75 = .ok (.iaload, 1) := by decide +kernel
theorem dX9_epochMoves_76 : decode cX9_epochMoves 76 = .ok (.ifCond .eq 26, 3) := by decide +kernel
theorem dX9_epochMoves_79 : decode cX9_epochMoves 79 = .ok (.aload_n 0, 1) := by decide +kernel
theorem dX9_epochMoves_80 : decode cX9_epochMoves 80 = .ok (.getfield 16, 3) := by decide +kernel
theorem dX9_epochMoves_83 : decode cX9_epochMoves 83 = .ok (.iload_n 3, 1) := by decide +kernel
theorem dX9_epochMoves_84 : decode cX9_epochMoves 84 = .ok (.invokestatic 122, 3) := by decide +kernel
theorem dX9_epochMoves_87 : decode cX9_epochMoves 87 = .ok (.iconst 4, 1) := by decide +kernel
theorem dX9_epochMoves_88 : decode cX9_epochMoves 88 = .ok (.iadd, 1) := by decide +kernel
theorem dX9_epochMoves_89 : decode cX9_epochMoves 89 = .ok (.iaload, 1) := by decide +kernel
theorem dX9_epochMoves_90 : decode cX9_epochMoves 90 = .ok (.aload_n 0, 1) := by decide +kernel
theorem dX9_epochMoves_91 : decode cX9_epochMoves 91 = .ok (.getfield 16, 3) := by decide +kernel
theorem dX9_epochMoves_94 : decode cX9_epochMoves 94 = .ok (.bipush 26, 2) := by decide +kernel
theorem dX9_epochMoves_96 : decode cX9_epochMoves 96 = .ok (.iaload, 1) := by decide +kernel
theorem dX9_epochMoves_97 : decode cX9_epochMoves 97 = .ok (.iconst 1, 1) := by decide +kernel
theorem dX9_epochMoves_98 : decode cX9_epochMoves 98 = .ok (.iadd, 1) := by decide +kernel
theorem dX9_epochMoves_99 : decode cX9_epochMoves 99 = .ok (.if_icmp .ne 7, 3) := by decide +kernel
theorem dX9_epochMoves_102 : decode cX9_epochMoves 102 = .ok (.iconst 1, 1) := by decide +kernel
theorem dX9_epochMoves_103 : decode cX9_epochMoves 103 = .ok (.goto 4, 3) := by decide +kernel
theorem dX9_epochMoves_106 : decode cX9_epochMoves 106 = .ok (.iconst 0, 1) := by decide +kernel
theorem dX9_epochMoves_107 : decode cX9_epochMoves 107 = .ok (.istore_n 2, 1) := by decide +kernel
theorem dX9_epochMoves_108 : decode cX9_epochMoves 108 = .ok (.iinc 3 1, 3) := by decide +kernel
theorem dX9_epochMoves_111 : decode cX9_epochMoves 111 = .ok (.goto (-55), 3) := by decide +kernel
theorem dX9_epochMoves_114 : decode cX9_epochMoves 114 = .ok (.iload_n 1, 1) := by decide +kernel
theorem dX9_epochMoves_115 : decode cX9_epochMoves 115 = .ok (.ifCond .eq 78, 3) := by decide +kernel
theorem dX9_epochMoves_118 : decode cX9_epochMoves 118 = .ok (.iload_n 2, 1) := by decide +kernel
theorem dX9_epochMoves_119 : decode cX9_epochMoves 119 = .ok (.ifCond .eq 74, 3) := by decide +kernel
theorem dX9_epochMoves_122 : decode cX9_epochMoves 122 = .ok (.aload_n 0, 1) := by decide +kernel
theorem dX9_epochMoves_123 : decode cX9_epochMoves 123 = .ok (.getfield 16, 3) := by decide +kernel
theorem dX9_epochMoves_126 : decode cX9_epochMoves 126 = .ok (.bipush 26, 2) := by decide +kernel
theorem dX9_epochMoves_128 : decode cX9_epochMoves 128 = .ok (.dup2, 1) := by decide +kernel
theorem dX9_epochMoves_129 : decode cX9_epochMoves 129 = .ok (.iaload, 1) := by decide +kernel
theorem dX9_epochMoves_130 : decode cX9_epochMoves 130 = .ok (.iconst 1, 1) := by decide +kernel
theorem dX9_epochMoves_131 : decode cX9_epochMoves 131 = .ok (.iadd, 1) := by decide +kernel
theorem dX9_epochMoves_132 : decode cX9_epochMoves 132 = .ok (.iastore, 1) := by decide +kernel
theorem dX9_epochMoves_133 : decode cX9_epochMoves 133 = .ok (.iconst 0, 1) := by decide +kernel
theorem dX9_epochMoves_134 : decode cX9_epochMoves 134 = .ok (.istore_n 3, 1) := by decide +kernel
theorem dX9_epochMoves_135 : decode cX9_epochMoves 135 = .ok (.iload_n 3, 1) := by decide +kernel
theorem dX9_epochMoves_136 : decode cX9_epochMoves 136 = .ok (.bipush 6, 2) := by decide +kernel
theorem dX9_epochMoves_138 : decode cX9_epochMoves 138 = .ok (.if_icmp .ge 55, 3) := by decide +kernel
theorem dX9_epochMoves_141 : decode cX9_epochMoves 141 = .ok (.aload_n 0, 1) := by decide +kernel
theorem dX9_epochMoves_142 : decode cX9_epochMoves 142 = .ok (.getfield 16, 3) := by decide +kernel
theorem dX9_epochMoves_145 : decode cX9_epochMoves 145 = .ok (.bipush 20, 2) := by decide +kernel
theorem dX9_epochMoves_147 : decode cX9_epochMoves 147 = .ok (.iload_n 3, 1) := by decide +kernel
theorem dX9_epochMoves_148 : decode cX9_epochMoves 148 = .ok (.iadd, 1) := by decide +kernel
theorem dX9_epochMoves_149 : decode cX9_epochMoves 149 = .ok (.iaload, 1) := by decide +kernel
theorem dX9_epochMoves_150 : decode cX9_epochMoves 150 = .ok (.iconst 1, 1) := by decide +kernel
theorem dX9_epochMoves_151 : decode cX9_epochMoves 151 = .ok (.if_icmp .le 36, 3) := by decide +kernel
theorem dX9_epochMoves_154 : decode cX9_epochMoves 154 = .ok (.aload_n 0, 1) := by decide +kernel
theorem dX9_epochMoves_155 : decode cX9_epochMoves 155 = .ok (.getfield 16, 3) := by decide +kernel
theorem dX9_epochMoves_158 : decode cX9_epochMoves 158 = .ok (.bipush 20, 2) := by decide +kernel
theorem dX9_epochMoves_160 : decode cX9_epochMoves 160 = .ok (.iload_n 3, 1) := by decide +kernel
theorem dX9_epochMoves_161 : decode cX9_epochMoves 161 = .ok (.iadd, 1) := by decide +kernel
theorem dX9_epochMoves_162 : decode cX9_epochMoves 162 = .ok (.iaload, 1) := by decide +kernel
theorem dX9_epochMoves_163 : decode cX9_epochMoves 163 = .ok (.iconst 2, 1) := by decide +kernel
theorem dX9_epochMoves_164 : decode cX9_epochMoves 164 = .ok (.isub, 1) := by decide +kernel
theorem dX9_epochMoves_165 : decode cX9_epochMoves 165 = .ok (.iconst 2, 1) := by decide +kernel
theorem dX9_epochMoves_166 : decode cX9_epochMoves 166 = .ok (.iadd, 1) := by decide +kernel
theorem dX9_epochMoves_167 : decode cX9_epochMoves 167 = .ok (.aload_n 0, 1) := by decide +kernel
theorem dX9_epochMoves_168 : decode cX9_epochMoves 168 = .ok (.getfield 16, 3) := by decide +kernel
theorem dX9_epochMoves_171 : decode cX9_epochMoves 171 = .ok (.bipush 26, 2) := by decide +kernel
theorem dX9_epochMoves_173 : decode cX9_epochMoves 173 = .ok (.iaload, 1) := by decide +kernel
theorem dX9_epochMoves_174 : decode cX9_epochMoves 174 = .ok (.if_icmp .gt 13, 3) := by decide +kernel
theorem dX9_epochMoves_177 : decode cX9_epochMoves 177 = .ok (.aload_n 0, 1) := by decide +kernel
theorem dX9_epochMoves_178 : decode cX9_epochMoves 178 = .ok (.getfield 16, 3) := by decide +kernel
theorem dX9_epochMoves_181 : decode cX9_epochMoves 181 = .ok (.bipush 20, 2) := by decide +kernel
theorem dX9_epochMoves_183 : decode cX9_epochMoves 183 = .ok (.iload_n 3, 1) := by decide +kernel
theorem dX9_epochMoves_184 : decode cX9_epochMoves 184 = .ok (.iadd, 1) := by decide +kernel
theorem dX9_epochMoves_185 : decode cX9_epochMoves 185 = .ok (.iconst 0, 1) := by decide +kernel
theorem dX9_epochMoves_186 : decode cX9_epochMoves 186 = .ok (.iastore, 1) := by decide +kernel
theorem dX9_epochMoves_187 : decode cX9_epochMoves 187 = .ok (.iinc 3 1, 3) := by decide +kernel
theorem dX9_epochMoves_190 : decode cX9_epochMoves 190 = .ok (.goto (-55), 3) := by decide +kernel
theorem dX9_epochMoves_193 : decode cX9_epochMoves 193 = .ok (.return_, 1) := by decide +kernel
theorem dX9_explore_0 : decode cX9_explore 0 = .ok (.aload_n 0, 1) := by decide +kernel
theorem dX9_explore_1 : decode cX9_explore 1 = .ok (.iconst 0, 1) := by decide +kernel
theorem dX9_explore_2 : decode cX9_explore 2 = .ok (.invokevirtual 285, 3) := by decide +kernel
theorem dX9_explore_5 : decode cX9_explore 5 = .ok (.aload_n 0, 1) := by decide +kernel
theorem dX9_explore_6 : decode cX9_explore 6 = .ok (.invokevirtual 271, 3) := by decide +kernel
theorem dX9_explore_9 : decode cX9_explore 9 = .ok (.ifCond .ne 6, 3) := by decide +kernel
theorem dX9_explore_12 : decode cX9_explore 12 = .ok (.bipush (-2), 2) := by decide +kernel
theorem dX9_explore_14 : decode cX9_explore 14 = .ok (.ireturn, 1) := by decide +kernel
theorem dX9_explore_15 : decode cX9_explore 15 = .ok (.aload_n 0, 1) := by decide +kernel
theorem dX9_explore_16 : decode cX9_explore 16 = .ok (.getfield 331, 3) := by decide +kernel
theorem dX9_explore_19 : decode cX9_explore 19 = .ok (.bipush 12, 2) := by decide +kernel
theorem dX9_explore_21 : decode cX9_explore 21 = .ok (.if_icmp .ne 6, 3) := by decide +kernel
theorem dX9_explore_24 : decode cX9_explore 24 = .ok (.bipush (-3), 2) := by decide +kernel
theorem dX9_explore_26 : decode cX9_explore 26 = .ok (.ireturn, 1) := by decide +kernel
theorem dX9_explore_27 : decode cX9_explore 27 = .ok (.aload_n 0, 1) := by decide +kernel
theorem dX9_explore_28 : decode cX9_explore 28 = .ok (.dup, 1) := by decide +kernel
theorem dX9_explore_29 : decode cX9_explore 29 = .ok (.getfield 331, 3) := by decide +kernel
theorem dX9_explore_32 : decode cX9_explore 32 = .ok (.iconst 1, 1) := by decide +kernel
theorem dX9_explore_33 : decode cX9_explore 33 = .ok (.iadd, 1) := by decide +kernel
theorem dX9_explore_34 : decode cX9_explore 34 = .ok (.putfield 331, 3) := by decide +kernel
theorem dX9_explore_37 : decode cX9_explore 37 = .ok (.aload_n 0, 1) := by decide +kernel
theorem dX9_explore_38 : decode cX9_explore 38 = .ok (.invokevirtual 288, 3) := by decide +kernel
theorem dX9_explore_41 : decode cX9_explore 41 = .ok (.istore_n 1, 1) := by decide +kernel
theorem dX9_explore_42 : decode cX9_explore 42 = .ok (.aload_n 0, 1) := by decide +kernel
theorem dX9_explore_43 : decode cX9_explore 43 = .ok (.iload_n 1, 1) := by decide +kernel
theorem dX9_explore_44 : decode cX9_explore 44 = .ok (.ifCond .ne 7, 3) := by decide +kernel
theorem dX9_explore_47 : decode cX9_explore 47 = .ok (.iconst 1, 1) := by decide +kernel
theorem dX9_explore_48 : decode cX9_explore 48 = .ok (.goto 4, 3) := by decide +kernel
theorem dX9_explore_51 : decode cX9_explore 51 = .ok (.iconst 0, 1) := by decide +kernel
theorem dX9_explore_52 : decode cX9_explore 52 = .ok (.putfield 334, 3) := by decide +kernel
theorem dX9_explore_55 : decode cX9_explore 55 = .ok (.iload_n 1, 1) := by decide +kernel
theorem dX9_explore_56 : decode cX9_explore 56 = .ok (.ifCond .le 8, 3) := by decide +kernel
theorem dX9_explore_59 : decode cX9_explore 59 = .ok (.bipush (-10), 2) := by decide +kernel
theorem dX9_explore_61 : decode cX9_explore 61 = .ok (.iload_n 1, 1) := by decide +kernel
theorem dX9_explore_62 : decode cX9_explore 62 = .ok (.isub, 1) := by decide +kernel
theorem dX9_explore_63 : decode cX9_explore 63 = .ok (.ireturn, 1) := by decide +kernel
theorem dX9_explore_64 : decode cX9_explore 64 = .ok (.aload_n 0, 1) := by decide +kernel
theorem dX9_explore_65 : decode cX9_explore 65 = .ok (.iconst 2, 1) := by decide +kernel
theorem dX9_explore_66 : decode cX9_explore 66 = .ok (.invokevirtual 294, 3) := by decide +kernel
theorem dX9_explore_69 : decode cX9_explore 69 = .ok (.iconst 0, 1) := by decide +kernel
theorem dX9_explore_70 : decode cX9_explore 70 = .ok (.istore_n 2, 1) := by decide +kernel
theorem dX9_explore_71 : decode cX9_explore 71 = .ok (.iload_n 2, 1) := by decide +kernel
theorem dX9_explore_72 : decode cX9_explore 72 = .ok (.sipush 2048, 3) := by decide +kernel
theorem dX9_explore_75 : decode cX9_explore 75 = .ok (.if_icmp .ge 16, 3) := by decide +kernel
theorem dX9_explore_78 : decode cX9_explore 78 = .ok (.aload_n 0, 1) := by decide +kernel
theorem dX9_explore_79 : decode cX9_explore 79 = .ok (.getfield 35, 3) := by decide +kernel
theorem dX9_explore_82 : decode cX9_explore 82 = .ok (.iload_n 2, 1) := by decide +kernel
theorem dX9_explore_83 : decode cX9_explore 83 = .ok (.iconst 0, 1) := by decide +kernel
theorem dX9_explore_84 : decode cX9_explore 84 = .ok (.iastore, 1) := by decide +kernel
theorem dX9_explore_85 : decode cX9_explore 85 = .ok (.iinc 2 1, 3) := by decide +kernel
theorem dX9_explore_88 : decode cX9_explore 88 = .ok (.goto (-17), 3) := by decide +kernel
theorem dX9_explore_91 : decode cX9_explore 91 = .ok (.aload_n 0, 1) := by decide +kernel
theorem dX9_explore_92 : decode cX9_explore 92 = .ok (.iconst 0, 1) := by decide +kernel
theorem dX9_explore_93 : decode cX9_explore 93 = .ok (.putfield 328, 3) := by decide +kernel
theorem dX9_explore_96 : decode cX9_explore 96 = .ok (.aload_n 0, 1) := by decide +kernel
theorem dX9_explore_97 : decode cX9_explore 97 = .ok (.iconst 0, 1) := by decide +kernel
theorem dX9_explore_98 : decode cX9_explore 98 = .ok (.putfield 337, 3) := by decide +kernel
theorem dX9_explore_101 : decode cX9_explore 101 = .ok (.aload_n 0, 1) := by decide +kernel
theorem dX9_explore_102 : decode cX9_explore 102 = .ok (.iconst 0, 1) := by decide +kernel
theorem dX9_explore_103 : decode cX9_explore 103 = .ok (.putfield 340, 3) := by decide +kernel
theorem dX9_explore_106 : decode cX9_explore 106 = .ok (.aload_n 0, 1) := by decide +kernel
theorem dX9_explore_107 : decode cX9_explore 107 = .ok (.aload_n 0, 1) := by decide +kernel
theorem dX9_explore_108 : decode cX9_explore 108 = .ok (.invokevirtual 343, 3) := by decide +kernel
theorem dX9_explore_111 : decode cX9_explore 111 = .ok (.iconst (-1), 1) := by decide +kernel
theorem dX9_explore_112 : decode cX9_explore 112 = .ok (.iconst 0, 1) := by decide +kernel
theorem dX9_explore_113 : decode cX9_explore 113 = .ok (.invokevirtual 346, 3) := by decide +kernel
theorem dX9_explore_116 : decode cX9_explore 116 = .ok (.iconst 0, 1) := by decide +kernel
theorem dX9_explore_117 : decode cX9_explore 117 = .ok (.istore_n 2, 1) := by decide +kernel
theorem dX9_explore_118 : decode cX9_explore 118 = .ok (.iload_n 2, 1) := by decide +kernel
theorem dX9_explore_119 : decode cX9_explore 119 = .ok (.aload_n 0, 1) := by decide +kernel
theorem dX9_explore_120 : decode cX9_explore 120 = .ok (.getfield 328, 3) := by decide +kernel
theorem dX9_explore_123 : decode cX9_explore 123 = .ok (.if_icmp .ge 29, 3) := by decide +kernel
theorem dX9_explore_126 : decode cX9_explore 126 = .ok (.iconst 0, 1) := by decide +kernel
theorem dX9_explore_127 : decode cX9_explore 127 = .ok (.istore_n 3, 1) := by decide +kernel
theorem dX9_explore_128 : decode cX9_explore 128 = .ok (.iload_n 3, 1) := by decide +kernel
theorem dX9_explore_129 : decode cX9_explore 129 = .ok (.bipush 6, 2) := by decide +kernel
theorem dX9_explore_131 : decode cX9_explore 131 = .ok (.if_icmp .ge 15, 3) := by decide +kernel
theorem dX9_explore_134 : decode cX9_explore 134 = .ok (.aload_n 0, 1) := by decide +kernel
theorem dX9_explore_135 : decode cX9_explore 135 = .ok (.iload_n 2, 1) := by decide +kernel
theorem dX9_explore_136 : decode cX9_explore 136 = .ok (.iload_n 3, 1) := by decide +kernel
theorem dX9_explore_137 : decode cX9_explore 137 = .ok (.invokevirtual 349, 3) := by decide +kernel
theorem dX9_explore_140 : decode cX9_explore 140 = .ok (.iinc 3 1, 3) := by decide +kernel
theorem dX9_explore_143 : decode cX9_explore 143 = .ok (.goto (-15), 3) := by decide +kernel
theorem dX9_explore_146 : decode cX9_explore 146 = .ok (.iinc 2 1, 3) := by decide +kernel
theorem dX9_explore_149 : decode cX9_explore 149 = .ok (.goto (-31), 3) := by decide +kernel
theorem dX9_explore_152 : decode cX9_explore 152 = .ok (.aload_n 0, 1) := by decide +kernel
theorem dX9_explore_153 : decode cX9_explore 153 = .ok (.getfield 340, 3) := by decide +kernel
theorem dX9_explore_156 : decode cX9_explore 156 = .ok (.ifCond .eq 8, 3) := by decide +kernel
theorem dX9_explore_159 : decode cX9_explore 159 = .ok (.bipush (-5), 2) := by decide +kernel
theorem dX9_explore_161 : decode cX9_explore 161 = .ok (.goto 7, 3) := by decide +kernel
theorem dX9_explore_164 : decode cX9_explore 164 = .ok (.aload_n 0, 1) := by decide +kernel
theorem dX9_explore_165 : decode cX9_explore 165 = .ok (.getfield 328, 3) := by decide +kernel
theorem dX9_explore_168 : decode cX9_explore 168 = .ok (.ireturn, 1) := by decide +kernel
theorem dX9_explored_0 : decode cX9_explored 0 = .ok (.iload_n 1, 1) := by decide +kernel
theorem dX9_explored_1 : decode cX9_explored 1 = .ok (.i2l, 1) := by decide +kernel
theorem dX9_explored_2 : decode cX9_explored 2 = .ok (.lconst 0, 1) := by decide +kernel
theorem dX9_explored_3 : decode cX9_explored 3 = .ok (.ldc2_w 78, 3) := by decide +kernel
theorem dX9_explored_6 : decode cX9_explored 6 = .ok (.invokestatic 68, 3) := by decide +kernel
theorem dX9_explored_9 : decode cX9_explored 9 = .ok (.ifCond .ne 5, 3) := by decide +kernel
theorem dX9_explored_12 : decode cX9_explored 12 = .ok (.iconst (-1), 1) := by decide +kernel
theorem dX9_explored_13 : decode cX9_explored 13 = .ok (.ireturn, 1) := by decide +kernel
theorem dX9_explored_14 : decode cX9_explored 14 = .ok (.aload_n 0, 1) := by decide +kernel
theorem dX9_explored_15 : decode cX9_explored 15 = .ok (.getfield 334, 3) := by decide +kernel
theorem dX9_explored_18 : decode cX9_explored 18 = .ok (.ifCond .ne 6, 3) := by decide +kernel
theorem dX9_explored_21 : decode cX9_explored 21 = .ok (.bipush (-2), 2) := by decide +kernel
theorem dX9_explored_23 : decode cX9_explored 23 = .ok (.ireturn, 1) := by decide +kernel
theorem dX9_explored_24 : decode cX9_explored 24 = .ok (.iload_n 1, 1) := by decide +kernel
theorem dX9_explored_25 : decode cX9_explored 25 = .ok (.tableswitch 103 0 6 #[43, 48, 55, 62, 84, 89, 98], 43) := by decide +kernel
theorem dX9_explored_68 : decode cX9_explored 68 = .ok (.aload_n 0, 1) := by decide +kernel
theorem dX9_explored_69 : decode cX9_explored 69 = .ok (.getfield 328, 3) := by decide +kernel
theorem dX9_explored_72 : decode cX9_explored 72 = .ok (.ireturn, 1) := by decide +kernel
theorem dX9_explored_73 : decode cX9_explored 73 = .ok (.aload_n 0, 1) := by decide +kernel
theorem dX9_explored_74 : decode cX9_explored 74 = .ok (.iconst 1, 1) := by decide +kernel
theorem dX9_explored_75 : decode cX9_explored 75 = .ok (.iconst 1, 1) := by decide +kernel
theorem dX9_explored_76 : decode cX9_explored 76 = .ok (.invokevirtual 358, 3) := by decide +kernel
theorem dX9_explored_79 : decode cX9_explored 79 = .ok (.ireturn, 1) := by decide +kernel
theorem dX9_explored_80 : decode cX9_explored 80 = .ok (.aload_n 0, 1) := by decide +kernel
theorem dX9_explored_81 : decode cX9_explored 81 = .ok (.iconst 3, 1) := by decide +kernel
theorem dX9_explored_82 : decode cX9_explored 82 = .ok (.iconst 1, 1) := by decide +kernel
theorem dX9_explored_83 : decode cX9_explored 83 = .ok (.invokevirtual 358, 3) := by decide +kernel
theorem dX9_explored_86 : decode cX9_explored 86 = .ok (.ireturn, 1) := by decide +kernel
theorem dX9_explored_87 : decode cX9_explored 87 = .ok (.aload_n 0, 1) := by decide +kernel
theorem dX9_explored_88 : decode cX9_explored 88 = .ok (.getfield 7, 3) := by decide +kernel
theorem dX9_explored_91 : decode cX9_explored 91 = .ok (.sipush 2870, 3) := by decide +kernel
theorem dX9_explored_94 : decode cX9_explored 94 = .ok (.iaload, 1) := by decide +kernel
theorem dX9_explored_95 : decode cX9_explored 95 = .ok (.ifCond .ne 7, 3) := by decide +kernel
theorem dX9_explored_98 : decode cX9_explored 98 = .ok (.iconst 0, 1) := by decide +kernel
theorem dX9_explored_99 : decode cX9_explored 99 = .ok (.goto 9, 3) := by decide +kernel
theorem dX9_explored_102 : decode cX9_explored 102 = .ok (.aload_n 0, 1) := by decide +kernel
theorem dX9_explored_103 : decode cX9_explored 103 = .ok (.iconst 5, 1) := by decide +kernel
theorem dX9_explored_104 : decode cX9_explored 104 = .ok (.iconst 1, 1) := by decide +kernel
theorem dX9_explored_105 : decode cX9_explored 105 = .ok (.invokevirtual 358, 3) := by decide +kernel
theorem dX9_explored_108 : decode cX9_explored 108 = .ok (.ireturn, 1) := by decide +kernel
theorem dX9_explored_109 : decode cX9_explored 109 = .ok (.aload_n 0, 1) := by decide +kernel
theorem dX9_explored_110 : decode cX9_explored 110 = .ok (.getfield 337, 3) := by decide +kernel
theorem dX9_explored_113 : decode cX9_explored 113 = .ok (.ireturn, 1) := by decide +kernel
theorem dX9_explored_114 : decode cX9_explored 114 = .ok (.aload_n 0, 1) := by decide +kernel
theorem dX9_explored_115 : decode cX9_explored 115 = .ok (.bipush 8, 2) := by decide +kernel
theorem dX9_explored_117 : decode cX9_explored 117 = .ok (.bipush 8, 2) := by decide +kernel
theorem dX9_explored_119 : decode cX9_explored 119 = .ok (.invokevirtual 358, 3) := by decide +kernel
theorem dX9_explored_122 : decode cX9_explored 122 = .ok (.ireturn, 1) := by decide +kernel
theorem dX9_explored_123 : decode cX9_explored 123 = .ok (.aload_n 0, 1) := by decide +kernel
theorem dX9_explored_124 : decode cX9_explored 124 = .ok (.invokevirtual 361, 3) := by decide +kernel
theorem dX9_explored_127 : decode cX9_explored 127 = .ok (.ireturn, 1) := by decide +kernel
theorem dX9_explored_128 : decode cX9_explored 128 = .ok (.aload_n 0, 1) := by decide +kernel
theorem dX9_explored_129 : decode cX9_explored 129 = .ok (.getfield 340, 3) := by decide +kernel
theorem dX9_explored_132 : decode cX9_explored 132 = .ok (.ifCond .eq 7, 3) := by decide +kernel
theorem dX9_explored_135 : decode cX9_explored 135 = .ok (.iconst 1, 1) := by decide +kernel
theorem dX9_explored_136 : decode cX9_explored 136 = .ok (.goto 4, 3) := by decide +kernel
theorem dX9_explored_139 : decode cX9_explored 139 = .ok (.iconst 0, 1) := by decide +kernel
theorem dX9_explored_140 : decode cX9_explored 140 = .ok (.ireturn, 1) := by decide +kernel
theorem dX9_field_0 : decode cX9_field 0 = .ok (.bipush 8, 2) := by decide +kernel
theorem dX9_field_2 : decode cX9_field 2 = .ok (.iconst 2, 1) := by decide +kernel
theorem dX9_field_3 : decode cX9_field 3 = .ok (.aload_n 0, 1) := by decide +kernel
theorem dX9_field_4 : decode cX9_field 4 = .ok (.iload_n 1, 1) := by decide +kernel
theorem dX9_field_5 : decode cX9_field 5 = .ok (.iload_n 2, 1) := by decide +kernel
theorem dX9_field_6 : decode cX9_field 6 = .ok (.invokevirtual 167, 3) := by decide +kernel
theorem dX9_field_9 : decode cX9_field 9 = .ok (.invokestatic 183, 3) := by decide +kernel
theorem dX9_field_12 : decode cX9_field 12 = .ok (.imul, 1) := by decide +kernel
theorem dX9_field_13 : decode cX9_field 13 = .ok (.iadd, 1) := by decide +kernel
theorem dX9_field_14 : decode cX9_field 14 = .ok (.iload_n 3, 1) := by decide +kernel
theorem dX9_field_15 : decode cX9_field 15 = .ok (.iadd, 1) := by decide +kernel
theorem dX9_field_16 : decode cX9_field 16 = .ok (.ireturn, 1) := by decide +kernel
theorem dX9_finds_0 : decode cX9_finds 0 = .ok (.aload_n 0, 1) := by decide +kernel
theorem dX9_finds_1 : decode cX9_finds 1 = .ok (.getfield 16, 3) := by decide +kernel
theorem dX9_finds_4 : decode cX9_finds 4 = .ok (.iload_n 1, 1) := by decide +kernel
theorem dX9_finds_5 : decode cX9_finds 5 = .ok (.invokestatic 122, 3) := by decide +kernel
theorem dX9_finds_8 : decode cX9_finds 8 = .ok (.iconst 3, 1) := by decide +kernel
theorem dX9_finds_9 : decode cX9_finds 9 = .ok (.iadd, 1) := by decide +kernel
theorem dX9_finds_10 : decode cX9_finds 10 = .ok (.iload_n 2, 1) := by decide +kernel
theorem dX9_finds_11 : decode cX9_finds 11 = .ok (.iastore, 1) := by decide +kernel
theorem dX9_finds_12 : decode cX9_finds 12 = .ok (.return_, 1) := by decide +kernel
theorem dX9_first_0 : decode cX9_first 0 = .ok (.iload_n 1, 1) := by decide +kernel
theorem dX9_first_1 : decode cX9_first 1 = .ok (.ifCond .ge 5, 3) := by decide +kernel
theorem dX9_first_4 : decode cX9_first 4 = .ok (.iconst (-1), 1) := by decide +kernel
theorem dX9_first_5 : decode cX9_first 5 = .ok (.ireturn, 1) := by decide +kernel
theorem dX9_first_6 : decode cX9_first 6 = .ok (.aload_n 0, 1) := by decide +kernel
theorem dX9_first_7 : decode cX9_first 7 = .ok (.getfield 334, 3) := by decide +kernel
theorem dX9_first_10 : decode cX9_first 10 = .ok (.ifCond .ne 6, 3) := by decide +kernel
theorem dX9_first_13 : decode cX9_first 13 = .ok (.bipush (-2), 2) := by decide +kernel
theorem dX9_first_15 : decode cX9_first 15 = .ok (.ireturn, 1) := by decide +kernel
theorem dX9_first_16 : decode cX9_first 16 = .ok (.iload_n 1, 1) := by decide +kernel
theorem dX9_first_17 : decode cX9_first 17 = .ok (.tableswitch 113 0 5 #[39, 46, 69, 78, 83, 88], 39) := by decide +kernel
theorem dX9_first_56 : decode cX9_first 56 = .ok (.aload_n 0, 1) := by decide +kernel
theorem dX9_first_57 : decode cX9_first 57 = .ok (.iconst 3, 1) := by decide +kernel
theorem dX9_first_58 : decode cX9_first 58 = .ok (.iconst 1, 1) := by decide +kernel
theorem dX9_first_59 : decode cX9_first 59 = .ok (.invokevirtual 370, 3) := by decide +kernel
theorem dX9_first_62 : decode cX9_first 62 = .ok (.ireturn, 1) := by decide +kernel
theorem dX9_first_63 : decode cX9_first 63 = .ok (.aload_n 0, 1) := by decide +kernel
theorem dX9_first_64 : decode cX9_first 64 = .ok (.getfield 7, 3) := by decide +kernel
theorem dX9_first_67 : decode cX9_first 67 = .ok (.sipush 2870, 3) := by decide +kernel
theorem dX9_first_70 : decode cX9_first 70 = .ok (.iaload, 1) := by decide +kernel
theorem dX9_first_71 : decode cX9_first 71 = .ok (.ifCond .ne 8, 3) := by decide +kernel
theorem dX9_first_74 : decode cX9_first 74 = .ok (.bipush (-4), 2) := by decide +kernel
theorem dX9_first_76 : decode cX9_first 76 = .ok (.goto 9, 3) := by decide +kernel
theorem dX9_first_79 : decode cX9_first 79 = .ok (.aload_n 0, 1) := by decide +kernel
theorem dX9_first_80 : decode cX9_first 80 = .ok (.iconst 5, 1) := by decide +kernel
theorem dX9_first_81 : decode cX9_first 81 = .ok (.iconst 1, 1) := by decide +kernel
theorem dX9_first_82 : decode cX9_first 82 = .ok (.invokevirtual 370, 3) := by decide +kernel
theorem dX9_first_85 : decode cX9_first 85 = .ok (.ireturn, 1) := by decide +kernel
theorem dX9_first_86 : decode cX9_first 86 = .ok (.aload_n 0, 1) := by decide +kernel
theorem dX9_first_87 : decode cX9_first 87 = .ok (.bipush 8, 2) := by decide +kernel
theorem dX9_first_89 : decode cX9_first 89 = .ok (.bipush 8, 2) := by decide +kernel
theorem dX9_first_91 : decode cX9_first 91 = .ok (.invokevirtual 370, 3) := by decide +kernel
theorem dX9_first_94 : decode cX9_first 94 = .ok (.ireturn, 1) := by decide +kernel
theorem dX9_first_95 : decode cX9_first 95 = .ok (.aload_n 0, 1) := by decide +kernel
theorem dX9_first_96 : decode cX9_first 96 = .ok (.invokevirtual 373, 3) := by decide +kernel
theorem dX9_first_99 : decode cX9_first 99 = .ok (.ireturn, 1) := by decide +kernel
theorem dX9_first_100 : decode cX9_first 100 = .ok (.aload_n 0, 1) := by decide +kernel
theorem dX9_first_101 : decode cX9_first 101 = .ok (.invokevirtual 376, 3) := by decide +kernel
theorem dX9_first_104 : decode cX9_first 104 = .ok (.ireturn, 1) := by decide +kernel
theorem dX9_first_105 : decode cX9_first 105 = .ok (.aload_n 0, 1) := by decide +kernel
theorem dX9_first_106 : decode cX9_first 106 = .ok (.invokevirtual 361, 3) := by decide +kernel
theorem dX9_first_109 : decode cX9_first 109 = .ok (.istore_n 2, 1) := by decide +kernel
theorem dX9_first_110 : decode cX9_first 110 = .ok (.iconst 0, 1) := by decide +kernel
theorem dX9_first_111 : decode cX9_first 111 = .ok (.istore_n 3, 1) := by decide +kernel
theorem dX9_first_112 : decode cX9_first 112 = .ok (.aload_n 0, 1) := by decide +kernel
theorem dX9_first_113 : decode cX9_first 113 = .ok (.getfield 57, 3) := by decide +kernel
theorem dX9_first_116 : decode cX9_first 116 = .ok (.iload_n 3, 1) := by decide +kernel
theorem dX9_first_117 : decode cX9_first 117 = .ok (.iaload, 1) := by decide +kernel
theorem dX9_first_118 : decode cX9_first 118 = .ok (.iload_n 2, 1) := by decide +kernel
theorem dX9_first_119 : decode cX9_first 119 = .ok (.if_icmp .eq 9, 3) := by decide +kernel
theorem dX9_first_122 : decode cX9_first 122 = .ok (.iinc 3 1, 3) := by decide +kernel
theorem dX9_first_125 : decode cX9_first 125 = .ok (.goto (-13), 3) := by decide +kernel
theorem dX9_first_128 : decode cX9_first 128 = .ok (.iload_n 3, 1) := by decide +kernel
theorem dX9_first_129 : decode cX9_first 129 = .ok (.ireturn, 1) := by decide +kernel
theorem dX9_first_130 : decode cX9_first 130 = .ok (.aload_n 0, 1) := by decide +kernel
theorem dX9_first_131 : decode cX9_first 131 = .ok (.iload_n 1, 1) := by decide +kernel
theorem dX9_first_132 : decode cX9_first 132 = .ok (.bipush 6, 2) := by decide +kernel
theorem dX9_first_134 : decode cX9_first 134 = .ok (.isub, 1) := by decide +kernel
theorem dX9_first_135 : decode cX9_first 135 = .ok (.invokevirtual 379, 3) := by decide +kernel
theorem dX9_first_138 : decode cX9_first 138 = .ok (.ireturn, 1) := by decide +kernel
theorem dX9_firstInRing_0 : decode cX9_firstInRing 0 = .ok (.iconst 0, 1) := by decide +kernel
theorem dX9_firstInRing_1 : decode cX9_firstInRing 1 = .ok (.istore_n 1, 1) := by decide +kernel
theorem dX9_firstInRing_2 : decode cX9_firstInRing 2 = .ok (.iload_n 1, 1) := by decide +kernel
theorem dX9_firstInRing_3 : decode cX9_firstInRing 3 = .ok (.aload_n 0, 1) := by decide +kernel
theorem dX9_firstInRing_4 : decode cX9_firstInRing 4 = .ok (.getfield 328, 3) := by decide +kernel
theorem dX9_firstInRing_7 : decode cX9_firstInRing 7 = .ok (.if_icmp .ge 19, 3) := by decide +kernel
theorem dX9_firstInRing_10 : decode cX9_firstInRing 10 = .ok (.aload_n 0, 1) := by decide +kernel
theorem dX9_firstInRing_11 : decode cX9_firstInRing 11 = .ok (.iload_n 1, 1) := by decide +kernel
theorem dX9_firstInRing_12 : decode cX9_firstInRing 12 = .ok (.invokevirtual 367, 3) := by decide +kernel
theorem dX9_firstInRing_15 : decode cX9_firstInRing 15 = .ok (.ifCond .eq 5, 3) := by decide +kernel
theorem dX9_firstInRing_18 : decode cX9_firstInRing 18 = .ok (.iload_n 1, 1) := by decide +kernel
theorem dX9_firstInRing_19 : decode cX9_firstInRing 19 = .ok (.ireturn, 1) := by decide +kernel
theorem dX9_firstInRing_20 : decode cX9_firstInRing 20 = .ok (.iinc 1 1, 3) := by decide +kernel
theorem dX9_firstInRing_23 : decode cX9_firstInRing 23 = .ok (.goto (-21), 3) := by decide +kernel
theorem dX9_firstInRing_26 : decode cX9_firstInRing 26 = .ok (.bipush (-4), 2) := by decide +kernel
theorem dX9_firstInRing_28 : decode cX9_firstInRing 28 = .ok (.ireturn, 1) := by decide +kernel
theorem dX9_firstMarked_0 : decode cX9_firstMarked 0 = .ok (.iconst 0, 1) := by decide +kernel
theorem dX9_firstMarked_1 : decode cX9_firstMarked 1 = .ok (.istore_n 3, 1) := by decide +kernel
theorem dX9_firstMarked_2 : decode cX9_firstMarked 2 = .ok (.iload_n 3, 1) := by decide +kernel
theorem dX9_firstMarked_3 : decode cX9_firstMarked 3 = .ok (.aload_n 0, 1) := by decide +kernel
theorem dX9_firstMarked_4 : decode cX9_firstMarked 4 = .ok (.getfield 328, 3) := by decide +kernel
theorem dX9_firstMarked_7 : decode cX9_firstMarked 7 = .ok (.if_icmp .ge 23, 3) := by decide +kernel
theorem dX9_firstMarked_10 : decode cX9_firstMarked 10 = .ok (.aload_n 0, 1) := by decide +kernel
theorem dX9_firstMarked_11 : decode cX9_firstMarked 11 = .ok (.getfield 54, 3) := by decide +kernel
theorem dX9_firstMarked_14 : decode cX9_firstMarked 14 = .ok (.iload_n 3, 1) := by decide +kernel
theorem dX9_firstMarked_15 : decode cX9_firstMarked 15 = .ok (.iaload, 1) := by decide +kernel
theorem dX9_firstMarked_16 : decode cX9_firstMarked 16 = .ok (.iload_n 1, 1) := by decide +kernel
theorem dX9_firstMarked_17 : decode cX9_firstMarked 17 = .ok (.iand, 1) := by decide +kernel
theorem dX9_firstMarked_18 : decode cX9_firstMarked 18 = .ok (.iload_n 2, 1) := by decide +kernel
theorem dX9_firstMarked_19 : decode cX9_firstMarked 19 = .ok (.if_icmp .ne 5, 3) := by decide +kernel
theorem dX9_firstMarked_22 : decode cX9_firstMarked 22 = .ok (.iload_n 3, 1) := by decide +kernel
theorem dX9_firstMarked_23 : decode cX9_firstMarked 23 = .ok (.ireturn, 1) := by decide +kernel
theorem dX9_firstMarked_24 : decode cX9_firstMarked 24 = .ok (.iinc 3 1, 3) := by decide +kernel
theorem dX9_firstMarked_27 : decode cX9_firstMarked 27 = .ok (.goto (-25), 3) := by decide +kernel
theorem dX9_firstMarked_30 : decode cX9_firstMarked 30 = .ok (.bipush (-4), 2) := by decide +kernel
theorem dX9_firstMarked_32 : decode cX9_firstMarked 32 = .ok (.ireturn, 1) := by decide +kernel
theorem dX9_firstNotAlone_0 : decode cX9_firstNotAlone 0 = .ok (.aload_n 0, 1) := by decide +kernel
theorem dX9_firstNotAlone_1 : decode cX9_firstNotAlone 1 = .ok (.iconst 2, 1) := by decide +kernel
theorem dX9_firstNotAlone_2 : decode cX9_firstNotAlone 2 = .ok (.invokevirtual 285, 3) := by decide +kernel
theorem dX9_firstNotAlone_5 : decode cX9_firstNotAlone 5 = .ok (.iconst 0, 1) := by decide +kernel
theorem dX9_firstNotAlone_6 : decode cX9_firstNotAlone 6 = .ok (.istore_n 1, 1) := by decide +kernel
theorem dX9_firstNotAlone_7 : decode cX9_firstNotAlone 7 = .ok (.iload_n 1, 1) := by decide +kernel
theorem dX9_firstNotAlone_8 : decode cX9_firstNotAlone 8 = .ok (.aload_n 0, 1) := by decide +kernel
theorem dX9_firstNotAlone_9 : decode cX9_firstNotAlone 9 = .ok (.getfield 328, 3) := by decide +kernel
theorem dX9_firstNotAlone_12 : decode cX9_firstNotAlone 12 = .ok (.if_icmp .ge 38, 3) := by decide +kernel
theorem dX9_firstNotAlone_15 : decode cX9_firstNotAlone 15 = .ok (.aload_n 0, 1) := by decide +kernel
theorem dX9_firstNotAlone_16 : decode cX9_firstNotAlone 16 = .ok (.iload_n 1, 1) := by decide +kernel
theorem dX9_firstNotAlone_17 : decode cX9_firstNotAlone 17 = .ok (.iconst 0, 1) := by decide +kernel
theorem dX9_firstNotAlone_18 : decode cX9_firstNotAlone 18 = .ok (.invokevirtual 364, 3) := by decide +kernel
theorem dX9_firstNotAlone_21 : decode cX9_firstNotAlone 21 = .ok (.ifCond .eq 21, 3) := by decide +kernel
theorem dX9_firstNotAlone_24 : decode cX9_firstNotAlone 24 = .ok (.aload_n 0, 1) := by decide +kernel
theorem dX9_firstNotAlone_25 : decode cX9_firstNotAlone 25 = .ok (.iload_n 1, 1) := by decide +kernel
theorem dX9_firstNotAlone_26 : decode cX9_firstNotAlone 26 = .ok (.iconst 1, 1) := by decide +kernel
theorem dX9_firstNotAlone_27 : decode cX9_firstNotAlone 27 = .ok (.invokevirtual 364, 3) := by decide +kernel
theorem dX9_firstNotAlone_30 : decode cX9_firstNotAlone 30 = .ok (.ifCond .eq 12, 3) := by decide +kernel
theorem dX9_firstNotAlone_33 : decode cX9_firstNotAlone 33 = .ok (.aload_n 0, 1) := by decide +kernel
theorem dX9_firstNotAlone_34 : decode cX9_firstNotAlone 34 = .ok (.iload_n 1, 1) := by decide +kernel
theorem dX9_firstNotAlone_35 : decode cX9_firstNotAlone 35 = .ok (.iconst 2, 1) := by decide +kernel
theorem dX9_firstNotAlone_36 : decode cX9_firstNotAlone 36 = .ok (.invokevirtual 364, 3) := by decide +kernel
theorem dX9_firstNotAlone_39 : decode cX9_firstNotAlone 39 = .ok (.ifCond .ne 5, 3) := by decide +kernel
theorem dX9_firstNotAlone_42 : decode cX9_firstNotAlone 42 = .ok (.iload_n 1, 1) := by decide +kernel
theorem dX9_firstNotAlone_43 : decode cX9_firstNotAlone 43 = .ok (.ireturn, 1) := by decide +kernel
theorem dX9_firstNotAlone_44 : decode cX9_firstNotAlone 44 = .ok (.iinc 1 1, 3) := by decide +kernel
theorem dX9_firstNotAlone_47 : decode cX9_firstNotAlone 47 = .ok (.goto (-40), 3) := by decide +kernel
theorem dX9_firstNotAlone_50 : decode cX9_firstNotAlone 50 = .ok (.bipush (-4), 2) := by decide +kernel
theorem dX9_firstNotAlone_52 : decode cX9_firstNotAlone 52 = .ok (.ireturn, 1) := by decide +kernel
theorem dX9_fits_0 : decode cX9_fits 0 = .ok (.aload_n 0, 1) := by decide +kernel
theorem dX9_fits_1 : decode cX9_fits 1 = .ok (.iconst 0, 1) := by decide +kernel
theorem dX9_fits_2 : decode cX9_fits 2 = .ok (.putfield 249, 3) := by decide +kernel
theorem dX9_fits_5 : decode cX9_fits 5 = .ok (.aload_n 0, 1) := by decide +kernel
theorem dX9_fits_6 : decode cX9_fits 6 = .ok (.iconst 0, 1) := by decide +kernel
theorem dX9_fits_7 : decode cX9_fits 7 = .ok (.putfield 258, 3) := by decide +kernel
theorem dX9_fits_10 : decode cX9_fits 10 = .ok (.aload_n 0, 1) := by decide +kernel
theorem dX9_fits_11 : decode cX9_fits 11 = .ok (.iconst 0, 1) := by decide +kernel
theorem dX9_fits_12 : decode cX9_fits 12 = .ok (.putfield 252, 3) := by decide +kernel
theorem dX9_fits_15 : decode cX9_fits 15 = .ok (.iconst 0, 1) := by decide +kernel
theorem dX9_fits_16 : decode cX9_fits 16 = .ok (.istore_n 2, 1) := by decide +kernel
theorem dX9_fits_17 : decode cX9_fits 17 = .ok (.iload_n 2, 1) := by decide +kernel
theorem dX9_fits_18 : decode cX9_fits 18 = .ok (.aload_n 0, 1) := by decide +kernel
theorem dX9_fits_19 : decode cX9_fits 19 = .ok (.getfield 13, 3) := by decide +kernel
theorem dX9_fits_22 : decode cX9_fits 22 = .ok (.sipush 915, 3) := by decide +kernel
theorem dX9_fits_25 : decode cX9_fits 25 = .ok (.iaload, 1) := by decide +kernel
theorem dX9_fits_26 : decode cX9_fits 26 = .ok (.if_icmp .ge 36, 3) := by decide +kernel
theorem dX9_fits_29 : decode cX9_fits 29 = .ok (.aload_n 0, 1) := by decide +kernel
theorem dX9_fits_30 : decode cX9_fits 30 = .ok (.aload_n 0, 1) := by decide +kernel
theorem dX9_fits_31 : decode cX9_fits 31 = .ok (.getfield 13, 3) := by decide +kernel
theorem dX9_fits_34 : decode cX9_fits 34 = .ok (.sipush 928, 3) := by decide +kernel
theorem dX9_fits_37 : decode cX9_fits 37 = .ok (.iload_n 2, 1) := by decide +kernel
theorem dX9_fits_38 : decode cX9_fits 38 = .ok (.iadd, 1) := by decide +kernel
theorem dX9_fits_39 : decode cX9_fits 39 = .ok (.iaload, 1) := by decide +kernel
theorem dX9_fits_40 : decode cX9_fits 40 = .ok (.aload_n 0, 1) := by decide +kernel
theorem dX9_fits_41 : decode cX9_fits 41 = .ok (.getfield 13, 3) := by decide +kernel
theorem dX9_fits_44 : decode cX9_fits 44 = .ok (.sipush 944, 3) := by decide +kernel
theorem dX9_fits_47 : decode cX9_fits 47 = .ok (.iload_n 2, 1) := by decide +kernel
theorem dX9_fits_48 : decode cX9_fits 48 = .ok (.iadd, 1) := by decide +kernel
theorem dX9_fits_49 : decode cX9_fits 49 = .ok (.iaload, 1) := by decide +kernel
theorem dX9_fits_50 : decode cX9_fits 50 = .ok (.iconst 0, 1) := by decide +kernel
theorem dX9_fits_51 : decode cX9_fits 51 = .ok (.iconst 0, 1) := by decide +kernel
theorem dX9_fits_52 : decode cX9_fits 52 = .ok (.invokevirtual 261, 3) := by decide +kernel
theorem dX9_fits_55 : decode cX9_fits 55 = .ok (.istore_n 3, 1) := by decide +kernel
theorem dX9_fits_56 : decode cX9_fits 56 = .ok (.iinc 2 1, 3) := by decide +kernel
theorem dX9_fits_59 : decode cX9_fits 59 = .ok (.goto (-42), 3) := by decide +kernel
theorem dX9_fits_62 : decode cX9_fits 62 = .ok (.iconst 1, 1) := by decide +kernel
theorem dX9_fits_63 : decode cX9_fits 63 = .ok (.istore_n 2, 1) := by decide +kernel
theorem dX9_fits_64 : decode cX9_fits 64 = .ok (.iconst 0, 1) := by decide +kernel
theorem dX9_fits_65 : decode cX9_fits 65 = .ok (.istore_n 3, 1) := by decide +kernel
theorem dX9_fits_66 : decode cX9_fits 66 = .ok (.iload_n 3, 1) := by decide +kernel
theorem dX9_fits_67 : decode cX9_fits 67 = .ok (.iload_n 1, 1) := by decide +kernel
theorem dX9_fits_68 : decode cX9_fits 68 = .ok (.if_icmp .ge 93, 3) := by decide +kernel
theorem dX9_fits_71 : decode cX9_fits 71 = .ok (.iload_n 2, 1) := by decide +kernel
theorem dX9_fits_72 : decode cX9_fits 72 = .ok (.ifCond .eq 89, 3) := by decide +kernel
theorem dX9_fits_75 : decode cX9_fits 75 = .ok (.aload_n 0, 1) := by decide +kernel
theorem dX9_fits_76 : decode cX9_fits 76 = .ok (.getfield 22, 3) := by decide +kernel
theorem dX9_fits_79 : decode cX9_fits 79 = .ok (.iload_n 3, 1) := by decide +kernel
theorem dX9_fits_80 : decode cX9_fits 80 = .ok (.iaload, 1) := by decide +kernel
theorem dX9_fits_81 : decode cX9_fits 81 = .ok (.iconst 3, 1) := by decide +kernel
theorem dX9_fits_82 : decode cX9_fits 82 = .ok (.idiv, 1) := by decide +kernel
theorem dX9_fits_83 : decode cX9_fits 83 = .ok (.istore 4, 2) := by decide +kernel
theorem dX9_fits_85 : decode cX9_fits 85 = .ok (.aload_n 0, 1) := by decide +kernel
theorem dX9_fits_86 : decode cX9_fits 86 = .ok (.getfield 22, 3) := by decide +kernel
theorem dX9_fits_89 : decode cX9_fits 89 = .ok (.iload_n 3, 1) := by decide +kernel
theorem dX9_fits_90 : decode cX9_fits 90 = .ok (.iaload, 1) := by decide +kernel
theorem dX9_fits_91 : decode cX9_fits 91 = .ok (.iconst 3, 1) := by decide +kernel
theorem dX9_fits_92 : decode cX9_fits 92 = .ok (.irem, 1) := by decide +kernel
theorem dX9_fits_93 : decode cX9_fits 93 = .ok (.istore 5, 2) := by decide +kernel
theorem dX9_fits_95 : decode cX9_fits 95 = .ok (.aload_n 0, 1) := by decide +kernel
theorem dX9_fits_96 : decode cX9_fits 96 = .ok (.aload_n 0, 1) := by decide +kernel
theorem dX9_fits_97 : decode cX9_fits 97 = .ok (.getfield 13, 3) := by decide +kernel
theorem dX9_fits_100 : decode cX9_fits 100 = .ok (.sipush 916, 3) := by decide +kernel
theorem dX9_fits_103 : decode cX9_fits 103 = .ok (.iconst 4, 1) := by decide +kernel
theorem dX9_fits_104 : decode cX9_fits 104 = .ok (.iload 4, 2) := by decide +kernel
theorem dX9_fits_106 : decode cX9_fits 106 = .ok (.imul, 1) := by decide +kernel
theorem dX9_fits_107 : decode cX9_fits 107 = .ok (.iadd, 1) := by decide +kernel
theorem dX9_fits_108 : decode cX9_fits 108 = .ok (.iload 5, 2) := by decide +kernel
theorem dX9_fits_110 : decode cX9_fits 110 = .ok (.iadd, 1) := by decide +kernel
theorem dX9_fits_111 : decode cX9_fits 111 = .ok (.iaload, 1) := by decide +kernel
theorem dX9_fits_112 : decode cX9_fits 112 = .ok (.aload_n 0, 1) := by decide +kernel
theorem dX9_fits_113 : decode cX9_fits 113 = .ok (.getfield 13, 3) := by decide +kernel
theorem dX9_fits_116 : decode cX9_fits 116 = .ok (.sipush 932, 3) := by decide +kernel
theorem dX9_fits_119 : decode cX9_fits 119 = .ok (.iconst 4, 1) := by decide +kernel
theorem dX9_fits_120 : decode cX9_fits 120 = .ok (.iload 4, 2) := by decide +kernel
theorem dX9_fits_122 : decode cX9_fits 122 = .ok (.imul, 1) := by decide +kernel
theorem dX9_fits_123 : decode cX9_fits 123 = .ok (.iadd, 1) := by decide +kernel
theorem dX9_fits_124 : decode cX9_fits 124 = .ok (.iload 5, 2) := by decide +kernel
theorem dX9_fits_126 : decode cX9_fits 126 = .ok (.iadd, 1) := by decide +kernel
theorem dX9_fits_127 : decode cX9_fits 127 = .ok (.iaload, 1) := by decide +kernel
theorem dX9_fits_128 : decode cX9_fits 128 = .ok (.aload_n 0, 1) := by decide +kernel
theorem dX9_fits_129 : decode cX9_fits 129 = .ok (.getfield 16, 3) := by decide +kernel
theorem dX9_fits_132 : decode cX9_fits 132 = .ok (.bipush 81, 2) := by decide +kernel
theorem dX9_fits_134 : decode cX9_fits 134 = .ok (.iconst 2, 1) := by decide +kernel
theorem dX9_fits_135 : decode cX9_fits 135 = .ok (.aload_n 0, 1) := by decide +kernel
theorem dX9_fits_136 : decode cX9_fits 136 = .ok (.getfield 22, 3) := by decide +kernel
theorem dX9_fits_139 : decode cX9_fits 139 = .ok (.iload_n 3, 1) := by decide +kernel
theorem dX9_fits_140 : decode cX9_fits 140 = .ok (.iaload, 1) := by decide +kernel
theorem dX9_fits_141 : decode cX9_fits 141 = .ok (.imul, 1) := by decide +kernel
theorem dX9_fits_142 : decode cX9_fits 142 = .ok (.iadd, 1) := by decide +kernel
theorem dX9_fits_143 : decode cX9_fits 143 = .ok (.iconst 1, 1) := by decide +kernel
theorem dX9_fits_144 : decode cX9_fits 144 = .ok (.iadd, 1) := by decide +kernel
theorem dX9_fits_145 : decode cX9_fits 145 = .ok (.iaload, 1) := by decide +kernel
theorem dX9_fits_146 : decode cX9_fits 146 = .ok (.sipush 1000, 3) := by decide +kernel
theorem dX9_fits_149 : decode cX9_fits 149 = .ok (.isub, 1) := by decide +kernel
theorem dX9_fits_150 : decode cX9_fits 150 = .ok (.iconst 1, 1) := by decide +kernel
theorem dX9_fits_151 : decode cX9_fits 151 = .ok (.invokevirtual 261, 3) := by decide +kernel
theorem dX9_fits_154 : decode cX9_fits 154 = .ok (.istore_n 2, 1) := by decide +kernel
theorem dX9_fits_155 : decode cX9_fits 155 = .ok (.iinc 3 1, 3) := by decide +kernel
theorem dX9_fits_158 : decode cX9_fits 158 = .ok (.goto (-92), 3) := by decide +kernel
theorem dX9_fits_161 : decode cX9_fits 161 = .ok (.iload_n 2, 1) := by decide +kernel
theorem dX9_fits_162 : decode cX9_fits 162 = .ok (.ireturn, 1) := by decide +kernel
theorem dX9_flush_0 : decode cX9_flush 0 = .ok (.aload_n 0, 1) := by decide +kernel
theorem dX9_flush_1 : decode cX9_flush 1 = .ok (.getfield 16, 3) := by decide +kernel
theorem dX9_flush_4 : decode cX9_flush 4 = .ok (.iload_n 1, 1) := by decide +kernel
theorem dX9_flush_5 : decode cX9_flush 5 = .ok (.invokestatic 122, 3) := by decide +kernel
theorem dX9_flush_8 : decode cX9_flush 8 = .ok (.bipush 7, 2) := by decide +kernel
theorem dX9_flush_10 : decode cX9_flush 10 = .ok (.iadd, 1) := by decide +kernel
theorem dX9_flush_11 : decode cX9_flush 11 = .ok (.iaload, 1) := by decide +kernel
theorem dX9_flush_12 : decode cX9_flush 12 = .ok (.ifCond .le 11, 3) := by decide +kernel
theorem dX9_flush_15 : decode cX9_flush 15 = .ok (.aload_n 0, 1) := by decide +kernel
theorem dX9_flush_16 : decode cX9_flush 16 = .ok (.iload_n 1, 1) := by decide +kernel
theorem dX9_flush_17 : decode cX9_flush 17 = .ok (.invokevirtual 129, 3) := by decide +kernel
theorem dX9_flush_20 : decode cX9_flush 20 = .ok (.goto (-20), 3) := by decide +kernel
theorem dX9_flush_23 : decode cX9_flush 23 = .ok (.return_, 1) := by decide +kernel
theorem dX9_found_0 : decode cX9_found 0 = .ok (.aload_n 0, 1) := by decide +kernel
theorem dX9_found_1 : decode cX9_found 1 = .ok (.getfield 35, 3) := by decide +kernel
theorem dX9_found_4 : decode cX9_found 4 = .ok (.iload_n 1, 1) := by decide +kernel
theorem dX9_found_5 : decode cX9_found 5 = .ok (.sipush 2047, 3) := by decide +kernel
theorem dX9_found_8 : decode cX9_found 8 = .ok (.iand, 1) := by decide +kernel
theorem dX9_found_9 : decode cX9_found 9 = .ok (.iaload, 1) := by decide +kernel
theorem dX9_found_10 : decode cX9_found 10 = .ok (.iconst 1, 1) := by decide +kernel
theorem dX9_found_11 : decode cX9_found 11 = .ok (.isub, 1) := by decide +kernel
theorem dX9_found_12 : decode cX9_found 12 = .ok (.istore_n 2, 1) := by decide +kernel
theorem dX9_found_13 : decode cX9_found 13 = .ok (.iload_n 2, 1) := by decide +kernel
theorem dX9_found_14 : decode cX9_found 14 = .ok (.ifCond .lt 85, 3) := by decide +kernel
theorem dX9_found_17 : decode cX9_found 17 = .ok (.aload_n 0, 1) := by decide +kernel
theorem dX9_found_18 : decode cX9_found 18 = .ok (.getfield 32, 3) := by decide +kernel
theorem dX9_found_21 : decode cX9_found 21 = .ok (.iload_n 2, 1) := by decide +kernel
theorem dX9_found_22 : decode cX9_found 22 = .ok (.iaload, 1) := by decide +kernel
theorem dX9_found_23 : decode cX9_found 23 = .ok (.iload_n 1, 1) := by decide +kernel
theorem dX9_found_24 : decode cX9_found 24 = .ok (.if_icmp .ne 7, 3) := by decide +kernel
theorem dX9_found_27 : decode cX9_found 27 = .ok (.iconst 1, 1) := by decide +kernel
theorem dX9_found_28 : decode cX9_found 28 = .ok (.goto 4, 3) := by decide +kernel
theorem dX9_found_31 : decode cX9_found 31 = .ok (.iconst 0, 1) := by decide +kernel
theorem dX9_found_32 : decode cX9_found 32 = .ok (.istore_n 3, 1) := by decide +kernel
theorem dX9_found_33 : decode cX9_found 33 = .ok (.iconst 0, 1) := by decide +kernel
theorem dX9_found_34 : decode cX9_found 34 = .ok (.istore 4, 2) := by decide +kernel
theorem dX9_found_36 : decode cX9_found 36 = .ok (.iload 4, 2) := by decide +kernel
theorem dX9_found_38 : decode cX9_found 38 = .ok (.bipush 100, 2) := by decide +kernel
theorem dX9_found_40 : decode cX9_found 40 = .ok (.if_icmp .ge 41, 3) := by decide +kernel
theorem dX9_found_43 : decode cX9_found 43 = .ok (.iload_n 3, 1) := by decide +kernel
theorem dX9_found_44 : decode cX9_found 44 = .ok (.ifCond .eq 37, 3) := by decide +kernel
theorem dX9_found_47 : decode cX9_found 47 = .ok (.aload_n 0, 1) := by decide +kernel
theorem dX9_found_48 : decode cX9_found 48 = .ok (.getfield 29, 3) := by decide +kernel
theorem dX9_found_51 : decode cX9_found 51 = .ok (.bipush 100, 2) := by decide +kernel
theorem dX9_found_53 : decode cX9_found 53 = .ok (.iload_n 2, 1) := by decide +kernel
theorem dX9_found_54 : decode cX9_found 54 = .ok (.imul, 1) := by decide +kernel
theorem dX9_found_55 : decode cX9_found 55 = .ok (.iload 4, 2) := by decide +kernel
theorem dX9_found_57 : decode cX9_found 57 = .ok (.iadd, 1) := by decide +kernel
theorem dX9_found_58 : decode cX9_found 58 = .ok (.iaload, 1) := by decide +kernel
theorem dX9_found_59 : decode cX9_found 59 = .ok (.aload_n 0, 1) := by decide +kernel
theorem dX9_found_60 : decode cX9_found 60 = .ok (.getfield 16, 3) := by decide +kernel
theorem dX9_found_63 : decode cX9_found 63 = .ok (.iload 4, 2) := by decide +kernel
theorem dX9_found_65 : decode cX9_found 65 = .ok (.iaload, 1) := by decide +kernel
theorem dX9_found_66 : decode cX9_found 66 = .ok (.if_icmp .ne 7, 3) := by decide +kernel
theorem dX9_found_69 : decode cX9_found 69 = .ok (.iconst 1, 1) := by decide +kernel
theorem dX9_found_70 : decode cX9_found 70 = .ok (.goto 4, 3) := by decide +kernel
theorem dX9_found_73 : decode cX9_found 73 = .ok (.iconst 0, 1) := by decide +kernel
theorem dX9_found_74 : decode cX9_found 74 = .ok (.istore_n 3, 1) := by decide +kernel
theorem dX9_found_75 : decode cX9_found 75 = .ok (.iinc 4 1, 3) := by decide +kernel
theorem dX9_found_78 : decode cX9_found 78 = .ok (.goto (-42), 3) := by decide +kernel
theorem dX9_found_81 : decode cX9_found 81 = .ok (.iload_n 3, 1) := by decide +kernel
theorem dX9_found_82 : decode cX9_found 82 = .ok (.ifCond .eq 5, 3) := by decide +kernel
theorem dX9_found_85 : decode cX9_found 85 = .ok (.iload_n 2, 1) := by decide +kernel
theorem dX9_found_86 : decode cX9_found 86 = .ok (.ireturn, 1) := by decide +kernel
theorem dX9_found_87 : decode cX9_found 87 = .ok (.aload_n 0, 1) := by decide +kernel
theorem dX9_found_88 : decode cX9_found 88 = .ok (.getfield 38, 3) := by decide +kernel
theorem dX9_found_91 : decode cX9_found 91 = .ok (.iload_n 2, 1) := by decide +kernel
theorem dX9_found_92 : decode cX9_found 92 = .ok (.iaload, 1) := by decide +kernel
theorem dX9_found_93 : decode cX9_found 93 = .ok (.iconst 1, 1) := by decide +kernel
theorem dX9_found_94 : decode cX9_found 94 = .ok (.isub, 1) := by decide +kernel
theorem dX9_found_95 : decode cX9_found 95 = .ok (.istore_n 2, 1) := by decide +kernel
theorem dX9_found_96 : decode cX9_found 96 = .ok (.goto (-83), 3) := by decide +kernel
theorem dX9_found_99 : decode cX9_found 99 = .ok (.iconst (-1), 1) := by decide +kernel
theorem dX9_found_100 : decode cX9_found 100 = .ok (.ireturn, 1) := by decide +kernel
theorem dX9_go_0 : decode cX9_go 0 = .ok (.aload_n 0, 1) := by decide +kernel
theorem dX9_go_1 : decode cX9_go 1 = .ok (.iload_n 1, 1) := by decide +kernel
theorem dX9_go_2 : decode cX9_go 2 = .ok (.invokevirtual 382, 3) := by decide +kernel
theorem dX9_go_5 : decode cX9_go 5 = .ok (.ifCond .ne 6, 3) := by decide +kernel
theorem dX9_go_8 : decode cX9_go 8 = .ok (.bipush (-2), 2) := by decide +kernel
theorem dX9_go_10 : decode cX9_go 10 = .ok (.ireturn, 1) := by decide +kernel
theorem dX9_go_11 : decode cX9_go 11 = .ok (.aload_n 0, 1) := by decide +kernel
theorem dX9_go_12 : decode cX9_go 12 = .ok (.iload_n 1, 1) := by decide +kernel
theorem dX9_go_13 : decode cX9_go 13 = .ok (.invokevirtual 385, 3) := by decide +kernel
theorem dX9_go_16 : decode cX9_go 16 = .ok (.istore_n 2, 1) := by decide +kernel
theorem dX9_go_17 : decode cX9_go 17 = .ok (.iload_n 2, 1) := by decide +kernel
theorem dX9_go_18 : decode cX9_go 18 = .ok (.bipush 100, 2) := by decide +kernel
theorem dX9_go_20 : decode cX9_go 20 = .ok (.if_icmp .le 6, 3) := by decide +kernel
theorem dX9_go_23 : decode cX9_go 23 = .ok (.bipush (-3), 2) := by decide +kernel
theorem dX9_go_25 : decode cX9_go 25 = .ok (.ireturn, 1) := by decide +kernel
theorem dX9_go_26 : decode cX9_go 26 = .ok (.iconst 0, 1) := by decide +kernel
theorem dX9_go_27 : decode cX9_go 27 = .ok (.istore_n 3, 1) := by decide +kernel
theorem dX9_go_28 : decode cX9_go 28 = .ok (.iload_n 3, 1) := by decide +kernel
theorem dX9_go_29 : decode cX9_go 29 = .ok (.sipush 960, 3) := by decide +kernel
theorem dX9_go_32 : decode cX9_go 32 = .ok (.if_icmp .ge 29, 3) := by decide +kernel
theorem dX9_go_35 : decode cX9_go 35 = .ok (.aload_n 0, 1) := by decide +kernel
theorem dX9_go_36 : decode cX9_go 36 = .ok (.getfield 7, 3) := by decide +kernel
theorem dX9_go_39 : decode cX9_go 39 = .ok (.sipush 960, 3) := by decide +kernel
theorem dX9_go_42 : decode cX9_go 42 = .ok (.iload_n 3, 1) := by decide +kernel
theorem dX9_go_43 : decode cX9_go 43 = .ok (.iadd, 1) := by decide +kernel
theorem dX9_go_44 : decode cX9_go 44 = .ok (.aload_n 0, 1) := by decide +kernel
theorem dX9_go_45 : decode cX9_go 45 = .ok (.getfield 7, 3) := by decide +kernel
theorem dX9_go_48 : decode cX9_go 48 = .ok (.sipush 1920, 3) := by decide +kernel
theorem dX9_go_51 : decode cX9_go 51 = .ok (.iload_n 3, 1) := by decide +kernel
theorem dX9_go_52 : decode cX9_go 52 = .ok (.iadd, 1) := by decide +kernel
theorem dX9_go_53 : decode cX9_go 53 = .ok (.iaload, 1) := by decide +kernel
theorem dX9_go_54 : decode cX9_go 54 = .ok (.iastore, 1) := by decide +kernel
theorem dX9_go_55 : decode cX9_go 55 = .ok (.iinc 3 1, 3) := by decide +kernel
theorem dX9_go_58 : decode cX9_go 58 = .ok (.goto (-30), 3) := by decide +kernel
theorem dX9_go_61 : decode cX9_go 61 = .ok (.aload_n 0, 1) := by decide +kernel
theorem dX9_go_62 : decode cX9_go 62 = .ok (.iload_n 1, 1) := by decide +kernel
theorem dX9_go_63 : decode cX9_go 63 = .ok (.invokevirtual 352, 3) := by decide +kernel
theorem dX9_go_66 : decode cX9_go 66 = .ok (.aload_n 0, 1) := by decide +kernel
theorem dX9_go_67 : decode cX9_go 67 = .ok (.invokevirtual 297, 3) := by decide +kernel
theorem dX9_go_70 : decode cX9_go 70 = .ok (.aload_n 0, 1) := by decide +kernel
theorem dX9_go_71 : decode cX9_go 71 = .ok (.iconst 1, 1) := by decide +kernel
theorem dX9_go_72 : decode cX9_go 72 = .ok (.putfield 291, 3) := by decide +kernel
theorem dX9_go_75 : decode cX9_go 75 = .ok (.aload_n 0, 1) := by decide +kernel
theorem dX9_go_76 : decode cX9_go 76 = .ok (.iload_n 2, 1) := by decide +kernel
theorem dX9_go_77 : decode cX9_go 77 = .ok (.putfield 300, 3) := by decide +kernel
theorem dX9_go_80 : decode cX9_go 80 = .ok (.aload_n 0, 1) := by decide +kernel
theorem dX9_go_81 : decode cX9_go 81 = .ok (.iload_n 2, 1) := by decide +kernel
theorem dX9_go_82 : decode cX9_go 82 = .ok (.ifCond .ne 7, 3) := by decide +kernel
theorem dX9_go_85 : decode cX9_go 85 = .ok (.iconst (-1), 1) := by decide +kernel
theorem dX9_go_86 : decode cX9_go 86 = .ok (.goto 9, 3) := by decide +kernel
theorem dX9_go_89 : decode cX9_go 89 = .ok (.aload_n 0, 1) := by decide +kernel
theorem dX9_go_90 : decode cX9_go 90 = .ok (.getfield 51, 3) := by decide +kernel
theorem dX9_go_93 : decode cX9_go 93 = .ok (.iload_n 1, 1) := by decide +kernel
theorem dX9_go_94 : decode cX9_go 94 = .ok (.iaload, 1) := by decide +kernel
theorem dX9_go_95 : decode cX9_go 95 = .ok (.putfield 303, 3) := by decide +kernel
theorem dX9_go_98 : decode cX9_go 98 = .ok (.iload_n 2, 1) := by decide +kernel
theorem dX9_go_99 : decode cX9_go 99 = .ok (.ireturn, 1) := by decide +kernel
theorem dX9_goesOn_0 : decode cX9_goesOn 0 = .ok (.aload_n 0, 1) := by decide +kernel
theorem dX9_goesOn_1 : decode cX9_goesOn 1 = .ok (.getfield 41, 3) := by decide +kernel
theorem dX9_goesOn_4 : decode cX9_goesOn 4 = .ok (.bipush 6, 2) := by decide +kernel
theorem dX9_goesOn_6 : decode cX9_goesOn 6 = .ok (.iload_n 1, 1) := by decide +kernel
theorem dX9_goesOn_7 : decode cX9_goesOn 7 = .ok (.imul, 1) := by decide +kernel
theorem dX9_goesOn_8 : decode cX9_goesOn 8 = .ok (.iload_n 2, 1) := by decide +kernel
theorem dX9_goesOn_9 : decode cX9_goesOn 9 = .ok (.iadd, 1) := by decide +kernel
theorem dX9_goesOn_10 : decode cX9_goesOn 10 = .ok (.bipush (-4), 2) := by decide +kernel
theorem dX9_goesOn_12 : decode cX9_goesOn 12 = .ok (.iastore, 1) := by decide +kernel
theorem dX9_goesOn_13 : decode cX9_goesOn 13 = .ok (.aload_n 0, 1) := by decide +kernel
theorem dX9_goesOn_14 : decode cX9_goesOn 14 = .ok (.iload_n 1, 1) := by decide +kernel
theorem dX9_goesOn_15 : decode cX9_goesOn 15 = .ok (.invokevirtual 352, 3) := by decide +kernel
theorem dX9_goesOn_18 : decode cX9_goesOn 18 = .ok (.aload_n 0, 1) := by decide +kernel
theorem dX9_goesOn_19 : decode cX9_goesOn 19 = .ok (.iload_n 2, 1) := by decide +kernel
theorem dX9_goesOn_20 : decode cX9_goesOn 20 = .ok (.invokevirtual 265, 3) := by decide +kernel
theorem dX9_goesOn_23 : decode cX9_goesOn 23 = .ok (.ifCond .ne 4, 3) := by decide +kernel
theorem dX9_goesOn_26 : decode cX9_goesOn 26 = .ok (.return_, 1) := by decide +kernel
theorem dX9_goesOn_27 : decode cX9_goesOn 27 = .ok (.aload_n 0, 1) := by decide +kernel
theorem dX9_goesOn_28 : decode cX9_goesOn 28 = .ok (.iload_n 2, 1) := by decide +kernel
theorem dX9_goesOn_29 : decode cX9_goesOn 29 = .ok (.invokevirtual 309, 3) := by decide +kernel
theorem dX9_goesOn_32 : decode cX9_goesOn 32 = .ok (.aload_n 0, 1) := by decide +kernel
theorem dX9_goesOn_33 : decode cX9_goesOn 33 = .ok (.getfield 44, 3) := by decide +kernel
theorem dX9_goesOn_36 : decode cX9_goesOn 36 = .ok (.bipush 6, 2) := by decide +kernel
theorem dX9_goesOn_38 : decode cX9_goesOn 38 = .ok (.iload_n 1, 1) := by decide +kernel
theorem dX9_goesOn_39 : decode cX9_goesOn 39 = .ok (.imul, 1) := by decide +kernel
theorem dX9_goesOn_40 : decode cX9_goesOn 40 = .ok (.iload_n 2, 1) := by decide +kernel
theorem dX9_goesOn_41 : decode cX9_goesOn 41 = .ok (.iadd, 1) := by decide +kernel
theorem dX9_goesOn_42 : decode cX9_goesOn 42 = .ok (.aload_n 0, 1) := by decide +kernel
theorem dX9_goesOn_43 : decode cX9_goesOn 43 = .ok (.getfield 234, 3) := by decide +kernel
theorem dX9_goesOn_46 : decode cX9_goesOn 46 = .ok (.bastore, 1) := by decide +kernel
theorem dX9_goesOn_47 : decode cX9_goesOn 47 = .ok (.aload_n 0, 1) := by decide +kernel
theorem dX9_goesOn_48 : decode cX9_goesOn 48 = .ok (.invokevirtual 343, 3) := by decide +kernel
theorem dX9_goesOn_51 : decode cX9_goesOn 51 = .ok (.istore_n 3, 1) := by decide +kernel
theorem dX9_goesOn_52 : decode cX9_goesOn 52 = .ok (.aload_n 0, 1) := by decide +kernel
theorem dX9_goesOn_53 : decode cX9_goesOn 53 = .ok (.iload_n 3, 1) := by decide +kernel
theorem dX9_goesOn_54 : decode cX9_goesOn 54 = .ok (.invokevirtual 355, 3) := by decide +kernel
theorem dX9_goesOn_57 : decode cX9_goesOn 57 = .ok (.istore 4, 2) := by decide +kernel
theorem dX9_goesOn_59 : decode cX9_goesOn 59 = .ok (.iload 4, 2) := by decide +kernel
theorem dX9_goesOn_61 : decode cX9_goesOn 61 = .ok (.ifCond .ge 19, 3) := by decide +kernel
theorem dX9_goesOn_64 : decode cX9_goesOn 64 = .ok (.aload_n 0, 1) := by decide +kernel
theorem dX9_goesOn_65 : decode cX9_goesOn 65 = .ok (.getfield 328, 3) := by decide +kernel
theorem dX9_goesOn_68 : decode cX9_goesOn 68 = .ok (.sipush 1500, 3) := by decide +kernel
theorem dX9_goesOn_71 : decode cX9_goesOn 71 = .ok (.if_icmp .ne 9, 3) := by decide +kernel
theorem dX9_goesOn_74 : decode cX9_goesOn 74 = .ok (.aload_n 0, 1) := by decide +kernel
theorem dX9_goesOn_75 : decode cX9_goesOn 75 = .ok (.iconst 1, 1) := by decide +kernel
theorem dX9_goesOn_76 : decode cX9_goesOn 76 = .ok (.putfield 340, 3) := by decide +kernel
theorem dX9_goesOn_79 : decode cX9_goesOn 79 = .ok (.return_, 1) := by decide +kernel
theorem dX9_goesOn_80 : decode cX9_goesOn 80 = .ok (.iload 4, 2) := by decide +kernel
theorem dX9_goesOn_82 : decode cX9_goesOn 82 = .ok (.ifCond .ge 16, 3) := by decide +kernel
theorem dX9_goesOn_85 : decode cX9_goesOn 85 = .ok (.aload_n 0, 1) := by decide +kernel
theorem dX9_goesOn_86 : decode cX9_goesOn 86 = .ok (.getfield 328, 3) := by decide +kernel
theorem dX9_goesOn_89 : decode cX9_goesOn 89 = .ok (.istore 4, 2) := by decide +kernel
theorem dX9_goesOn_91 : decode cX9_goesOn 91 = .ok (.aload_n 0, 1) := by decide +kernel
theorem dX9_goesOn_92 : decode cX9_goesOn 92 = .ok (.iload_n 3, 1) := by decide +kernel
theorem dX9_goesOn_93 : decode cX9_goesOn 93 = .ok (.iload_n 1, 1) := by decide +kernel
theorem dX9_goesOn_94 : decode cX9_goesOn 94 = .ok (.iload_n 2, 1) := by decide +kernel
theorem dX9_goesOn_95 : decode cX9_goesOn 95 = .ok (.invokevirtual 346, 3) := by decide +kernel
theorem dX9_goesOn_98 : decode cX9_goesOn 98 = .ok (.aload_n 0, 1) := by decide +kernel
theorem dX9_goesOn_99 : decode cX9_goesOn 99 = .ok (.getfield 41, 3) := by decide +kernel
theorem dX9_goesOn_102 : decode cX9_goesOn 102 = .ok (.bipush 6, 2) := by decide +kernel
theorem dX9_goesOn_104 : decode cX9_goesOn 104 = .ok (.iload_n 1, 1) := by decide +kernel
theorem dX9_goesOn_105 : decode cX9_goesOn 105 = .ok (.imul, 1) := by decide +kernel
theorem dX9_goesOn_106 : decode cX9_goesOn 106 = .ok (.iload_n 2, 1) := by decide +kernel
theorem dX9_goesOn_107 : decode cX9_goesOn 107 = .ok (.iadd, 1) := by decide +kernel
theorem dX9_goesOn_108 : decode cX9_goesOn 108 = .ok (.iload 4, 2) := by decide +kernel
theorem dX9_goesOn_110 : decode cX9_goesOn 110 = .ok (.iastore, 1) := by decide +kernel
theorem dX9_goesOn_111 : decode cX9_goesOn 111 = .ok (.aload_n 0, 1) := by decide +kernel
theorem dX9_goesOn_112 : decode cX9_goesOn 112 = .ok (.dup, 1) := by decide +kernel
theorem dX9_goesOn_113 : decode cX9_goesOn 113 = .ok (.getfield 337, 3) := by decide +kernel
theorem dX9_goesOn_116 : decode cX9_goesOn 116 = .ok (.iconst 1, 1) := by decide +kernel
theorem dX9_goesOn_117 : decode cX9_goesOn 117 = .ok (.iadd, 1) := by decide +kernel
theorem dX9_goesOn_118 : decode cX9_goesOn 118 = .ok (.putfield 337, 3) := by decide +kernel
theorem dX9_goesOn_121 : decode cX9_goesOn 121 = .ok (.return_, 1) := by decide +kernel
theorem dX9_happens_0 : decode cX9_happens 0 = .ok (.aload_n 0, 1) := by decide +kernel
theorem dX9_happens_1 : decode cX9_happens 1 = .ok (.iload_n 1, 1) := by decide +kernel
theorem dX9_happens_2 : decode cX9_happens 2 = .ok (.invokevirtual 144, 3) := by decide +kernel
theorem dX9_happens_5 : decode cX9_happens 5 = .ok (.istore_n 2, 1) := by decide +kernel
theorem dX9_happens_6 : decode cX9_happens 6 = .ok (.aload_n 0, 1) := by decide +kernel
theorem dX9_happens_7 : decode cX9_happens 7 = .ok (.getfield 133, 3) := by decide +kernel
theorem dX9_happens_10 : decode cX9_happens 10 = .ok (.ifCond .ne 31, 3) := by decide +kernel
theorem dX9_happens_13 : decode cX9_happens 13 = .ok (.aload_n 0, 1) := by decide +kernel
theorem dX9_happens_14 : decode cX9_happens 14 = .ok (.getfield 13, 3) := by decide +kernel
theorem dX9_happens_17 : decode cX9_happens 17 = .ok (.sipush 732, 3) := by decide +kernel
theorem dX9_happens_20 : decode cX9_happens 20 = .ok (.bipush 30, 2) := by decide +kernel
theorem dX9_happens_22 : decode cX9_happens 22 = .ok (.iload_n 2, 1) := by decide +kernel
theorem dX9_happens_23 : decode cX9_happens 23 = .ok (.imul, 1) := by decide +kernel
theorem dX9_happens_24 : decode cX9_happens 24 = .ok (.iadd, 1) := by decide +kernel
theorem dX9_happens_25 : decode cX9_happens 25 = .ok (.aload_n 0, 1) := by decide +kernel
theorem dX9_happens_26 : decode cX9_happens 26 = .ok (.getfield 16, 3) := by decide +kernel
theorem dX9_happens_29 : decode cX9_happens 29 = .ok (.iload_n 1, 1) := by decide +kernel
theorem dX9_happens_30 : decode cX9_happens 30 = .ok (.invokestatic 122, 3) := by decide +kernel
theorem dX9_happens_33 : decode cX9_happens 33 = .ok (.iconst 2, 1) := by decide +kernel
theorem dX9_happens_34 : decode cX9_happens 34 = .ok (.iadd, 1) := by decide +kernel
theorem dX9_happens_35 : decode cX9_happens 35 = .ok (.iaload, 1) := by decide +kernel
theorem dX9_happens_36 : decode cX9_happens 36 = .ok (.iadd, 1) := by decide +kernel
theorem dX9_happens_37 : decode cX9_happens 37 = .ok (.iaload, 1) := by decide +kernel
theorem dX9_happens_38 : decode cX9_happens 38 = .ok (.ifCond .ne 4, 3) := by decide +kernel
theorem dX9_happens_41 : decode cX9_happens 41 = .ok (.return_, 1) := by decide +kernel
theorem dX9_happens_42 : decode cX9_happens 42 = .ok (.iconst 3, 1) := by decide +kernel
theorem dX9_happens_43 : decode cX9_happens 43 = .ok (.iload_n 1, 1) := by decide +kernel
theorem dX9_happens_44 : decode cX9_happens 44 = .ok (.imul, 1) := by decide +kernel
theorem dX9_happens_45 : decode cX9_happens 45 = .ok (.aload_n 0, 1) := by decide +kernel
theorem dX9_happens_46 : decode cX9_happens 46 = .ok (.getfield 16, 3) := by decide +kernel
theorem dX9_happens_49 : decode cX9_happens 49 = .ok (.iload_n 1, 1) := by decide +kernel
theorem dX9_happens_50 : decode cX9_happens 50 = .ok (.invokestatic 122, 3) := by decide +kernel
theorem dX9_happens_53 : decode cX9_happens 53 = .ok (.iconst 0, 1) := by decide +kernel
theorem dX9_happens_54 : decode cX9_happens 54 = .ok (.iadd, 1) := by decide +kernel
theorem dX9_happens_55 : decode cX9_happens 55 = .ok (.iaload, 1) := by decide +kernel
theorem dX9_happens_56 : decode cX9_happens 56 = .ok (.iadd, 1) := by decide +kernel
theorem dX9_happens_57 : decode cX9_happens 57 = .ok (.iconst 1, 1) := by decide +kernel
theorem dX9_happens_58 : decode cX9_happens 58 = .ok (.iadd, 1) := by decide +kernel
theorem dX9_happens_59 : decode cX9_happens 59 = .ok (.istore_n 3, 1) := by decide +kernel
theorem dX9_happens_60 : decode cX9_happens 60 = .ok (.iconst 0, 1) := by decide +kernel
theorem dX9_happens_61 : decode cX9_happens 61 = .ok (.istore 4, 2) := by decide +kernel
theorem dX9_happens_63 : decode cX9_happens 63 = .ok (.iconst 0, 1) := by decide +kernel
theorem dX9_happens_64 : decode cX9_happens 64 = .ok (.istore 5, 2) := by decide +kernel
theorem dX9_happens_66 : decode cX9_happens 66 = .ok (.aload_n 0, 1) := by decide +kernel
theorem dX9_happens_67 : decode cX9_happens 67 = .ok (.getfield 16, 3) := by decide +kernel
theorem dX9_happens_70 : decode cX9_happens 70 = .ok (.bipush 99, 2) := by decide +kernel
theorem dX9_happens_72 : decode cX9_happens 72 = .ok (.iaload, 1) := by decide +kernel
theorem dX9_happens_73 : decode cX9_happens 73 = .ok (.istore 6, 2) := by decide +kernel
theorem dX9_happens_75 : decode cX9_happens 75 = .ok (.iload 6, 2) := by decide +kernel
theorem dX9_happens_77 : decode cX9_happens 77 = .ok (.ifCond .eq 39, 3) := by decide +kernel
theorem dX9_happens_80 : decode cX9_happens 80 = .ok (.iload 6, 2) := by decide +kernel
theorem dX9_happens_82 : decode cX9_happens 82 = .ok (.bipush 15, 2) := by decide +kernel
theorem dX9_happens_84 : decode cX9_happens 84 = .ok (.iand, 1) := by decide +kernel
theorem dX9_happens_85 : decode cX9_happens 85 = .ok (.iload_n 3, 1) := by decide +kernel
theorem dX9_happens_86 : decode cX9_happens 86 = .ok (.if_icmp .eq 21, 3) := by decide +kernel
theorem dX9_happens_89 : decode cX9_happens 89 = .ok (.iload 4, 2) := by decide +kernel
theorem dX9_happens_91 : decode cX9_happens 91 = .ok (.iload 6, 2) := by decide +kernel
theorem dX9_happens_93 : decode cX9_happens 93 = .ok (.bipush 15, 2) := by decide +kernel
theorem dX9_happens_95 : decode cX9_happens 95 = .ok (.iand, 1) := by decide +kernel
theorem dX9_happens_96 : decode cX9_happens 96 = .ok (.iconst 4, 1) := by decide +kernel
theorem dX9_happens_97 : decode cX9_happens 97 = .ok (.iload 5, 2) := by decide +kernel
theorem dX9_happens_99 : decode cX9_happens 99 = .ok (.imul, 1) := by decide +kernel
theorem dX9_happens_100 : decode cX9_happens 100 = .ok (.ishl, 1) := by decide +kernel
theorem dX9_happens_101 : decode cX9_happens 101 = .ok (.ior, 1) := by decide +kernel
theorem dX9_happens_102 : decode cX9_happens 102 = .ok (.istore 4, 2) := by decide +kernel
theorem dX9_happens_104 : decode cX9_happens 104 = .ok (.iinc 5 1, 3) := by decide +kernel
theorem dX9_happens_107 : decode cX9_happens 107 = .ok (.iload 6, 2) := by decide +kernel
theorem dX9_happens_109 : decode cX9_happens 109 = .ok (.iconst 4, 1) := by decide +kernel
theorem dX9_happens_110 : decode cX9_happens 110 = .ok (.ishr, 1) := by decide +kernel
theorem dX9_happens_111 : decode cX9_happens 111 = .ok (.istore 6, 2) := by decide +kernel
theorem dX9_happens_113 : decode cX9_happens 113 = .ok (.goto (-38), 3) := by decide +kernel
theorem dX9_happens_116 : decode cX9_happens 116 = .ok (.aload_n 0, 1) := by decide +kernel
theorem dX9_happens_117 : decode cX9_happens 117 = .ok (.getfield 16, 3) := by decide +kernel
theorem dX9_happens_120 : decode cX9_happens 120 = .ok (.bipush 99, 2) := by decide +kernel
theorem dX9_happens_122 : decode cX9_happens 122 = .ok (.iload 4, 2) := by decide +kernel
theorem dX9_happens_124 : decode cX9_happens 124 = .ok (.iload_n 3, 1) := by decide +kernel
theorem dX9_happens_125 : decode cX9_happens 125 = .ok (.iconst 4, 1) := by decide +kernel
theorem dX9_happens_126 : decode cX9_happens 126 = .ok (.iload 5, 2) := by decide +kernel
theorem dX9_happens_128 : decode cX9_happens 128 = .ok (.imul, 1) := by decide +kernel
theorem dX9_happens_129 : decode cX9_happens 129 = .ok (.ishl, 1) := by decide +kernel
theorem dX9_happens_130 : decode cX9_happens 130 = .ok (.ior, 1) := by decide +kernel
theorem dX9_happens_131 : decode cX9_happens 131 = .ok (.iastore, 1) := by decide +kernel
theorem dX9_happens_132 : decode cX9_happens 132 = .ok (.return_, 1) := by decide +kernel
theorem dX9_hasAct_0 : decode cX9_hasAct 0 = .ok (.iload_n 1, 1) := by decide +kernel
theorem dX9_hasAct_1 : decode cX9_hasAct 1 = .ok (.invokestatic 99, 3) := by decide +kernel
theorem dX9_hasAct_4 : decode cX9_hasAct 4 = .ok (.ifCond .eq 27, 3) := by decide +kernel
theorem dX9_hasAct_7 : decode cX9_hasAct 7 = .ok (.iload_n 2, 1) := by decide +kernel
theorem dX9_hasAct_8 : decode cX9_hasAct 8 = .ok (.i2l, 1) := by decide +kernel
theorem dX9_hasAct_9 : decode cX9_hasAct 9 = .ok (.lconst 0, 1) := by decide +kernel
theorem dX9_hasAct_10 : decode cX9_hasAct 10 = .ok (.aload_n 0, 1) := by decide +kernel
theorem dX9_hasAct_11 : decode cX9_hasAct 11 = .ok (.getfield 7, 3) := by decide +kernel
theorem dX9_hasAct_14 : decode cX9_hasAct 14 = .ok (.iconst 0, 1) := by decide +kernel
theorem dX9_hasAct_15 : decode cX9_hasAct 15 = .ok (.iload_n 1, 1) := by decide +kernel
theorem dX9_hasAct_16 : decode cX9_hasAct 16 = .ok (.iadd, 1) := by decide +kernel
theorem dX9_hasAct_17 : decode cX9_hasAct 17 = .ok (.iaload, 1) := by decide +kernel
theorem dX9_hasAct_18 : decode cX9_hasAct 18 = .ok (.iconst 1, 1) := by decide +kernel
theorem dX9_hasAct_19 : decode cX9_hasAct 19 = .ok (.isub, 1) := by decide +kernel
theorem dX9_hasAct_20 : decode cX9_hasAct 20 = .ok (.i2l, 1) := by decide +kernel
theorem dX9_hasAct_21 : decode cX9_hasAct 21 = .ok (.invokestatic 68, 3) := by decide +kernel
theorem dX9_hasAct_24 : decode cX9_hasAct 24 = .ok (.ifCond .eq 7, 3) := by decide +kernel
theorem dX9_hasAct_27 : decode cX9_hasAct 27 = .ok (.iconst 1, 1) := by decide +kernel
theorem dX9_hasAct_28 : decode cX9_hasAct 28 = .ok (.goto 4, 3) := by decide +kernel
theorem dX9_hasAct_31 : decode cX9_hasAct 31 = .ok (.iconst 0, 1) := by decide +kernel
theorem dX9_hasAct_32 : decode cX9_hasAct 32 = .ok (.ireturn, 1) := by decide +kernel
theorem dX9_hasFinding_0 : decode cX9_hasFinding 0 = .ok (.aload_n 0, 1) := by decide +kernel
theorem dX9_hasFinding_1 : decode cX9_hasFinding 1 = .ok (.getfield 16, 3) := by decide +kernel
theorem dX9_hasFinding_4 : decode cX9_hasFinding 4 = .ok (.iconst 0, 1) := by decide +kernel
theorem dX9_hasFinding_5 : decode cX9_hasFinding 5 = .ok (.invokestatic 122, 3) := by decide +kernel
theorem dX9_hasFinding_8 : decode cX9_hasFinding 8 = .ok (.iconst 3, 1) := by decide +kernel
theorem dX9_hasFinding_9 : decode cX9_hasFinding 9 = .ok (.iadd, 1) := by decide +kernel
theorem dX9_hasFinding_10 : decode cX9_hasFinding 10 = .ok (.iaload, 1) := by decide +kernel
theorem dX9_hasFinding_11 : decode cX9_hasFinding 11 = .ok (.ifCond .gt 31, 3) := by decide +kernel
theorem dX9_hasFinding_14 : decode cX9_hasFinding 14 = .ok (.aload_n 0, 1) := by decide +kernel
theorem dX9_hasFinding_15 : decode cX9_hasFinding 15 = .ok (.getfield 16, 3) := by decide +kernel
theorem dX9_hasFinding_18 : decode cX9_hasFinding 18 = .ok (.iconst 1, 1) := by decide +kernel
theorem dX9_hasFinding_19 : decode cX9_hasFinding 19 = .ok (.invokestatic 122, 3) := by decide +kernel
theorem dX9_hasFinding_22 : decode cX9_hasFinding 22 = .ok (.iconst 3, 1) := by decide +kernel
theorem dX9_hasFinding_23 : decode cX9_hasFinding 23 = .ok (.iadd, 1) := by decide +kernel
theorem dX9_hasFinding_24 : decode cX9_hasFinding 24 = .ok (.iaload, 1) := by decide +kernel
theorem dX9_hasFinding_25 : decode cX9_hasFinding 25 = .ok (.ifCond .gt 17, 3) := by decide +kernel
theorem dX9_hasFinding_28 : decode cX9_hasFinding 28 = .ok (.aload_n 0, 1) := by decide +kernel
theorem dX9_hasFinding_29 : decode cX9_hasFinding 29 = .ok (.getfield 16, 3) := by decide +kernel
theorem dX9_hasFinding_32 : decode cX9_hasFinding 32 = .ok (.iconst 2, 1) := by decide +kernel
theorem dX9_hasFinding_33 : decode cX9_hasFinding 33 = .ok (.invokestatic 122, 3) := by decide +kernel
theorem dX9_hasFinding_36 : decode cX9_hasFinding 36 = .ok (.iconst 3, 1) := by decide +kernel
theorem dX9_hasFinding_37 : decode cX9_hasFinding 37 = .ok (.iadd, 1) := by decide +kernel
theorem dX9_hasFinding_38 : decode cX9_hasFinding 38 = .ok (.iaload, 1) := by decide +kernel
theorem dX9_hasFinding_39 : decode cX9_hasFinding 39 = .ok (.ifCond .le 7, 3) := by decide +kernel
theorem dX9_hasFinding_42 : decode cX9_hasFinding 42 = .ok (.iconst 1, 1) := by decide +kernel
theorem dX9_hasFinding_43 : decode cX9_hasFinding 43 = .ok (.goto 4, 3) := by decide +kernel
theorem dX9_hasFinding_46 : decode cX9_hasFinding 46 = .ok (.iconst 0, 1) := by decide +kernel
theorem dX9_hasFinding_47 : decode cX9_hasFinding 47 = .ok (.ireturn, 1) := by decide +kernel
theorem dX9_in_0 : decode cX9_in 0 = .ok (.lload_n 0, 1) := by decide +kernel
theorem dX9_in_1 : decode cX9_in 1 = .ok (.lload_n 2, 1) := by decide +kernel
theorem dX9_in_2 : decode cX9_in 2 = .ok (.lcmp, 1) := by decide +kernel
theorem dX9_in_3 : decode cX9_in 3 = .ok (.ifCond .lt 14, 3) := by decide +kernel
theorem dX9_in_6 : decode cX9_in 6 = .ok (.lload_n 0, 1) := by decide +kernel
theorem dX9_in_7 : decode cX9_in 7 = .ok (.lload 4, 2) := by decide +kernel
theorem dX9_in_9 : decode cX9_in 9 = .ok (.lcmp, 1) := by decide +kernel
theorem dX9_in_10 : decode cX9_in 10 = .ok (.ifCond .gt 7, 3) := by decide +kernel
theorem dX9_in_13 : decode cX9_in 13 = .ok (.iconst 1, 1) := by decide +kernel
theorem dX9_in_14 : decode cX9_in 14 = .ok (.goto 4, 3) := by decide +kernel
theorem dX9_in_17 : decode cX9_in 17 = .ok (.iconst 0, 1) := by decide +kernel
theorem dX9_in_18 : decode cX9_in 18 = .ok (.ireturn, 1) := by decide +kernel
theorem dX9_isAct_0 : decode cX9_isAct 0 = .ok (.iload_n 0, 1) := by decide +kernel
theorem dX9_isAct_1 : decode cX9_isAct 1 = .ok (.tableswitch 420 0 26 #[123, 143, 170, 190, 217, 244, 271, 291, 293, 293, 298, 291, 291, 293, 420, 420, 420, 420, 420, 420, 318, 293, 338, 358, 378, 388, 318], 123) := by decide +kernel
theorem dX9_isAct_124 : decode cX9_isAct 124 = .ok (.iload_n 1, 1) := by decide +kernel
theorem dX9_isAct_125 : decode cX9_isAct 125 = .ok (.invokestatic 84, 3) := by decide +kernel
theorem dX9_isAct_128 : decode cX9_isAct 128 = .ok (.ifCond .eq 14, 3) := by decide +kernel
theorem dX9_isAct_131 : decode cX9_isAct 131 = .ok (.iload_n 2, 1) := by decide +kernel
theorem dX9_isAct_132 : decode cX9_isAct 132 = .ok (.invokestatic 88, 3) := by decide +kernel
theorem dX9_isAct_135 : decode cX9_isAct 135 = .ok (.ifCond .eq 7, 3) := by decide +kernel
theorem dX9_isAct_138 : decode cX9_isAct 138 = .ok (.iconst 1, 1) := by decide +kernel
theorem dX9_isAct_139 : decode cX9_isAct 139 = .ok (.goto 4, 3) := by decide +kernel
theorem dX9_isAct_142 : decode cX9_isAct 142 = .ok (.iconst 0, 1) := by decide +kernel
theorem dX9_isAct_143 : decode cX9_isAct 143 = .ok (.ireturn, 1) := by decide +kernel
theorem dX9_isAct_144 : decode cX9_isAct 144 = .ok (.iload_n 1, 1) := by decide +kernel
theorem dX9_isAct_145 : decode cX9_isAct 145 = .ok (.invokestatic 84, 3) := by decide +kernel
theorem dX9_isAct_148 : decode cX9_isAct 148 = .ok (.ifCond .eq 21, 3) := by decide +kernel
theorem dX9_isAct_151 : decode cX9_isAct 151 = .ok (.iload_n 2, 1) := by decide +kernel
theorem dX9_isAct_152 : decode cX9_isAct 152 = .ok (.invokestatic 84, 3) := by decide +kernel
theorem dX9_isAct_155 : decode cX9_isAct 155 = .ok (.ifCond .eq 14, 3) := by decide +kernel
theorem dX9_isAct_158 : decode cX9_isAct 158 = .ok (.iload_n 3, 1) := by decide +kernel
theorem dX9_isAct_159 : decode cX9_isAct 159 = .ok (.invokestatic 91, 3) := by decide +kernel
theorem dX9_isAct_162 : decode cX9_isAct 162 = .ok (.ifCond .eq 7, 3) := by decide +kernel
theorem dX9_isAct_165 : decode cX9_isAct 165 = .ok (.iconst 1, 1) := by decide +kernel
theorem dX9_isAct_166 : decode cX9_isAct 166 = .ok (.goto 4, 3) := by decide +kernel
theorem dX9_isAct_169 : decode cX9_isAct 169 = .ok (.iconst 0, 1) := by decide +kernel
theorem dX9_isAct_170 : decode cX9_isAct 170 = .ok (.ireturn, 1) := by decide +kernel
theorem dX9_isAct_171 : decode cX9_isAct 171 = .ok (.iload_n 1, 1) := by decide +kernel
theorem dX9_isAct_172 : decode cX9_isAct 172 = .ok (.invokestatic 88, 3) := by decide +kernel
theorem dX9_isAct_175 : decode cX9_isAct 175 = .ok (.ifCond .eq 14, 3) := by decide +kernel
theorem dX9_isAct_178 : decode cX9_isAct 178 = .ok (.iload_n 2, 1) := by decide +kernel
theorem dX9_isAct_179 : decode cX9_isAct 179 = .ok (.invokestatic 84, 3) := by decide +kernel
theorem dX9_isAct_182 : decode cX9_isAct 182 = .ok (.ifCond .eq 7, 3) := by decide +kernel
theorem dX9_isAct_185 : decode cX9_isAct 185 = .ok (.iconst 1, 1) := by decide +kernel
theorem dX9_isAct_186 : decode cX9_isAct 186 = .ok (.goto 4, 3) := by decide +kernel
theorem dX9_isAct_189 : decode cX9_isAct 189 = .ok (.iconst 0, 1) := by decide +kernel
theorem dX9_isAct_190 : decode cX9_isAct 190 = .ok (.ireturn, 1) := by decide +kernel
theorem dX9_isAct_191 : decode cX9_isAct 191 = .ok (.iload_n 1, 1) := by decide +kernel
theorem dX9_isAct_192 : decode cX9_isAct 192 = .ok (.invokestatic 84, 3) := by decide +kernel
theorem dX9_isAct_195 : decode cX9_isAct 195 = .ok (.ifCond .eq 21, 3) := by decide +kernel
theorem dX9_isAct_198 : decode cX9_isAct 198 = .ok (.iload_n 2, 1) := by decide +kernel
theorem dX9_isAct_199 : decode cX9_isAct 199 = .ok (.invokestatic 91, 3) := by decide +kernel
theorem dX9_isAct_202 : decode cX9_isAct 202 = .ok (.ifCond .eq 14, 3) := by decide +kernel
theorem dX9_isAct_205 : decode cX9_isAct 205 = .ok (.iload_n 3, 1) := by decide +kernel
theorem dX9_isAct_206 : decode cX9_isAct 206 = .ok (.invokestatic 84, 3) := by decide +kernel
theorem dX9_isAct_209 : decode cX9_isAct 209 = .ok (.ifCond .eq 7, 3) := by decide +kernel
theorem dX9_isAct_212 : decode cX9_isAct 212 = .ok (.iconst 1, 1) := by decide +kernel
theorem dX9_isAct_213 : decode cX9_isAct 213 = .ok (.goto 4, 3) := by decide +kernel
theorem dX9_isAct_216 : decode cX9_isAct 216 = .ok (.iconst 0, 1) := by decide +kernel
theorem dX9_isAct_217 : decode cX9_isAct 217 = .ok (.ireturn, 1) := by decide +kernel
theorem dX9_isAct_218 : decode cX9_isAct 218 = .ok (.iload_n 1, 1) := by decide +kernel
theorem dX9_isAct_219 : decode cX9_isAct 219 = .ok (.invokestatic 88, 3) := by decide +kernel
theorem dX9_isAct_222 : decode cX9_isAct 222 = .ok (.ifCond .eq 21, 3) := by decide +kernel
theorem dX9_isAct_225 : decode cX9_isAct 225 = .ok (.iload_n 2, 1) := by decide +kernel
theorem dX9_isAct_226 : decode cX9_isAct 226 = .ok (.invokestatic 84, 3) := by decide +kernel
theorem dX9_isAct_229 : decode cX9_isAct 229 = .ok (.ifCond .eq 14, 3) := by decide +kernel
theorem dX9_isAct_232 : decode cX9_isAct 232 = .ok (.iload_n 3, 1) := by decide +kernel
theorem dX9_isAct_233 : decode cX9_isAct 233 = .ok (.invokestatic 84, 3) := by decide +kernel
theorem dX9_isAct_236 : decode cX9_isAct 236 = .ok (.ifCond .eq 7, 3) := by decide +kernel
theorem dX9_isAct_239 : decode cX9_isAct 239 = .ok (.iconst 1, 1) := by decide +kernel
theorem dX9_isAct_240 : decode cX9_isAct 240 = .ok (.goto 4, 3) := by decide +kernel
theorem dX9_isAct_243 : decode cX9_isAct 243 = .ok (.iconst 0, 1) := by decide +kernel
theorem dX9_isAct_244 : decode cX9_isAct 244 = .ok (.ireturn, 1) := by decide +kernel
theorem dX9_isAct_245 : decode cX9_isAct 245 = .ok (.iload_n 1, 1) := by decide +kernel
theorem dX9_isAct_246 : decode cX9_isAct 246 = .ok (.invokestatic 84, 3) := by decide +kernel
theorem dX9_isAct_249 : decode cX9_isAct 249 = .ok (.ifCond .eq 21, 3) := by decide +kernel
theorem dX9_isAct_252 : decode cX9_isAct 252 = .ok (.iload_n 2, 1) := by decide +kernel
theorem dX9_isAct_253 : decode cX9_isAct 253 = .ok (.invokestatic 84, 3) := by decide +kernel
theorem dX9_isAct_256 : decode cX9_isAct 256 = .ok (.ifCond .eq 14, 3) := by decide +kernel
theorem dX9_isAct_259 : decode cX9_isAct 259 = .ok (.iload_n 3, 1) := by decide +kernel
theorem dX9_isAct_260 : decode cX9_isAct 260 = .ok (.invokestatic 84, 3) := by decide +kernel
theorem dX9_isAct_263 : decode cX9_isAct 263 = .ok (.ifCond .eq 7, 3) := by decide +kernel
theorem dX9_isAct_266 : decode cX9_isAct 266 = .ok (.iconst 1, 1) := by decide +kernel
theorem dX9_isAct_267 : decode cX9_isAct 267 = .ok (.goto 4, 3) := by decide +kernel
theorem dX9_isAct_270 : decode cX9_isAct 270 = .ok (.iconst 0, 1) := by decide +kernel
theorem dX9_isAct_271 : decode cX9_isAct 271 = .ok (.ireturn, 1) := by decide +kernel
theorem dX9_isAct_272 : decode cX9_isAct 272 = .ok (.iload_n 1, 1) := by decide +kernel
theorem dX9_isAct_273 : decode cX9_isAct 273 = .ok (.invokestatic 88, 3) := by decide +kernel
theorem dX9_isAct_276 : decode cX9_isAct 276 = .ok (.ifCond .eq 14, 3) := by decide +kernel
theorem dX9_isAct_279 : decode cX9_isAct 279 = .ok (.iload_n 2, 1) := by decide +kernel
theorem dX9_isAct_280 : decode cX9_isAct 280 = .ok (.invokestatic 94, 3) := by decide +kernel
theorem dX9_isAct_283 : decode cX9_isAct 283 = .ok (.ifCond .eq 7, 3) := by decide +kernel
theorem dX9_isAct_286 : decode cX9_isAct 286 = .ok (.iconst 1, 1) := by decide +kernel
theorem dX9_isAct_287 : decode cX9_isAct 287 = .ok (.goto 4, 3) := by decide +kernel
theorem dX9_isAct_290 : decode cX9_isAct 290 = .ok (.iconst 0, 1) := by decide +kernel
theorem dX9_isAct_291 : decode cX9_isAct 291 = .ok (.ireturn, 1) := by decide +kernel
theorem dX9_isAct_292 : decode cX9_isAct 292 = .ok (.iconst 1, 1) := by decide +kernel
theorem dX9_isAct_293 : decode cX9_isAct 293 = .ok (.ireturn, 1) := by decide +kernel
theorem dX9_isAct_294 : decode cX9_isAct 294 = .ok (.iload_n 1, 1) := by decide +kernel
theorem dX9_isAct_295 : decode cX9_isAct 295 = .ok (.invokestatic 84, 3) := by decide +kernel
theorem dX9_isAct_298 : decode cX9_isAct 298 = .ok (.ireturn, 1) := by decide +kernel
theorem dX9_isAct_299 : decode cX9_isAct 299 = .ok (.iload_n 1, 1) := by decide +kernel
theorem dX9_isAct_300 : decode cX9_isAct 300 = .ok (.invokestatic 91, 3) := by decide +kernel
theorem dX9_isAct_303 : decode cX9_isAct 303 = .ok (.ifCond .eq 14, 3) := by decide +kernel
theorem dX9_isAct_306 : decode cX9_isAct 306 = .ok (.iload_n 2, 1) := by decide +kernel
theorem dX9_isAct_307 : decode cX9_isAct 307 = .ok (.invokestatic 84, 3) := by decide +kernel
theorem dX9_isAct_310 : decode cX9_isAct 310 = .ok (.ifCond .eq 7, 3) := by decide +kernel
theorem dX9_isAct_313 : decode cX9_isAct 313 = .ok (.iconst 1, 1) := by decide +kernel
theorem dX9_isAct_314 : decode cX9_isAct 314 = .ok (.goto 4, 3) := by decide +kernel
theorem dX9_isAct_317 : decode cX9_isAct 317 = .ok (.iconst 0, 1) := by decide +kernel
theorem dX9_isAct_318 : decode cX9_isAct 318 = .ok (.ireturn, 1) := by decide +kernel
theorem dX9_isAct_319 : decode cX9_isAct 319 = .ok (.iload_n 1, 1) := by decide +kernel
theorem dX9_isAct_320 : decode cX9_isAct 320 = .ok (.invokestatic 84, 3) := by decide +kernel
theorem dX9_isAct_323 : decode cX9_isAct 323 = .ok (.ifCond .eq 14, 3) := by decide +kernel
theorem dX9_isAct_326 : decode cX9_isAct 326 = .ok (.iload_n 2, 1) := by decide +kernel
theorem dX9_isAct_327 : decode cX9_isAct 327 = .ok (.invokestatic 94, 3) := by decide +kernel
theorem dX9_isAct_330 : decode cX9_isAct 330 = .ok (.ifCond .eq 7, 3) := by decide +kernel
theorem dX9_isAct_333 : decode cX9_isAct 333 = .ok (.iconst 1, 1) := by decide +kernel
theorem dX9_isAct_334 : decode cX9_isAct 334 = .ok (.goto 4, 3) := by decide +kernel
theorem dX9_isAct_337 : decode cX9_isAct 337 = .ok (.iconst 0, 1) := by decide +kernel
theorem dX9_isAct_338 : decode cX9_isAct 338 = .ok (.ireturn, 1) := by decide +kernel
theorem dX9_isAct_339 : decode cX9_isAct 339 = .ok (.iload_n 1, 1) := by decide +kernel
theorem dX9_isAct_340 : decode cX9_isAct 340 = .ok (.invokestatic 84, 3) := by decide +kernel
theorem dX9_isAct_343 : decode cX9_isAct 343 = .ok (.ifCond .eq 14, 3) := by decide +kernel
theorem dX9_isAct_346 : decode cX9_isAct 346 = .ok (.iload_n 2, 1) := by decide +kernel
theorem dX9_isAct_347 : decode cX9_isAct 347 = .ok (.invokestatic 84, 3) := by decide +kernel
theorem dX9_isAct_350 : decode cX9_isAct 350 = .ok (.ifCond .eq 7, 3) := by decide +kernel
theorem dX9_isAct_353 : decode cX9_isAct 353 = .ok (.iconst 1, 1) := by decide +kernel
theorem dX9_isAct_354 : decode cX9_isAct 354 = .ok (.goto 4, 3) := by decide +kernel
theorem dX9_isAct_357 : decode cX9_isAct 357 = .ok (.iconst 0, 1) := by decide +kernel
theorem dX9_isAct_358 : decode cX9_isAct 358 = .ok (.ireturn, 1) := by decide +kernel
theorem dX9_isAct_359 : decode cX9_isAct 359 = .ok (.iload_n 1, 1) := by decide +kernel
theorem dX9_isAct_360 : decode cX9_isAct 360 = .ok (.invokestatic 84, 3) := by decide +kernel
theorem dX9_isAct_363 : decode cX9_isAct 363 = .ok (.ifCond .eq 14, 3) := by decide +kernel
theorem dX9_isAct_366 : decode cX9_isAct 366 = .ok (.iload_n 2, 1) := by decide +kernel
theorem dX9_isAct_367 : decode cX9_isAct 367 = .ok (.invokestatic 91, 3) := by decide +kernel
theorem dX9_isAct_370 : decode cX9_isAct 370 = .ok (.ifCond .eq 7, 3) := by decide +kernel
theorem dX9_isAct_373 : decode cX9_isAct 373 = .ok (.iconst 1, 1) := by decide +kernel
theorem dX9_isAct_374 : decode cX9_isAct 374 = .ok (.goto 4, 3) := by decide +kernel
theorem dX9_isAct_377 : decode cX9_isAct 377 = .ok (.iconst 0, 1) := by decide +kernel
theorem dX9_isAct_378 : decode cX9_isAct 378 = .ok (.ireturn, 1) := by decide +kernel
theorem dX9_isAct_379 : decode cX9_isAct 379 = .ok (.iload_n 1, 1) := by decide +kernel
theorem dX9_isAct_380 : decode cX9_isAct 380 = .ok (.i2l, 1) := by decide +kernel
theorem dX9_isAct_381 : decode cX9_isAct 381 = .ok (.lconst 0, 1) := by decide +kernel
theorem dX9_isAct_382 : decode cX9_isAct 382 = .ok (.ldc2_w 97, 3) := by decide +kernel
theorem dX9_isAct_385 : decode cX9_isAct 385 = .ok (.invokestatic 68, 3) := by decide +kernel
theorem dX9_isAct_388 : decode cX9_isAct 388 = .ok (.ireturn, 1) := by decide +kernel
theorem dX9_isAct_389 : decode cX9_isAct 389 = .ok (.iload_n 1, 1) := by decide +kernel
theorem dX9_isAct_390 : decode cX9_isAct 390 = .ok (.invokestatic 84, 3) := by decide +kernel
theorem dX9_isAct_393 : decode cX9_isAct 393 = .ok (.ifCond .eq 26, 3) := by decide +kernel
theorem dX9_isAct_396 : decode cX9_isAct 396 = .ok (.iload_n 2, 1) := by decide +kernel
theorem dX9_isAct_397 : decode cX9_isAct 397 = .ok (.invokestatic 84, 3) := by decide +kernel
theorem dX9_isAct_400 : decode cX9_isAct 400 = .ok (.ifCond .eq 19, 3) := by decide +kernel
theorem dX9_isAct_403 : decode cX9_isAct 403 = .ok (.iload_n 3, 1) := by decide +kernel
theorem dX9_isAct_404 : decode cX9_isAct 404 = .ok (.i2l, 1) := by decide +kernel
theorem dX9_isAct_405 : decode cX9_isAct 405 = .ok (.lconst 0, 1) := by decide +kernel
theorem dX9_isAct_406 : decode cX9_isAct 406 = .ok (.ldc2_w 97, 3) := by decide +kernel
theorem dX9_isAct_409 : decode cX9_isAct 409 = .ok (.invokestatic 68, 3) := by decide +kernel
theorem dX9_isAct_412 : decode cX9_isAct 412 = .ok (.ifCond .eq 7, 3) := by decide +kernel
theorem dX9_isAct_415 : decode cX9_isAct 415 = .ok (.iconst 1, 1) := by decide +kernel
theorem dX9_isAct_416 : decode cX9_isAct 416 = .ok (.goto 4, 3) := by decide +kernel
theorem dX9_isAct_419 : decode cX9_isAct 419 = .ok (.iconst 0, 1) := by decide +kernel
theorem dX9_isAct_420 : decode cX9_isAct 420 = .ok (.ireturn, 1) := by decide +kernel
theorem dX9_isAct_421 : decode cX9_isAct 421 = .ok (.iconst 0, 1) := by decide +kernel
theorem dX9_isAct_422 : decode cX9_isAct 422 = .ok (.ireturn, 1) := by decide +kernel
theorem dX9_isAlone_0 : decode cX9_isAlone 0 = .ok (.aload_n 0, 1) := by decide +kernel
theorem dX9_isAlone_1 : decode cX9_isAlone 1 = .ok (.iload_n 1, 1) := by decide +kernel
theorem dX9_isAlone_2 : decode cX9_isAlone 2 = .ok (.invokevirtual 352, 3) := by decide +kernel
theorem dX9_isAlone_5 : decode cX9_isAlone 5 = .ok (.iload_n 2, 1) := by decide +kernel
theorem dX9_isAlone_6 : decode cX9_isAlone 6 = .ok (.invokestatic 122, 3) := by decide +kernel
theorem dX9_isAlone_9 : decode cX9_isAlone 9 = .ok (.istore_n 3, 1) := by decide +kernel
theorem dX9_isAlone_10 : decode cX9_isAlone 10 = .ok (.aload_n 0, 1) := by decide +kernel
theorem dX9_isAlone_11 : decode cX9_isAlone 11 = .ok (.getfield 16, 3) := by decide +kernel
theorem dX9_isAlone_14 : decode cX9_isAlone 14 = .ok (.iload_n 3, 1) := by decide +kernel
theorem dX9_isAlone_15 : decode cX9_isAlone 15 = .ok (.iconst 1, 1) := by decide +kernel
theorem dX9_isAlone_16 : decode cX9_isAlone 16 = .ok (.iadd, 1) := by decide +kernel
theorem dX9_isAlone_17 : decode cX9_isAlone 17 = .ok (.iaload, 1) := by decide +kernel
theorem dX9_isAlone_18 : decode cX9_isAlone 18 = .ok (.ifCond .eq 14, 3) := by decide +kernel
theorem dX9_isAlone_21 : decode cX9_isAlone 21 = .ok (.aload_n 0, 1) := by decide +kernel
theorem dX9_isAlone_22 : decode cX9_isAlone 22 = .ok (.getfield 16, 3) := by decide +kernel
theorem dX9_isAlone_25 : decode cX9_isAlone 25 = .ok (.iload_n 3, 1) := by decide +kernel
theorem dX9_isAlone_26 : decode cX9_isAlone 26 = .ok (.iconst 3, 1) := by decide +kernel
theorem dX9_isAlone_27 : decode cX9_isAlone 27 = .ok (.iadd, 1) := by decide +kernel
theorem dX9_isAlone_28 : decode cX9_isAlone 28 = .ok (.iaload, 1) := by decide +kernel
theorem dX9_isAlone_29 : decode cX9_isAlone 29 = .ok (.ifCond .le 5, 3) := by decide +kernel
theorem dX9_isAlone_32 : decode cX9_isAlone 32 = .ok (.iconst 1, 1) := by decide +kernel
theorem dX9_isAlone_33 : decode cX9_isAlone 33 = .ok (.ireturn, 1) := by decide +kernel
theorem dX9_isAlone_34 : decode cX9_isAlone 34 = .ok (.iconst 0, 1) := by decide +kernel
theorem dX9_isAlone_35 : decode cX9_isAlone 35 = .ok (.istore 4, 2) := by decide +kernel
theorem dX9_isAlone_37 : decode cX9_isAlone 37 = .ok (.iconst 0, 1) := by decide +kernel
theorem dX9_isAlone_38 : decode cX9_isAlone 38 = .ok (.istore 5, 2) := by decide +kernel
theorem dX9_isAlone_40 : decode cX9_isAlone 40 = .ok (.iload 5, 2) := by decide +kernel
theorem dX9_isAlone_42 : decode cX9_isAlone 42 = .ok (.bipush 60, 2) := by decide +kernel
theorem dX9_isAlone_44 : decode cX9_isAlone 44 = .ok (.if_icmp .ge 44, 3) := by decide +kernel
theorem dX9_isAlone_47 : decode cX9_isAlone 47 = .ok (.iload 4, 2) := by decide +kernel
theorem dX9_isAlone_49 : decode cX9_isAlone 49 = .ok (.ifCond .ne 39, 3) := by decide +kernel
theorem dX9_isAlone_52 : decode cX9_isAlone 52 = .ok (.aload_n 0, 1) := by decide +kernel
theorem dX9_isAlone_53 : decode cX9_isAlone 53 = .ok (.iload_n 2, 1) := by decide +kernel
theorem dX9_isAlone_54 : decode cX9_isAlone 54 = .ok (.invokevirtual 246, 3) := by decide +kernel
theorem dX9_isAlone_57 : decode cX9_isAlone 57 = .ok (.aload_n 0, 1) := by decide +kernel
theorem dX9_isAlone_58 : decode cX9_isAlone 58 = .ok (.getfield 234, 3) := by decide +kernel
theorem dX9_isAlone_61 : decode cX9_isAlone 61 = .ok (.ifCond .ne 14, 3) := by decide +kernel
theorem dX9_isAlone_64 : decode cX9_isAlone 64 = .ok (.aload_n 0, 1) := by decide +kernel
theorem dX9_isAlone_65 : decode cX9_isAlone 65 = .ok (.getfield 16, 3) := by decide +kernel
theorem dX9_isAlone_68 : decode cX9_isAlone 68 = .ok (.iload_n 3, 1) := by decide +kernel
theorem dX9_isAlone_69 : decode cX9_isAlone 69 = .ok (.iconst 3, 1) := by decide +kernel
theorem dX9_isAlone_70 : decode cX9_isAlone 70 = .ok (.iadd, 1) := by decide +kernel
theorem dX9_isAlone_71 : decode cX9_isAlone 71 = .ok (.iaload, 1) := by decide +kernel
theorem dX9_isAlone_72 : decode cX9_isAlone 72 = .ok (.ifCond .le 7, 3) := by decide +kernel
theorem dX9_isAlone_75 : decode cX9_isAlone 75 = .ok (.iconst 1, 1) := by decide +kernel
theorem dX9_isAlone_76 : decode cX9_isAlone 76 = .ok (.goto 4, 3) := by decide +kernel
theorem dX9_isAlone_79 : decode cX9_isAlone 79 = .ok (.iconst 0, 1) := by decide +kernel
theorem dX9_isAlone_80 : decode cX9_isAlone 80 = .ok (.istore 4, 2) := by decide +kernel
theorem dX9_isAlone_82 : decode cX9_isAlone 82 = .ok (.iinc 5 1, 3) := by decide +kernel
theorem dX9_isAlone_85 : decode cX9_isAlone 85 = .ok (.goto (-45), 3) := by decide +kernel
theorem dX9_isAlone_88 : decode cX9_isAlone 88 = .ok (.iload 4, 2) := by decide +kernel
theorem dX9_isAlone_90 : decode cX9_isAlone 90 = .ok (.ireturn, 1) := by decide +kernel
theorem dX9_isBit_0 : decode cX9_isBit 0 = .ok (.iload_n 0, 1) := by decide +kernel
theorem dX9_isBit_1 : decode cX9_isBit 1 = .ok (.i2l, 1) := by decide +kernel
theorem dX9_isBit_2 : decode cX9_isBit 2 = .ok (.lconst 0, 1) := by decide +kernel
theorem dX9_isBit_3 : decode cX9_isBit 3 = .ok (.lconst 1, 1) := by decide +kernel
theorem dX9_isBit_4 : decode cX9_isBit 4 = .ok (.invokestatic 68, 3) := by decide +kernel
theorem dX9_isBit_7 : decode cX9_isBit 7 = .ok (.ireturn, 1) := by decide +kernel
theorem dX9_isCall_0 : decode cX9_isCall 0 = .ok (.iload_n 1, 1) := by decide +kernel
theorem dX9_isCall_1 : decode cX9_isCall 1 = .ok (.iconst 3, 1) := by decide +kernel
theorem dX9_isCall_2 : decode cX9_isCall 2 = .ok (.irem, 1) := by decide +kernel
theorem dX9_isCall_3 : decode cX9_isCall 3 = .ok (.aload_n 0, 1) := by decide +kernel
theorem dX9_isCall_4 : decode cX9_isCall 4 = .ok (.getfield 13, 3) := by decide +kernel
theorem dX9_isCall_7 : decode cX9_isCall 7 = .ok (.sipush 912, 3) := by decide +kernel
theorem dX9_isCall_10 : decode cX9_isCall 10 = .ok (.iload_n 1, 1) := by decide +kernel
theorem dX9_isCall_11 : decode cX9_isCall 11 = .ok (.iconst 3, 1) := by decide +kernel
theorem dX9_isCall_12 : decode cX9_isCall 12 = .ok (.idiv, 1) := by decide +kernel
theorem dX9_isCall_13 : decode cX9_isCall 13 = .ok (.iadd, 1) := by decide +kernel
theorem dX9_isCall_14 : decode cX9_isCall 14 = .ok (.iaload, 1) := by decide +kernel
theorem dX9_isCall_15 : decode cX9_isCall 15 = .ok (.if_icmp .ge 7, 3) := by decide +kernel
theorem dX9_isCall_18 : decode cX9_isCall 18 = .ok (.iconst 1, 1) := by decide +kernel
theorem dX9_isCall_19 : decode cX9_isCall 19 = .ok (.goto 4, 3) := by decide +kernel
theorem dX9_isCall_22 : decode cX9_isCall 22 = .ok (.iconst 0, 1) := by decide +kernel
theorem dX9_isCall_23 : decode cX9_isCall 23 = .ok (.ireturn, 1) := by decide +kernel
theorem dX9_isEnd_0 : decode cX9_isEnd 0 = .ok (.iconst 1, 1) := by decide +kernel
theorem dX9_isEnd_1 : decode cX9_isEnd 1 = .ok (.istore_n 1, 1) := by decide +kernel
theorem dX9_isEnd_2 : decode cX9_isEnd 2 = .ok (.iconst 0, 1) := by decide +kernel
theorem dX9_isEnd_3 : decode cX9_isEnd 3 = .ok (.istore_n 2, 1) := by decide +kernel
theorem dX9_isEnd_4 : decode cX9_isEnd 4 = .ok (.iload_n 2, 1) := by decide +kernel
theorem dX9_isEnd_5 : decode cX9_isEnd 5 = .ok (.bipush 6, 2) := by decide +kernel
theorem dX9_isEnd_7 : decode cX9_isEnd 7 = .ok (.if_icmp .ge 27, 3) := by decide +kernel
theorem dX9_isEnd_10 : decode cX9_isEnd 10 = .ok (.iload_n 1, 1) := by decide +kernel
theorem dX9_isEnd_11 : decode cX9_isEnd 11 = .ok (.ifCond .eq 15, 3) := by decide +kernel
theorem dX9_isEnd_14 : decode cX9_isEnd 14 = .ok (.aload_n 0, 1) := by decide +kernel
theorem dX9_isEnd_15 : decode cX9_isEnd 15 = .ok (.iload_n 2, 1) := by decide +kernel
theorem dX9_isEnd_16 : decode cX9_isEnd 16 = .ok (.invokevirtual 265, 3) := by decide +kernel
theorem dX9_isEnd_19 : decode cX9_isEnd 19 = .ok (.ifCond .ne 7, 3) := by decide +kernel
theorem dX9_isEnd_22 : decode cX9_isEnd 22 = .ok (.iconst 1, 1) := by decide +kernel
theorem dX9_isEnd_23 : decode cX9_isEnd 23 = .ok (.goto 4, 3) := by decide +kernel
theorem dX9_isEnd_26 : decode cX9_isEnd 26 = .ok (.iconst 0, 1) := by decide +kernel
theorem dX9_isEnd_27 : decode cX9_isEnd 27 = .ok (.istore_n 1, 1) := by decide +kernel
theorem dX9_isEnd_28 : decode cX9_isEnd 28 = .ok (.iinc 2 1, 3) := by decide +kernel
theorem dX9_isEnd_31 : decode cX9_isEnd 31 = .ok (.goto (-27), 3) := by decide +kernel
theorem dX9_isEnd_34 : decode cX9_isEnd 34 = .ok (.iload_n 1, 1) := by decide +kernel
theorem dX9_isEnd_35 : decode cX9_isEnd 35 = .ok (.ireturn, 1) := by decide +kernel
theorem dX9_isFree_0 : decode cX9_isFree 0 = .ok (.aload_n 0, 1) := by decide +kernel
theorem dX9_isFree_1 : decode cX9_isFree 1 = .ok (.getfield 16, 3) := by decide +kernel
theorem dX9_isFree_4 : decode cX9_isFree 4 = .ok (.bipush 20, 2) := by decide +kernel
theorem dX9_isFree_6 : decode cX9_isFree 6 = .ok (.aload_n 0, 1) := by decide +kernel
theorem dX9_isFree_7 : decode cX9_isFree 7 = .ok (.iload_n 1, 1) := by decide +kernel
theorem dX9_isFree_8 : decode cX9_isFree 8 = .ok (.iload_n 2, 1) := by decide +kernel
theorem dX9_isFree_9 : decode cX9_isFree 9 = .ok (.invokevirtual 167, 3) := by decide +kernel
theorem dX9_isFree_12 : decode cX9_isFree 12 = .ok (.invokestatic 183, 3) := by decide +kernel
theorem dX9_isFree_15 : decode cX9_isFree 15 = .ok (.iadd, 1) := by decide +kernel
theorem dX9_isFree_16 : decode cX9_isFree 16 = .ok (.iaload, 1) := by decide +kernel
theorem dX9_isFree_17 : decode cX9_isFree 17 = .ok (.ifCond .ne 7, 3) := by decide +kernel
theorem dX9_isFree_20 : decode cX9_isFree 20 = .ok (.iconst 1, 1) := by decide +kernel
theorem dX9_isFree_21 : decode cX9_isFree 21 = .ok (.goto 4, 3) := by decide +kernel
theorem dX9_isFree_24 : decode cX9_isFree 24 = .ok (.iconst 0, 1) := by decide +kernel
theorem dX9_isFree_25 : decode cX9_isFree 25 = .ok (.ireturn, 1) := by decide +kernel
theorem dX9_isGlobal_0 : decode cX9_isGlobal 0 = .ok (.iload_n 0, 1) := by decide +kernel
theorem dX9_isGlobal_1 : decode cX9_isGlobal 1 = .ok (.i2l, 1) := by decide +kernel
theorem dX9_isGlobal_2 : decode cX9_isGlobal 2 = .ok (.lconst 0, 1) := by decide +kernel
theorem dX9_isGlobal_3 : decode cX9_isGlobal 3 = .ok (.ldc2_w 78, 3) := by decide +kernel
theorem dX9_isGlobal_6 : decode cX9_isGlobal 6 = .ok (.invokestatic 68, 3) := by decide +kernel
theorem dX9_isGlobal_9 : decode cX9_isGlobal 9 = .ok (.ireturn, 1) := by decide +kernel
theorem dX9_isGuarded_0 : decode cX9_isGuarded 0 = .ok (.iconst 0, 1) := by decide +kernel
theorem dX9_isGuarded_1 : decode cX9_isGuarded 1 = .ok (.istore_n 2, 1) := by decide +kernel
theorem dX9_isGuarded_2 : decode cX9_isGuarded 2 = .ok (.iconst 0, 1) := by decide +kernel
theorem dX9_isGuarded_3 : decode cX9_isGuarded 3 = .ok (.istore_n 3, 1) := by decide +kernel
theorem dX9_isGuarded_4 : decode cX9_isGuarded 4 = .ok (.iload_n 3, 1) := by decide +kernel
theorem dX9_isGuarded_5 : decode cX9_isGuarded 5 = .ok (.iconst 3, 1) := by decide +kernel
theorem dX9_isGuarded_6 : decode cX9_isGuarded 6 = .ok (.if_icmp .ge 55, 3) := by decide +kernel
theorem dX9_isGuarded_9 : decode cX9_isGuarded 9 = .ok (.iload_n 2, 1) := by decide +kernel
theorem dX9_isGuarded_10 : decode cX9_isGuarded 10 = .ok (.ifCond .ne 39, 3) := by decide +kernel
theorem dX9_isGuarded_13 : decode cX9_isGuarded 13 = .ok (.aload_n 0, 1) := by decide +kernel
theorem dX9_isGuarded_14 : decode cX9_isGuarded 14 = .ok (.getfield 16, 3) := by decide +kernel
theorem dX9_isGuarded_17 : decode cX9_isGuarded 17 = .ok (.iload_n 3, 1) := by decide +kernel
theorem dX9_isGuarded_18 : decode cX9_isGuarded 18 = .ok (.invokestatic 122, 3) := by decide +kernel
theorem dX9_isGuarded_21 : decode cX9_isGuarded 21 = .ok (.iconst 5, 1) := by decide +kernel
theorem dX9_isGuarded_22 : decode cX9_isGuarded 22 = .ok (.iadd, 1) := by decide +kernel
theorem dX9_isGuarded_23 : decode cX9_isGuarded 23 = .ok (.iaload, 1) := by decide +kernel
theorem dX9_isGuarded_24 : decode cX9_isGuarded 24 = .ok (.iload_n 1, 1) := by decide +kernel
theorem dX9_isGuarded_25 : decode cX9_isGuarded 25 = .ok (.iconst 1, 1) := by decide +kernel
theorem dX9_isGuarded_26 : decode cX9_isGuarded 26 = .ok (.iadd, 1) := by decide +kernel
theorem dX9_isGuarded_27 : decode cX9_isGuarded 27 = .ok (.if_icmp .eq 22, 3) := by decide +kernel
theorem dX9_isGuarded_30 : decode cX9_isGuarded 30 = .ok (.aload_n 0, 1) := by decide +kernel
theorem dX9_isGuarded_31 : decode cX9_isGuarded 31 = .ok (.getfield 16, 3) := by decide +kernel
theorem dX9_isGuarded_34 : decode cX9_isGuarded 34 = .ok (.iload_n 3, 1) := by decide +kernel
theorem dX9_isGuarded_35 : decode cX9_isGuarded 35 = .ok (.invokestatic 122, 3) := by decide +kernel
theorem dX9_isGuarded_38 : decode cX9_isGuarded 38 = .ok (.iconst 5, 1) := by decide +kernel
theorem dX9_isGuarded_39 : decode cX9_isGuarded 39 = .ok (.iadd, 1) := by decide +kernel
theorem dX9_isGuarded_40 : decode cX9_isGuarded 40 = .ok (.iconst 1, 1) := by decide +kernel
theorem dX9_isGuarded_41 : decode cX9_isGuarded 41 = .ok (.iadd, 1) := by decide +kernel
theorem dX9_isGuarded_42 : decode cX9_isGuarded 42 = .ok (.iaload, 1) := by decide +kernel
theorem dX9_isGuarded_43 : decode cX9_isGuarded 43 = .ok (.iload_n 1, 1) := by decide +kernel
theorem dX9_isGuarded_44 : decode cX9_isGuarded 44 = .ok (.iconst 1, 1) := by decide +kernel
theorem dX9_isGuarded_45 : decode cX9_isGuarded 45 = .ok (.iadd, 1) := by decide +kernel
theorem dX9_isGuarded_46 : decode cX9_isGuarded 46 = .ok (.if_icmp .ne 7, 3) := by decide +kernel
theorem dX9_isGuarded_49 : decode cX9_isGuarded 49 = .ok (.iconst 1, 1) := by decide +kernel
theorem dX9_isGuarded_50 : decode cX9_isGuarded 50 = .ok (.goto 4, 3) := by decide +kernel
theorem dX9_isGuarded_53 : decode cX9_isGuarded 53 = .ok (.iconst 0, 1) := by decide +kernel
theorem dX9_isGuarded_54 : decode cX9_isGuarded 54 = .ok (.istore_n 2, 1) := by decide +kernel
theorem dX9_isGuarded_55 : decode cX9_isGuarded 55 = .ok (.iinc 3 1, 3) := by decide +kernel
theorem dX9_isGuarded_58 : decode cX9_isGuarded 58 = .ok (.goto (-54), 3) := by decide +kernel
theorem dX9_isGuarded_61 : decode cX9_isGuarded 61 = .ok (.iload_n 2, 1) := by decide +kernel
theorem dX9_isGuarded_62 : decode cX9_isGuarded 62 = .ok (.ireturn, 1) := by decide +kernel
theorem dX9_isInRing_0 : decode cX9_isInRing 0 = .ok (.iconst 0, 1) := by decide +kernel
theorem dX9_isInRing_1 : decode cX9_isInRing 1 = .ok (.istore_n 2, 1) := by decide +kernel
theorem dX9_isInRing_2 : decode cX9_isInRing 2 = .ok (.iload_n 2, 1) := by decide +kernel
theorem dX9_isInRing_3 : decode cX9_isInRing 3 = .ok (.aload_n 0, 1) := by decide +kernel
theorem dX9_isInRing_4 : decode cX9_isInRing 4 = .ok (.getfield 328, 3) := by decide +kernel
theorem dX9_isInRing_7 : decode cX9_isInRing 7 = .ok (.if_icmp .ge 16, 3) := by decide +kernel
theorem dX9_isInRing_10 : decode cX9_isInRing 10 = .ok (.aload_n 0, 1) := by decide +kernel
theorem dX9_isInRing_11 : decode cX9_isInRing 11 = .ok (.getfield 60, 3) := by decide +kernel
theorem dX9_isInRing_14 : decode cX9_isInRing 14 = .ok (.iload_n 2, 1) := by decide +kernel
theorem dX9_isInRing_15 : decode cX9_isInRing 15 = .ok (.iconst 0, 1) := by decide +kernel
theorem dX9_isInRing_16 : decode cX9_isInRing 16 = .ok (.bastore, 1) := by decide +kernel
theorem dX9_isInRing_17 : decode cX9_isInRing 17 = .ok (.iinc 2 1, 3) := by decide +kernel
theorem dX9_isInRing_20 : decode cX9_isInRing 20 = .ok (.goto (-18), 3) := by decide +kernel
theorem dX9_isInRing_23 : decode cX9_isInRing 23 = .ok (.iconst 1, 1) := by decide +kernel
theorem dX9_isInRing_24 : decode cX9_isInRing 24 = .ok (.istore_n 2, 1) := by decide +kernel
theorem dX9_isInRing_25 : decode cX9_isInRing 25 = .ok (.aload_n 0, 1) := by decide +kernel
theorem dX9_isInRing_26 : decode cX9_isInRing 26 = .ok (.getfield 63, 3) := by decide +kernel
theorem dX9_isInRing_29 : decode cX9_isInRing 29 = .ok (.iconst 0, 1) := by decide +kernel
theorem dX9_isInRing_30 : decode cX9_isInRing 30 = .ok (.iload_n 1, 1) := by decide +kernel
theorem dX9_isInRing_31 : decode cX9_isInRing 31 = .ok (.iastore, 1) := by decide +kernel
theorem dX9_isInRing_32 : decode cX9_isInRing 32 = .ok (.iconst 0, 1) := by decide +kernel
theorem dX9_isInRing_33 : decode cX9_isInRing 33 = .ok (.istore_n 3, 1) := by decide +kernel
theorem dX9_isInRing_34 : decode cX9_isInRing 34 = .ok (.iload_n 3, 1) := by decide +kernel
theorem dX9_isInRing_35 : decode cX9_isInRing 35 = .ok (.iload_n 2, 1) := by decide +kernel
theorem dX9_isInRing_36 : decode cX9_isInRing 36 = .ok (.if_icmp .ge 116, 3) := by decide +kernel
theorem dX9_isInRing_39 : decode cX9_isInRing 39 = .ok (.iconst 0, 1) := by decide +kernel
theorem dX9_isInRing_40 : decode cX9_isInRing 40 = .ok (.istore 4, 2) := by decide +kernel
theorem dX9_isInRing_42 : decode cX9_isInRing 42 = .ok (.iload 4, 2) := by decide +kernel
theorem dX9_isInRing_44 : decode cX9_isInRing 44 = .ok (.bipush 6, 2) := by decide +kernel
theorem dX9_isInRing_46 : decode cX9_isInRing 46 = .ok (.if_icmp .ge 100, 3) := by decide +kernel
theorem dX9_isInRing_49 : decode cX9_isInRing 49 = .ok (.bipush 6, 2) := by decide +kernel
theorem dX9_isInRing_51 : decode cX9_isInRing 51 = .ok (.aload_n 0, 1) := by decide +kernel
theorem dX9_isInRing_52 : decode cX9_isInRing 52 = .ok (.getfield 63, 3) := by decide +kernel
theorem dX9_isInRing_55 : decode cX9_isInRing 55 = .ok (.iload_n 3, 1) := by decide +kernel
theorem dX9_isInRing_56 : decode cX9_isInRing 56 = .ok (.iaload, 1) := by decide +kernel
theorem dX9_isInRing_57 : decode cX9_isInRing 57 = .ok (.imul, 1) := by decide +kernel
theorem dX9_isInRing_58 : decode cX9_isInRing 58 = .ok (.iload 4, 2) := by decide +kernel
theorem dX9_isInRing_60 : decode cX9_isInRing 60 = .ok (.iadd, 1) := by decide +kernel
theorem dX9_isInRing_61 : decode cX9_isInRing 61 = .ok (.istore 5, 2) := by decide +kernel
theorem dX9_isInRing_63 : decode cX9_isInRing 63 = .ok (.aload_n 0, 1) := by decide +kernel
theorem dX9_isInRing_64 : decode cX9_isInRing 64 = .ok (.getfield 41, 3) := by decide +kernel
theorem dX9_isInRing_67 : decode cX9_isInRing 67 = .ok (.iload 5, 2) := by decide +kernel
theorem dX9_isInRing_69 : decode cX9_isInRing 69 = .ok (.iaload, 1) := by decide +kernel
theorem dX9_isInRing_70 : decode cX9_isInRing 70 = .ok (.ifCond .lt 70, 3) := by decide +kernel
theorem dX9_isInRing_73 : decode cX9_isInRing 73 = .ok (.aload_n 0, 1) := by decide +kernel
theorem dX9_isInRing_74 : decode cX9_isInRing 74 = .ok (.getfield 44, 3) := by decide +kernel
theorem dX9_isInRing_77 : decode cX9_isInRing 77 = .ok (.iload 5, 2) := by decide +kernel
theorem dX9_isInRing_79 : decode cX9_isInRing 79 = .ok (.baload, 1) := by decide +kernel
theorem dX9_isInRing_80 : decode cX9_isInRing 80 = .ok (.ifCond .ne 60, 3) := by decide +kernel
theorem dX9_isInRing_83 : decode cX9_isInRing 83 = .ok (.aload_n 0, 1) := by decide +kernel
theorem dX9_isInRing_84 : decode cX9_isInRing 84 = .ok (.getfield 41, 3) := by decide +kernel
theorem dX9_isInRing_87 : decode cX9_isInRing 87 = .ok (.iload 5, 2) := by decide +kernel
theorem dX9_isInRing_89 : decode cX9_isInRing 89 = .ok (.iaload, 1) := by decide +kernel
theorem dX9_isInRing_90 : decode cX9_isInRing 90 = .ok (.iload_n 1, 1) := by decide +kernel
theorem dX9_isInRing_91 : decode cX9_isInRing 91 = .ok (.if_icmp .ne 5, 3) := by decide +kernel
theorem dX9_isInRing_94 : decode cX9_isInRing 94 = .ok (.iconst 1, 1) := by decide +kernel
theorem dX9_isInRing_95 : decode cX9_isInRing 95 = .ok (.ireturn, 1) := by decide +kernel
theorem dX9_isInRing_96 : decode cX9_isInRing 96 = .ok (.aload_n 0, 1) := by decide +kernel
theorem dX9_isInRing_97 : decode cX9_isInRing 97 = .ok (.getfield 60, 3) := by decide +kernel
theorem dX9_isInRing_100 : decode cX9_isInRing 100 = .ok (.aload_n 0, 1) := by decide +kernel
theorem dX9_isInRing_101 : decode cX9_isInRing 101 = .ok (.getfield 41, 3) := by decide +kernel
theorem dX9_isInRing_104 : decode cX9_isInRing 104 = .ok (.iload 5, 2) := by decide +kernel
theorem dX9_isInRing_106 : decode cX9_isInRing 106 = .ok (.iaload, 1) := by decide +kernel
theorem dX9_isInRing_107 : decode cX9_isInRing 107 = .ok (.baload, 1) := by decide +kernel
theorem dX9_isInRing_108 : decode cX9_isInRing 108 = .ok (.ifCond .ne 32, 3) := by decide +kernel
theorem dX9_isInRing_111 : decode cX9_isInRing 111 = .ok (.aload_n 0, 1) := by decide +kernel
theorem dX9_isInRing_112 : decode cX9_isInRing 112 = .ok (.getfield 60, 3) := by decide +kernel
theorem dX9_isInRing_115 : decode cX9_isInRing 115 = .ok (.aload_n 0, 1) := by decide +kernel
theorem dX9_isInRing_116 : decode cX9_isInRing 116 = .ok (.getfield 41, 3) := by decide +kernel
theorem dX9_isInRing_119 : decode cX9_isInRing 119 = .ok (.iload 5, 2) := by decide +kernel
theorem dX9_isInRing_121 : decode cX9_isInRing 121 = .ok (.iaload, 1) := by decide +kernel
theorem dX9_isInRing_122 : decode cX9_isInRing 122 = .ok (.iconst 1, 1) := by decide +kernel
theorem dX9_isInRing_123 : decode cX9_isInRing 123 = .ok (.bastore, 1) := by decide +kernel
theorem dX9_isInRing_124 : decode cX9_isInRing 124 = .ok (.aload_n 0, 1) := by decide +kernel
theorem dX9_isInRing_125 : decode cX9_isInRing 125 = .ok (.getfield 63, 3) := by decide +kernel
theorem dX9_isInRing_128 : decode cX9_isInRing 128 = .ok (.iload_n 2, 1) := by decide +kernel
theorem dX9_isInRing_129 : decode cX9_isInRing 129 = .ok (.aload_n 0, 1) := by decide +kernel
theorem dX9_isInRing_130 : decode cX9_isInRing 130 = .ok (.getfield 41, 3) := by decide +kernel
theorem dX9_isInRing_133 : decode cX9_isInRing 133 = .ok (.iload 5, 2) := by decide +kernel
theorem dX9_isInRing_135 : decode cX9_isInRing 135 = .ok (.iaload, 1) := by decide +kernel
theorem dX9_isInRing_136 : decode cX9_isInRing 136 = .ok (.iastore, 1) := by decide +kernel
theorem dX9_isInRing_137 : decode cX9_isInRing 137 = .ok (.iinc 2 1, 3) := by decide +kernel
theorem dX9_isInRing_140 : decode cX9_isInRing 140 = .ok (.iinc 4 1, 3) := by decide +kernel
theorem dX9_isInRing_143 : decode cX9_isInRing 143 = .ok (.goto (-101), 3) := by decide +kernel
theorem dX9_isInRing_146 : decode cX9_isInRing 146 = .ok (.iinc 3 1, 3) := by decide +kernel
theorem dX9_isInRing_149 : decode cX9_isInRing 149 = .ok (.goto (-115), 3) := by decide +kernel
theorem dX9_isInRing_152 : decode cX9_isInRing 152 = .ok (.iconst 0, 1) := by decide +kernel
theorem dX9_isInRing_153 : decode cX9_isInRing 153 = .ok (.ireturn, 1) := by decide +kernel
theorem dX9_isLate_0 : decode cX9_isLate 0 = .ok (.aload_n 0, 1) := by decide +kernel
theorem dX9_isLate_1 : decode cX9_isLate 1 = .ok (.getfield 13, 3) := by decide +kernel
theorem dX9_isLate_4 : decode cX9_isLate 4 = .ok (.sipush 949, 3) := by decide +kernel
theorem dX9_isLate_7 : decode cX9_isLate 7 = .ok (.iaload, 1) := by decide +kernel
theorem dX9_isLate_8 : decode cX9_isLate 8 = .ok (.iconst 1, 1) := by decide +kernel
theorem dX9_isLate_9 : decode cX9_isLate 9 = .ok (.if_icmp .ne 14, 3) := by decide +kernel
theorem dX9_isLate_12 : decode cX9_isLate 12 = .ok (.aload_n 0, 1) := by decide +kernel
theorem dX9_isLate_13 : decode cX9_isLate 13 = .ok (.getfield 133, 3) := by decide +kernel
theorem dX9_isLate_16 : decode cX9_isLate 16 = .ok (.ifCond .ne 7, 3) := by decide +kernel
theorem dX9_isLate_19 : decode cX9_isLate 19 = .ok (.iconst 1, 1) := by decide +kernel
theorem dX9_isLate_20 : decode cX9_isLate 20 = .ok (.goto 4, 3) := by decide +kernel
theorem dX9_isLate_23 : decode cX9_isLate 23 = .ok (.iconst 0, 1) := by decide +kernel
theorem dX9_isLate_24 : decode cX9_isLate 24 = .ok (.ireturn, 1) := by decide +kernel
theorem dX9_isLocal_0 : decode cX9_isLocal 0 = .ok (.iload_n 0, 1) := by decide +kernel
theorem dX9_isLocal_1 : decode cX9_isLocal 1 = .ok (.i2l, 1) := by decide +kernel
theorem dX9_isLocal_2 : decode cX9_isLocal 2 = .ok (.lconst 0, 1) := by decide +kernel
theorem dX9_isLocal_3 : decode cX9_isLocal 3 = .ok (.ldc2_w 76, 3) := by decide +kernel
theorem dX9_isLocal_6 : decode cX9_isLocal 6 = .ok (.invokestatic 68, 3) := by decide +kernel
theorem dX9_isLocal_9 : decode cX9_isLocal 9 = .ok (.ireturn, 1) := by decide +kernel
theorem dX9_isNumber_0 : decode cX9_isNumber 0 = .ok (.iload_n 0, 1) := by decide +kernel
theorem dX9_isNumber_1 : decode cX9_isNumber 1 = .ok (.i2l, 1) := by decide +kernel
theorem dX9_isNumber_2 : decode cX9_isNumber 2 = .ok (.ldc2_w 80, 3) := by decide +kernel
theorem dX9_isNumber_5 : decode cX9_isNumber 5 = .ok (.ldc2_w 82, 3) := by decide +kernel
theorem dX9_isNumber_8 : decode cX9_isNumber 8 = .ok (.invokestatic 68, 3) := by decide +kernel
theorem dX9_isNumber_11 : decode cX9_isNumber 11 = .ok (.ireturn, 1) := by decide +kernel
theorem dX9_isOwn_0 : decode cX9_isOwn 0 = .ok (.iload_n 0, 1) := by decide +kernel
theorem dX9_isOwn_1 : decode cX9_isOwn 1 = .ok (.i2l, 1) := by decide +kernel
theorem dX9_isOwn_2 : decode cX9_isOwn 2 = .ok (.ldc2_w 72, 3) := by decide +kernel
theorem dX9_isOwn_5 : decode cX9_isOwn 5 = .ok (.ldc2_w 74, 3) := by decide +kernel
theorem dX9_isOwn_8 : decode cX9_isOwn 8 = .ok (.invokestatic 68, 3) := by decide +kernel
theorem dX9_isOwn_11 : decode cX9_isOwn 11 = .ok (.ireturn, 1) := by decide +kernel
