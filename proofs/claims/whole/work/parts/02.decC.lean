theorem dX0_init_0 : decode cX0_init 0 = .ok (.aload_n 0, 1) := by decide +kernel
theorem dX0_init_1 : decode cX0_init 1 = .ok (.invokespecial 1, 3) := by decide +kernel
theorem dX0_init_4 : decode cX0_init 4 = .ok (.aload_n 0, 1) := by decide +kernel
theorem dX0_init_5 : decode cX0_init 5 = .ok (.iload_n 1, 1) := by decide +kernel
theorem dX0_init_6 : decode cX0_init 6 = .ok (.putfield 7, 3) := by decide +kernel
theorem dX0_init_9 : decode cX0_init 9 = .ok (.aload_n 0, 1) := by decide +kernel
theorem dX0_init_10 : decode cX0_init 10 = .ok (.iload_n 2, 1) := by decide +kernel
theorem dX0_init_11 : decode cX0_init 11 = .ok (.putfield 13, 3) := by decide +kernel
theorem dX0_init_14 : decode cX0_init 14 = .ok (.aload_n 0, 1) := by decide +kernel
theorem dX0_init_15 : decode cX0_init 15 = .ok (.iload_n 3, 1) := by decide +kernel
theorem dX0_init_16 : decode cX0_init 16 = .ok (.putfield 16, 3) := by decide +kernel
theorem dX0_init_19 : decode cX0_init 19 = .ok (.aload_n 0, 1) := by decide +kernel
theorem dX0_init_20 : decode cX0_init 20 = .ok (.aload 4, 2) := by decide +kernel
theorem dX0_init_22 : decode cX0_init 22 = .ok (.putfield 19, 3) := by decide +kernel
theorem dX0_init_25 : decode cX0_init 25 = .ok (.return_, 1) := by decide +kernel
theorem dX1_init_0 : decode cX1_init 0 = .ok (.aload_n 0, 1) := by decide +kernel
theorem dX1_init_1 : decode cX1_init 1 = .ok (.invokespecial 3, 3) := by decide +kernel
theorem dX1_init_4 : decode cX1_init 4 = .ok (.aload_n 0, 1) := by decide +kernel
theorem dX1_init_5 : decode cX1_init 5 = .ok (.bipush 13, 2) := by decide +kernel
theorem dX1_init_7 : decode cX1_init 7 = .ok (.newarray .int, 2) := by decide +kernel
theorem dX1_init_9 : decode cX1_init 9 = .ok (.putfield 11, 3) := by decide +kernel
theorem dX1_init_12 : decode cX1_init 12 = .ok (.aload_n 0, 1) := by decide +kernel
theorem dX1_init_13 : decode cX1_init 13 = .ok (.bipush 40, 2) := by decide +kernel
theorem dX1_init_15 : decode cX1_init 15 = .ok (.newarray .int, 2) := by decide +kernel
theorem dX1_init_17 : decode cX1_init 17 = .ok (.putfield 17, 3) := by decide +kernel
theorem dX1_init_20 : decode cX1_init 20 = .ok (.return_, 1) := by decide +kernel
theorem dX1_turnTo_0 : decode cX1_turnTo 0 = .ok (.aload_n 1, 1) := by decide +kernel
theorem dX1_turnTo_1 : decode cX1_turnTo 1 = .ok (.iload_n 2, 1) := by decide +kernel
theorem dX1_turnTo_2 : decode cX1_turnTo 2 = .ok (.aload_n 0, 1) := by decide +kernel
theorem dX1_turnTo_3 : decode cX1_turnTo 3 = .ok (.getfield 11, 3) := by decide +kernel
theorem dX1_turnTo_6 : decode cX1_turnTo 6 = .ok (.invokevirtual 20, 3) := by decide +kernel
theorem dX1_turnTo_9 : decode cX1_turnTo 9 = .ok (.return_, 1) := by decide +kernel
theorem dX1_holds_0 : decode cX1_holds 0 = .ok (.aload_n 1, 1) := by decide +kernel
theorem dX1_holds_1 : decode cX1_holds 1 = .ok (.getfield 26, 3) := by decide +kernel
theorem dX1_holds_4 : decode cX1_holds 4 = .ok (.ifnonnull 5, 3) := by decide +kernel
theorem dX1_holds_7 : decode cX1_holds 7 = .ok (.iconst 1, 1) := by decide +kernel
theorem dX1_holds_8 : decode cX1_holds 8 = .ok (.ireturn, 1) := by decide +kernel
theorem dX1_holds_9 : decode cX1_holds 9 = .ok (.iconst 0, 1) := by decide +kernel
theorem dX1_holds_10 : decode cX1_holds 10 = .ok (.istore_n 2, 1) := by decide +kernel
theorem dX1_holds_11 : decode cX1_holds 11 = .ok (.iconst 0, 1) := by decide +kernel
theorem dX1_holds_12 : decode cX1_holds 12 = .ok (.istore_n 3, 1) := by decide +kernel
theorem dX1_holds_13 : decode cX1_holds 13 = .ok (.iload_n 3, 1) := by decide +kernel
theorem dX1_holds_14 : decode cX1_holds 14 = .ok (.aload_n 1, 1) := by decide +kernel
theorem dX1_holds_15 : decode cX1_holds 15 = .ok (.getfield 26, 3) := by decide +kernel
theorem dX1_holds_18 : decode cX1_holds 18 = .ok (.arraylength, 1) := by decide +kernel
theorem dX1_holds_19 : decode cX1_holds 19 = .ok (.if_icmp .ge 21, 3) := by decide +kernel
theorem dX1_holds_22 : decode cX1_holds 22 = .ok (.aload_n 0, 1) := by decide +kernel
theorem dX1_holds_23 : decode cX1_holds 23 = .ok (.aload_n 1, 1) := by decide +kernel
theorem dX1_holds_24 : decode cX1_holds 24 = .ok (.getfield 26, 3) := by decide +kernel
theorem dX1_holds_27 : decode cX1_holds 27 = .ok (.iload_n 3, 1) := by decide +kernel
theorem dX1_holds_28 : decode cX1_holds 28 = .ok (.iaload, 1) := by decide +kernel
theorem dX1_holds_29 : decode cX1_holds 29 = .ok (.iload_n 2, 1) := by decide +kernel
theorem dX1_holds_30 : decode cX1_holds 30 = .ok (.invokevirtual 31, 3) := by decide +kernel
theorem dX1_holds_33 : decode cX1_holds 33 = .ok (.istore_n 2, 1) := by decide +kernel
theorem dX1_holds_34 : decode cX1_holds 34 = .ok (.iinc 3 1, 3) := by decide +kernel
theorem dX1_holds_37 : decode cX1_holds 37 = .ok (.goto (-24), 3) := by decide +kernel
theorem dX1_holds_40 : decode cX1_holds 40 = .ok (.iload_n 2, 1) := by decide +kernel
theorem dX1_holds_41 : decode cX1_holds 41 = .ok (.ifCond .le 18, 3) := by decide +kernel
theorem dX1_holds_44 : decode cX1_holds 44 = .ok (.aload_n 0, 1) := by decide +kernel
theorem dX1_holds_45 : decode cX1_holds 45 = .ok (.getfield 17, 3) := by decide +kernel
theorem dX1_holds_48 : decode cX1_holds 48 = .ok (.iload_n 2, 1) := by decide +kernel
theorem dX1_holds_49 : decode cX1_holds 49 = .ok (.iconst 1, 1) := by decide +kernel
theorem dX1_holds_50 : decode cX1_holds 50 = .ok (.isub, 1) := by decide +kernel
theorem dX1_holds_51 : decode cX1_holds 51 = .ok (.iaload, 1) := by decide +kernel
theorem dX1_holds_52 : decode cX1_holds 52 = .ok (.ifCond .eq 7, 3) := by decide +kernel
theorem dX1_holds_55 : decode cX1_holds 55 = .ok (.iconst 1, 1) := by decide +kernel
theorem dX1_holds_56 : decode cX1_holds 56 = .ok (.goto 4, 3) := by decide +kernel
theorem dX1_holds_59 : decode cX1_holds 59 = .ok (.iconst 0, 1) := by decide +kernel
theorem dX1_holds_60 : decode cX1_holds 60 = .ok (.ireturn, 1) := by decide +kernel
theorem dX1_goOn_0 : decode cX1_goOn 0 = .ok (.iload_n 1, 1) := by decide +kernel
theorem dX1_goOn_1 : decode cX1_goOn 1 = .ok (.ifCond .ge 9, 3) := by decide +kernel
theorem dX1_goOn_4 : decode cX1_goOn 4 = .ok (.iload_n 1, 1) := by decide +kernel
theorem dX1_goOn_5 : decode cX1_goOn 5 = .ok (.bipush (-23), 2) := by decide +kernel
theorem dX1_goOn_7 : decode cX1_goOn 7 = .ok (.if_icmp .gt 26, 3) := by decide +kernel
theorem dX1_goOn_10 : decode cX1_goOn 10 = .ok (.iload_n 2, 1) := by decide +kernel
theorem dX1_goOn_11 : decode cX1_goOn 11 = .ok (.bipush 40, 2) := by decide +kernel
theorem dX1_goOn_13 : decode cX1_goOn 13 = .ok (.if_icmp .lt 5, 3) := by decide +kernel
theorem dX1_goOn_16 : decode cX1_goOn 16 = .ok (.iload_n 2, 1) := by decide +kernel
theorem dX1_goOn_17 : decode cX1_goOn 17 = .ok (.ireturn, 1) := by decide +kernel
theorem dX1_goOn_18 : decode cX1_goOn 18 = .ok (.aload_n 0, 1) := by decide +kernel
theorem dX1_goOn_19 : decode cX1_goOn 19 = .ok (.getfield 17, 3) := by decide +kernel
theorem dX1_goOn_22 : decode cX1_goOn 22 = .ok (.iload_n 2, 1) := by decide +kernel
theorem dX1_goOn_23 : decode cX1_goOn 23 = .ok (.aload_n 0, 1) := by decide +kernel
theorem dX1_goOn_24 : decode cX1_goOn 24 = .ok (.iload_n 1, 1) := by decide +kernel
theorem dX1_goOn_25 : decode cX1_goOn 25 = .ok (.invokevirtual 35, 3) := by decide +kernel
theorem dX1_goOn_28 : decode cX1_goOn 28 = .ok (.iastore, 1) := by decide +kernel
theorem dX1_goOn_29 : decode cX1_goOn 29 = .ok (.iload_n 2, 1) := by decide +kernel
theorem dX1_goOn_30 : decode cX1_goOn 30 = .ok (.iconst 1, 1) := by decide +kernel
theorem dX1_goOn_31 : decode cX1_goOn 31 = .ok (.iadd, 1) := by decide +kernel
theorem dX1_goOn_32 : decode cX1_goOn 32 = .ok (.ireturn, 1) := by decide +kernel
theorem dX1_goOn_33 : decode cX1_goOn 33 = .ok (.iload_n 1, 1) := by decide +kernel
theorem dX1_goOn_34 : decode cX1_goOn 34 = .ok (.bipush (-20), 2) := by decide +kernel
theorem dX1_goOn_36 : decode cX1_goOn 36 = .ok (.if_icmp .ne 27, 3) := by decide +kernel
theorem dX1_goOn_39 : decode cX1_goOn 39 = .ok (.iload_n 2, 1) := by decide +kernel
theorem dX1_goOn_40 : decode cX1_goOn 40 = .ok (.ifCond .le 21, 3) := by decide +kernel
theorem dX1_goOn_43 : decode cX1_goOn 43 = .ok (.aload_n 0, 1) := by decide +kernel
theorem dX1_goOn_44 : decode cX1_goOn 44 = .ok (.getfield 17, 3) := by decide +kernel
theorem dX1_goOn_47 : decode cX1_goOn 47 = .ok (.iload_n 2, 1) := by decide +kernel
theorem dX1_goOn_48 : decode cX1_goOn 48 = .ok (.iconst 1, 1) := by decide +kernel
theorem dX1_goOn_49 : decode cX1_goOn 49 = .ok (.isub, 1) := by decide +kernel
theorem dX1_goOn_50 : decode cX1_goOn 50 = .ok (.iconst 1, 1) := by decide +kernel
theorem dX1_goOn_51 : decode cX1_goOn 51 = .ok (.aload_n 0, 1) := by decide +kernel
theorem dX1_goOn_52 : decode cX1_goOn 52 = .ok (.getfield 17, 3) := by decide +kernel
theorem dX1_goOn_55 : decode cX1_goOn 55 = .ok (.iload_n 2, 1) := by decide +kernel
theorem dX1_goOn_56 : decode cX1_goOn 56 = .ok (.iconst 1, 1) := by decide +kernel
theorem dX1_goOn_57 : decode cX1_goOn 57 = .ok (.isub, 1) := by decide +kernel
theorem dX1_goOn_58 : decode cX1_goOn 58 = .ok (.iaload, 1) := by decide +kernel
theorem dX1_goOn_59 : decode cX1_goOn 59 = .ok (.isub, 1) := by decide +kernel
theorem dX1_goOn_60 : decode cX1_goOn 60 = .ok (.iastore, 1) := by decide +kernel
theorem dX1_goOn_61 : decode cX1_goOn 61 = .ok (.iload_n 2, 1) := by decide +kernel
theorem dX1_goOn_62 : decode cX1_goOn 62 = .ok (.ireturn, 1) := by decide +kernel
theorem dX1_goOn_63 : decode cX1_goOn 63 = .ok (.iload_n 2, 1) := by decide +kernel
theorem dX1_goOn_64 : decode cX1_goOn 64 = .ok (.iconst 2, 1) := by decide +kernel
theorem dX1_goOn_65 : decode cX1_goOn 65 = .ok (.if_icmp .ge 5, 3) := by decide +kernel
theorem dX1_goOn_68 : decode cX1_goOn 68 = .ok (.iload_n 2, 1) := by decide +kernel
theorem dX1_goOn_69 : decode cX1_goOn 69 = .ok (.ireturn, 1) := by decide +kernel
theorem dX1_goOn_70 : decode cX1_goOn 70 = .ok (.aload_n 0, 1) := by decide +kernel
theorem dX1_goOn_71 : decode cX1_goOn 71 = .ok (.getfield 17, 3) := by decide +kernel
theorem dX1_goOn_74 : decode cX1_goOn 74 = .ok (.iload_n 2, 1) := by decide +kernel
theorem dX1_goOn_75 : decode cX1_goOn 75 = .ok (.iconst 2, 1) := by decide +kernel
theorem dX1_goOn_76 : decode cX1_goOn 76 = .ok (.isub, 1) := by decide +kernel
theorem dX1_goOn_77 : decode cX1_goOn 77 = .ok (.iload_n 1, 1) := by decide +kernel
theorem dX1_goOn_78 : decode cX1_goOn 78 = .ok (.ineg, 1) := by decide +kernel
theorem dX1_goOn_79 : decode cX1_goOn 79 = .ok (.aload_n 0, 1) := by decide +kernel
theorem dX1_goOn_80 : decode cX1_goOn 80 = .ok (.getfield 17, 3) := by decide +kernel
theorem dX1_goOn_83 : decode cX1_goOn 83 = .ok (.iload_n 2, 1) := by decide +kernel
theorem dX1_goOn_84 : decode cX1_goOn 84 = .ok (.iconst 2, 1) := by decide +kernel
theorem dX1_goOn_85 : decode cX1_goOn 85 = .ok (.isub, 1) := by decide +kernel
theorem dX1_goOn_86 : decode cX1_goOn 86 = .ok (.iaload, 1) := by decide +kernel
theorem dX1_goOn_87 : decode cX1_goOn 87 = .ok (.aload_n 0, 1) := by decide +kernel
theorem dX1_goOn_88 : decode cX1_goOn 88 = .ok (.getfield 17, 3) := by decide +kernel
theorem dX1_goOn_91 : decode cX1_goOn 91 = .ok (.iload_n 2, 1) := by decide +kernel
theorem dX1_goOn_92 : decode cX1_goOn 92 = .ok (.iconst 1, 1) := by decide +kernel
theorem dX1_goOn_93 : decode cX1_goOn 93 = .ok (.isub, 1) := by decide +kernel
theorem dX1_goOn_94 : decode cX1_goOn 94 = .ok (.iaload, 1) := by decide +kernel
theorem dX1_goOn_95 : decode cX1_goOn 95 = .ok (.invokestatic 39, 3) := by decide +kernel
theorem dX1_goOn_98 : decode cX1_goOn 98 = .ok (.iastore, 1) := by decide +kernel
theorem dX1_goOn_99 : decode cX1_goOn 99 = .ok (.iload_n 2, 1) := by decide +kernel
theorem dX1_goOn_100 : decode cX1_goOn 100 = .ok (.iconst 1, 1) := by decide +kernel
theorem dX1_goOn_101 : decode cX1_goOn 101 = .ok (.isub, 1) := by decide +kernel
theorem dX1_goOn_102 : decode cX1_goOn 102 = .ok (.ireturn, 1) := by decide +kernel
theorem dX1_valueOf_0 : decode cX1_valueOf 0 = .ok (.iload_n 1, 1) := by decide +kernel
theorem dX1_valueOf_1 : decode cX1_valueOf 1 = .ok (.ifCond .lt 5, 3) := by decide +kernel
theorem dX1_valueOf_4 : decode cX1_valueOf 4 = .ok (.iload_n 1, 1) := by decide +kernel
theorem dX1_valueOf_5 : decode cX1_valueOf 5 = .ok (.ireturn, 1) := by decide +kernel
theorem dX1_valueOf_6 : decode cX1_valueOf 6 = .ok (.iload_n 1, 1) := by decide +kernel
theorem dX1_valueOf_7 : decode cX1_valueOf 7 = .ok (.ineg, 1) := by decide +kernel
theorem dX1_valueOf_8 : decode cX1_valueOf 8 = .ok (.bipush 23, 2) := by decide +kernel
theorem dX1_valueOf_10 : decode cX1_valueOf 10 = .ok (.isub, 1) := by decide +kernel
theorem dX1_valueOf_11 : decode cX1_valueOf 11 = .ok (.istore_n 2, 1) := by decide +kernel
theorem dX1_valueOf_12 : decode cX1_valueOf 12 = .ok (.iload_n 2, 1) := by decide +kernel
theorem dX1_valueOf_13 : decode cX1_valueOf 13 = .ok (.iconst 0, 1) := by decide +kernel
theorem dX1_valueOf_14 : decode cX1_valueOf 14 = .ok (.aload_n 0, 1) := by decide +kernel
theorem dX1_valueOf_15 : decode cX1_valueOf 15 = .ok (.getfield 11, 3) := by decide +kernel
theorem dX1_valueOf_18 : decode cX1_valueOf 18 = .ok (.arraylength, 1) := by decide +kernel
theorem dX1_valueOf_19 : decode cX1_valueOf 19 = .ok (.iconst 1, 1) := by decide +kernel
theorem dX1_valueOf_20 : decode cX1_valueOf 20 = .ok (.isub, 1) := by decide +kernel
theorem dX1_valueOf_21 : decode cX1_valueOf 21 = .ok (.invokestatic 43, 3) := by decide +kernel
theorem dX1_valueOf_24 : decode cX1_valueOf 24 = .ok (.ifCond .eq 12, 3) := by decide +kernel
theorem dX1_valueOf_27 : decode cX1_valueOf 27 = .ok (.aload_n 0, 1) := by decide +kernel
theorem dX1_valueOf_28 : decode cX1_valueOf 28 = .ok (.getfield 11, 3) := by decide +kernel
theorem dX1_valueOf_31 : decode cX1_valueOf 31 = .ok (.iload_n 2, 1) := by decide +kernel
theorem dX1_valueOf_32 : decode cX1_valueOf 32 = .ok (.iaload, 1) := by decide +kernel
theorem dX1_valueOf_33 : decode cX1_valueOf 33 = .ok (.goto 4, 3) := by decide +kernel
theorem dX1_valueOf_36 : decode cX1_valueOf 36 = .ok (.iconst 0, 1) := by decide +kernel
theorem dX1_valueOf_37 : decode cX1_valueOf 37 = .ok (.ireturn, 1) := by decide +kernel
theorem dX1_joined_0 : decode cX1_joined 0 = .ok (.iload_n 0, 1) := by decide +kernel
theorem dX1_joined_1 : decode cX1_joined 1 = .ok (.tableswitch 142 7 21 #[75, 79, 83, 94, 105, 116, 127, 142, 142, 142, 142, 142, 142, 142, 138], 75) := by decide +kernel
theorem dX1_joined_76 : decode cX1_joined 76 = .ok (.iload_n 1, 1) := by decide +kernel
theorem dX1_joined_77 : decode cX1_joined 77 = .ok (.iload_n 2, 1) := by decide +kernel
theorem dX1_joined_78 : decode cX1_joined 78 = .ok (.iadd, 1) := by decide +kernel
theorem dX1_joined_79 : decode cX1_joined 79 = .ok (.ireturn, 1) := by decide +kernel
theorem dX1_joined_80 : decode cX1_joined 80 = .ok (.iload_n 1, 1) := by decide +kernel
theorem dX1_joined_81 : decode cX1_joined 81 = .ok (.iload_n 2, 1) := by decide +kernel
theorem dX1_joined_82 : decode cX1_joined 82 = .ok (.isub, 1) := by decide +kernel
theorem dX1_joined_83 : decode cX1_joined 83 = .ok (.ireturn, 1) := by decide +kernel
theorem dX1_joined_84 : decode cX1_joined 84 = .ok (.iload_n 1, 1) := by decide +kernel
theorem dX1_joined_85 : decode cX1_joined 85 = .ok (.iload_n 2, 1) := by decide +kernel
theorem dX1_joined_86 : decode cX1_joined 86 = .ok (.if_icmp .ge 7, 3) := by decide +kernel
theorem dX1_joined_89 : decode cX1_joined 89 = .ok (.iconst 1, 1) := by decide +kernel
theorem dX1_joined_90 : decode cX1_joined 90 = .ok (.goto 4, 3) := by decide +kernel
theorem dX1_joined_93 : decode cX1_joined 93 = .ok (.iconst 0, 1) := by decide +kernel
theorem dX1_joined_94 : decode cX1_joined 94 = .ok (.ireturn, 1) := by decide +kernel
theorem dX1_joined_95 : decode cX1_joined 95 = .ok (.iload_n 1, 1) := by decide +kernel
theorem dX1_joined_96 : decode cX1_joined 96 = .ok (.iload_n 2, 1) := by decide +kernel
theorem dX1_joined_97 : decode cX1_joined 97 = .ok (.if_icmp .gt 7, 3) := by decide +kernel
theorem dX1_joined_100 : decode cX1_joined 100 = .ok (.iconst 1, 1) := by decide +kernel
theorem dX1_joined_101 : decode cX1_joined 101 = .ok (.goto 4, 3) := by decide +kernel
theorem dX1_joined_104 : decode cX1_joined 104 = .ok (.iconst 0, 1) := by decide +kernel
theorem dX1_joined_105 : decode cX1_joined 105 = .ok (.ireturn, 1) := by decide +kernel
theorem dX1_joined_106 : decode cX1_joined 106 = .ok (.iload_n 1, 1) := by decide +kernel
theorem dX1_joined_107 : decode cX1_joined 107 = .ok (.iload_n 2, 1) := by decide +kernel
theorem dX1_joined_108 : decode cX1_joined 108 = .ok (.if_icmp .ne 7, 3) := by decide +kernel
theorem dX1_joined_111 : decode cX1_joined 111 = .ok (.iconst 1, 1) := by decide +kernel
theorem dX1_joined_112 : decode cX1_joined 112 = .ok (.goto 4, 3) := by decide +kernel
theorem dX1_joined_115 : decode cX1_joined 115 = .ok (.iconst 0, 1) := by decide +kernel
theorem dX1_joined_116 : decode cX1_joined 116 = .ok (.ireturn, 1) := by decide +kernel
theorem dX1_joined_117 : decode cX1_joined 117 = .ok (.iload_n 1, 1) := by decide +kernel
theorem dX1_joined_118 : decode cX1_joined 118 = .ok (.iload_n 2, 1) := by decide +kernel
theorem dX1_joined_119 : decode cX1_joined 119 = .ok (.if_icmp .lt 7, 3) := by decide +kernel
theorem dX1_joined_122 : decode cX1_joined 122 = .ok (.iconst 1, 1) := by decide +kernel
theorem dX1_joined_123 : decode cX1_joined 123 = .ok (.goto 4, 3) := by decide +kernel
theorem dX1_joined_126 : decode cX1_joined 126 = .ok (.iconst 0, 1) := by decide +kernel
theorem dX1_joined_127 : decode cX1_joined 127 = .ok (.ireturn, 1) := by decide +kernel
theorem dX1_joined_128 : decode cX1_joined 128 = .ok (.iload_n 1, 1) := by decide +kernel
theorem dX1_joined_129 : decode cX1_joined 129 = .ok (.iload_n 2, 1) := by decide +kernel
theorem dX1_joined_130 : decode cX1_joined 130 = .ok (.if_icmp .le 7, 3) := by decide +kernel
theorem dX1_joined_133 : decode cX1_joined 133 = .ok (.iconst 1, 1) := by decide +kernel
theorem dX1_joined_134 : decode cX1_joined 134 = .ok (.goto 4, 3) := by decide +kernel
theorem dX1_joined_137 : decode cX1_joined 137 = .ok (.iconst 0, 1) := by decide +kernel
theorem dX1_joined_138 : decode cX1_joined 138 = .ok (.ireturn, 1) := by decide +kernel
theorem dX1_joined_139 : decode cX1_joined 139 = .ok (.iload_n 1, 1) := by decide +kernel
theorem dX1_joined_140 : decode cX1_joined 140 = .ok (.iload_n 2, 1) := by decide +kernel
theorem dX1_joined_141 : decode cX1_joined 141 = .ok (.iand, 1) := by decide +kernel
theorem dX1_joined_142 : decode cX1_joined 142 = .ok (.ireturn, 1) := by decide +kernel
theorem dX1_joined_143 : decode cX1_joined 143 = .ok (.iload_n 1, 1) := by decide +kernel
theorem dX1_joined_144 : decode cX1_joined 144 = .ok (.iload_n 2, 1) := by decide +kernel
theorem dX1_joined_145 : decode cX1_joined 145 = .ok (.ior, 1) := by decide +kernel
theorem dX1_joined_146 : decode cX1_joined 146 = .ok (.ireturn, 1) := by decide +kernel
theorem dX1_allWhenHold_0 : decode cX1_allWhenHold 0 = .ok (.iconst 0, 1) := by decide +kernel
theorem dX1_allWhenHold_1 : decode cX1_allWhenHold 1 = .ok (.istore_n 2, 1) := by decide +kernel
theorem dX1_allWhenHold_2 : decode cX1_allWhenHold 2 = .ok (.iload_n 2, 1) := by decide +kernel
theorem dX1_allWhenHold_3 : decode cX1_allWhenHold 3 = .ok (.aload_n 1, 1) := by decide +kernel
theorem dX1_allWhenHold_4 : decode cX1_allWhenHold 4 = .ok (.getfield 47, 3) := by decide +kernel
theorem dX1_allWhenHold_7 : decode cX1_allWhenHold 7 = .ok (.arraylength, 1) := by decide +kernel
theorem dX1_allWhenHold_8 : decode cX1_allWhenHold 8 = .ok (.if_icmp .ge 35, 3) := by decide +kernel
theorem dX1_allWhenHold_11 : decode cX1_allWhenHold 11 = .ok (.aload_n 1, 1) := by decide +kernel
theorem dX1_allWhenHold_12 : decode cX1_allWhenHold 12 = .ok (.getfield 47, 3) := by decide +kernel
theorem dX1_allWhenHold_15 : decode cX1_allWhenHold 15 = .ok (.iload_n 2, 1) := by decide +kernel
theorem dX1_allWhenHold_16 : decode cX1_allWhenHold 16 = .ok (.aaload, 1) := by decide +kernel
theorem dX1_allWhenHold_17 : decode cX1_allWhenHold 17 = .ok (.astore_n 3, 1) := by decide +kernel
theorem dX1_allWhenHold_18 : decode cX1_allWhenHold 18 = .ok (.aload_n 3, 1) := by decide +kernel
theorem dX1_allWhenHold_19 : decode cX1_allWhenHold 19 = .ok (.getfield 53, 3) := by decide +kernel
theorem dX1_allWhenHold_22 : decode cX1_allWhenHold 22 = .ok (.bipush 15, 2) := by decide +kernel
theorem dX1_allWhenHold_24 : decode cX1_allWhenHold 24 = .ok (.if_icmp .ne 13, 3) := by decide +kernel
theorem dX1_allWhenHold_27 : decode cX1_allWhenHold 27 = .ok (.aload_n 0, 1) := by decide +kernel
theorem dX1_allWhenHold_28 : decode cX1_allWhenHold 28 = .ok (.aload_n 3, 1) := by decide +kernel
theorem dX1_allWhenHold_29 : decode cX1_allWhenHold 29 = .ok (.invokevirtual 57, 3) := by decide +kernel
theorem dX1_allWhenHold_32 : decode cX1_allWhenHold 32 = .ok (.ifCond .ne 5, 3) := by decide +kernel
theorem dX1_allWhenHold_35 : decode cX1_allWhenHold 35 = .ok (.iconst 0, 1) := by decide +kernel
theorem dX1_allWhenHold_36 : decode cX1_allWhenHold 36 = .ok (.ireturn, 1) := by decide +kernel
theorem dX1_allWhenHold_37 : decode cX1_allWhenHold 37 = .ok (.iinc 2 1, 3) := by decide +kernel
theorem dX1_allWhenHold_40 : decode cX1_allWhenHold 40 = .ok (.goto (-38), 3) := by decide +kernel
theorem dX1_allWhenHold_43 : decode cX1_allWhenHold 43 = .ok (.iconst 1, 1) := by decide +kernel
theorem dX1_allWhenHold_44 : decode cX1_allWhenHold 44 = .ok (.ireturn, 1) := by decide +kernel
theorem dX1_chanceOf_0 : decode cX1_chanceOf 0 = .ok (.iconst 0, 1) := by decide +kernel
theorem dX1_chanceOf_1 : decode cX1_chanceOf 1 = .ok (.istore_n 3, 1) := by decide +kernel
theorem dX1_chanceOf_2 : decode cX1_chanceOf 2 = .ok (.iload_n 3, 1) := by decide +kernel
theorem dX1_chanceOf_3 : decode cX1_chanceOf 3 = .ok (.aload_n 1, 1) := by decide +kernel
theorem dX1_chanceOf_4 : decode cX1_chanceOf 4 = .ok (.getfield 47, 3) := by decide +kernel
theorem dX1_chanceOf_7 : decode cX1_chanceOf 7 = .ok (.arraylength, 1) := by decide +kernel
theorem dX1_chanceOf_8 : decode cX1_chanceOf 8 = .ok (.if_icmp .ge 51, 3) := by decide +kernel
theorem dX1_chanceOf_11 : decode cX1_chanceOf 11 = .ok (.aload_n 1, 1) := by decide +kernel
theorem dX1_chanceOf_12 : decode cX1_chanceOf 12 = .ok (.getfield 47, 3) := by decide +kernel
theorem dX1_chanceOf_15 : decode cX1_chanceOf 15 = .ok (.iload_n 3, 1) := by decide +kernel
theorem dX1_chanceOf_16 : decode cX1_chanceOf 16 = .ok (.aaload, 1) := by decide +kernel
theorem dX1_chanceOf_17 : decode cX1_chanceOf 17 = .ok (.astore 4, 2) := by decide +kernel
theorem dX1_chanceOf_19 : decode cX1_chanceOf 19 = .ok (.aload 4, 2) := by decide +kernel
theorem dX1_chanceOf_21 : decode cX1_chanceOf 21 = .ok (.getfield 53, 3) := by decide +kernel
theorem dX1_chanceOf_24 : decode cX1_chanceOf 24 = .ok (.bipush 16, 2) := by decide +kernel
theorem dX1_chanceOf_26 : decode cX1_chanceOf 26 = .ok (.if_icmp .ne 27, 3) := by decide +kernel
theorem dX1_chanceOf_29 : decode cX1_chanceOf 29 = .ok (.aload 4, 2) := by decide +kernel
theorem dX1_chanceOf_31 : decode cX1_chanceOf 31 = .ok (.getfield 61, 3) := by decide +kernel
theorem dX1_chanceOf_34 : decode cX1_chanceOf 34 = .ok (.iload_n 2, 1) := by decide +kernel
theorem dX1_chanceOf_35 : decode cX1_chanceOf 35 = .ok (.if_icmp .ne 18, 3) := by decide +kernel
theorem dX1_chanceOf_38 : decode cX1_chanceOf 38 = .ok (.aload_n 0, 1) := by decide +kernel
theorem dX1_chanceOf_39 : decode cX1_chanceOf 39 = .ok (.aload 4, 2) := by decide +kernel
theorem dX1_chanceOf_41 : decode cX1_chanceOf 41 = .ok (.invokevirtual 57, 3) := by decide +kernel
theorem dX1_chanceOf_44 : decode cX1_chanceOf 44 = .ok (.ifCond .eq 9, 3) := by decide +kernel
theorem dX1_chanceOf_47 : decode cX1_chanceOf 47 = .ok (.aload 4, 2) := by decide +kernel
theorem dX1_chanceOf_49 : decode cX1_chanceOf 49 = .ok (.getfield 64, 3) := by decide +kernel
theorem dX1_chanceOf_52 : decode cX1_chanceOf 52 = .ok (.ireturn, 1) := by decide +kernel
theorem dX1_chanceOf_53 : decode cX1_chanceOf 53 = .ok (.iinc 3 1, 3) := by decide +kernel
theorem dX1_chanceOf_56 : decode cX1_chanceOf 56 = .ok (.goto (-54), 3) := by decide +kernel
theorem dX1_chanceOf_59 : decode cX1_chanceOf 59 = .ok (.sipush 500, 3) := by decide +kernel
theorem dX1_chanceOf_62 : decode cX1_chanceOf 62 = .ok (.ireturn, 1) := by decide +kernel
theorem dX1_weightOf_0 : decode cX1_weightOf 0 = .ok (.aload_n 0, 1) := by decide +kernel
theorem dX1_weightOf_1 : decode cX1_weightOf 1 = .ok (.aload_n 1, 1) := by decide +kernel
theorem dX1_weightOf_2 : decode cX1_weightOf 2 = .ok (.invokevirtual 67, 3) := by decide +kernel
theorem dX1_weightOf_5 : decode cX1_weightOf 5 = .ok (.ifCond .ne 5, 3) := by decide +kernel
theorem dX1_weightOf_8 : decode cX1_weightOf 8 = .ok (.lconst 0, 1) := by decide +kernel
theorem dX1_weightOf_9 : decode cX1_weightOf 9 = .ok (.lreturn, 1) := by decide +kernel
theorem dX1_weightOf_10 : decode cX1_weightOf 10 = .ok (.aload_n 1, 1) := by decide +kernel
theorem dX1_weightOf_11 : decode cX1_weightOf 11 = .ok (.invokestatic 71, 3) := by decide +kernel
theorem dX1_weightOf_14 : decode cX1_weightOf 14 = .ok (.i2l, 1) := by decide +kernel
theorem dX1_weightOf_15 : decode cX1_weightOf 15 = .ok (.ldc2_w 75, 3) := by decide +kernel
theorem dX1_weightOf_18 : decode cX1_weightOf 18 = .ok (.lmul, 1) := by decide +kernel
theorem dX1_weightOf_19 : decode cX1_weightOf 19 = .ok (.lstore_n 3, 1) := by decide +kernel
theorem dX1_weightOf_20 : decode cX1_weightOf 20 = .ok (.iconst 0, 1) := by decide +kernel
theorem dX1_weightOf_21 : decode cX1_weightOf 21 = .ok (.istore 5, 2) := by decide +kernel
theorem dX1_weightOf_23 : decode cX1_weightOf 23 = .ok (.iload 5, 2) := by decide +kernel
theorem dX1_weightOf_25 : decode cX1_weightOf 25 = .ok (.aload_n 2, 1) := by decide +kernel
theorem dX1_weightOf_26 : decode cX1_weightOf 26 = .ok (.arraylength, 1) := by decide +kernel
theorem dX1_weightOf_27 : decode cX1_weightOf 27 = .ok (.if_icmp .ge 53, 3) := by decide +kernel
theorem dX1_weightOf_30 : decode cX1_weightOf 30 = .ok (.aload_n 2, 1) := by decide +kernel
theorem dX1_weightOf_31 : decode cX1_weightOf 31 = .ok (.iload 5, 2) := by decide +kernel
theorem dX1_weightOf_33 : decode cX1_weightOf 33 = .ok (.iaload, 1) := by decide +kernel
theorem dX1_weightOf_34 : decode cX1_weightOf 34 = .ok (.iconst (-1), 1) := by decide +kernel
theorem dX1_weightOf_35 : decode cX1_weightOf 35 = .ok (.if_icmp .eq 39, 3) := by decide +kernel
theorem dX1_weightOf_38 : decode cX1_weightOf 38 = .ok (.aload_n 0, 1) := by decide +kernel
theorem dX1_weightOf_39 : decode cX1_weightOf 39 = .ok (.aload_n 1, 1) := by decide +kernel
theorem dX1_weightOf_40 : decode cX1_weightOf 40 = .ok (.iload 5, 2) := by decide +kernel
theorem dX1_weightOf_42 : decode cX1_weightOf 42 = .ok (.invokevirtual 77, 3) := by decide +kernel
theorem dX1_weightOf_45 : decode cX1_weightOf 45 = .ok (.istore 6, 2) := by decide +kernel
theorem dX1_weightOf_47 : decode cX1_weightOf 47 = .ok (.lload_n 3, 1) := by decide +kernel
theorem dX1_weightOf_48 : decode cX1_weightOf 48 = .ok (.aload_n 2, 1) := by decide +kernel
theorem dX1_weightOf_49 : decode cX1_weightOf 49 = .ok (.iload 5, 2) := by decide +kernel
theorem dX1_weightOf_51 : decode cX1_weightOf 51 = .ok (.iaload, 1) := by decide +kernel
theorem dX1_weightOf_52 : decode cX1_weightOf 52 = .ok (.iconst 1, 1) := by decide +kernel
theorem dX1_weightOf_53 : decode cX1_weightOf 53 = .ok (.if_icmp .ne 8, 3) := by decide +kernel
theorem dX1_weightOf_56 : decode cX1_weightOf 56 = .ok (.iload 6, 2) := by decide +kernel
theorem dX1_weightOf_58 : decode cX1_weightOf 58 = .ok (.goto 9, 3) := by decide +kernel
theorem dX1_weightOf_61 : decode cX1_weightOf 61 = .ok (.sipush 1000, 3) := by decide +kernel
theorem dX1_weightOf_64 : decode cX1_weightOf 64 = .ok (.iload 6, 2) := by decide +kernel
theorem dX1_weightOf_66 : decode cX1_weightOf 66 = .ok (.isub, 1) := by decide +kernel
theorem dX1_weightOf_67 : decode cX1_weightOf 67 = .ok (.i2l, 1) := by decide +kernel
theorem dX1_weightOf_68 : decode cX1_weightOf 68 = .ok (.lmul, 1) := by decide +kernel
theorem dX1_weightOf_69 : decode cX1_weightOf 69 = .ok (.ldc2_w 81, 3) := by decide +kernel
theorem dX1_weightOf_72 : decode cX1_weightOf 72 = .ok (.ldiv, 1) := by decide +kernel
theorem dX1_weightOf_73 : decode cX1_weightOf 73 = .ok (.lstore_n 3, 1) := by decide +kernel
theorem dX1_weightOf_74 : decode cX1_weightOf 74 = .ok (.iinc 5 1, 3) := by decide +kernel
theorem dX1_weightOf_77 : decode cX1_weightOf 77 = .ok (.goto (-54), 3) := by decide +kernel
theorem dX1_weightOf_80 : decode cX1_weightOf 80 = .ok (.lload_n 3, 1) := by decide +kernel
theorem dX1_weightOf_81 : decode cX1_weightOf 81 = .ok (.lreturn, 1) := by decide +kernel
theorem dX1_priorOf_0 : decode cX1_priorOf 0 = .ok (.iconst 0, 1) := by decide +kernel
theorem dX1_priorOf_1 : decode cX1_priorOf 1 = .ok (.istore_n 1, 1) := by decide +kernel
theorem dX1_priorOf_2 : decode cX1_priorOf 2 = .ok (.iload_n 1, 1) := by decide +kernel
theorem dX1_priorOf_3 : decode cX1_priorOf 3 = .ok (.aload_n 0, 1) := by decide +kernel
theorem dX1_priorOf_4 : decode cX1_priorOf 4 = .ok (.getfield 47, 3) := by decide +kernel
theorem dX1_priorOf_7 : decode cX1_priorOf 7 = .ok (.arraylength, 1) := by decide +kernel
theorem dX1_priorOf_8 : decode cX1_priorOf 8 = .ok (.if_icmp .ge 33, 3) := by decide +kernel
theorem dX1_priorOf_11 : decode cX1_priorOf 11 = .ok (.aload_n 0, 1) := by decide +kernel
theorem dX1_priorOf_12 : decode cX1_priorOf 12 = .ok (.getfield 47, 3) := by decide +kernel
theorem dX1_priorOf_15 : decode cX1_priorOf 15 = .ok (.iload_n 1, 1) := by decide +kernel
theorem dX1_priorOf_16 : decode cX1_priorOf 16 = .ok (.aaload, 1) := by decide +kernel
theorem dX1_priorOf_17 : decode cX1_priorOf 17 = .ok (.getfield 53, 3) := by decide +kernel
theorem dX1_priorOf_20 : decode cX1_priorOf 20 = .ok (.bipush 14, 2) := by decide +kernel
theorem dX1_priorOf_22 : decode cX1_priorOf 22 = .ok (.if_icmp .ne 13, 3) := by decide +kernel
theorem dX1_priorOf_25 : decode cX1_priorOf 25 = .ok (.aload_n 0, 1) := by decide +kernel
theorem dX1_priorOf_26 : decode cX1_priorOf 26 = .ok (.getfield 47, 3) := by decide +kernel
theorem dX1_priorOf_29 : decode cX1_priorOf 29 = .ok (.iload_n 1, 1) := by decide +kernel
theorem dX1_priorOf_30 : decode cX1_priorOf 30 = .ok (.aaload, 1) := by decide +kernel
theorem dX1_priorOf_31 : decode cX1_priorOf 31 = .ok (.getfield 64, 3) := by decide +kernel
theorem dX1_priorOf_34 : decode cX1_priorOf 34 = .ok (.ireturn, 1) := by decide +kernel
theorem dX1_priorOf_35 : decode cX1_priorOf 35 = .ok (.iinc 1 1, 3) := by decide +kernel
theorem dX1_priorOf_38 : decode cX1_priorOf 38 = .ok (.goto (-36), 3) := by decide +kernel
theorem dX1_priorOf_41 : decode cX1_priorOf 41 = .ok (.iconst 1, 1) := by decide +kernel
theorem dX1_priorOf_42 : decode cX1_priorOf 42 = .ok (.ireturn, 1) := by decide +kernel
theorem dX2_init_0 : decode cX2_init 0 = .ok (.aload_n 0, 1) := by decide +kernel
theorem dX2_init_1 : decode cX2_init 1 = .ok (.invokespecial 3, 3) := by decide +kernel
theorem dX2_init_4 : decode cX2_init 4 = .ok (.aload_n 0, 1) := by decide +kernel
theorem dX2_init_5 : decode cX2_init 5 = .ok (.bipush 14, 2) := by decide +kernel
theorem dX2_init_7 : decode cX2_init 7 = .ok (.anewarray 11, 3) := by decide +kernel
theorem dX2_init_10 : decode cX2_init 10 = .ok (.putfield 13, 3) := by decide +kernel
theorem dX2_init_13 : decode cX2_init 13 = .ok (.aload_n 0, 1) := by decide +kernel
theorem dX2_init_14 : decode cX2_init 14 = .ok (.sipush 400, 3) := by decide +kernel
theorem dX2_init_17 : decode cX2_init 17 = .ok (.newarray .int, 2) := by decide +kernel
theorem dX2_init_19 : decode cX2_init 19 = .ok (.putfield 19, 3) := by decide +kernel
theorem dX2_init_22 : decode cX2_init 22 = .ok (.aload_n 0, 1) := by decide +kernel
theorem dX2_init_23 : decode cX2_init 23 = .ok (.aload_n 1, 1) := by decide +kernel
theorem dX2_init_24 : decode cX2_init 24 = .ok (.putfield 23, 3) := by decide +kernel
theorem dX2_init_27 : decode cX2_init 27 = .ok (.return_, 1) := by decide +kernel
theorem dX2_faultFound_0 : decode cX2_faultFound 0 = .ok (.aload_n 0, 1) := by decide +kernel
theorem dX2_faultFound_1 : decode cX2_faultFound 1 = .ok (.getfield 27, 3) := by decide +kernel
theorem dX2_faultFound_4 : decode cX2_faultFound 4 = .ok (.ireturn, 1) := by decide +kernel
theorem dX2_read_0 : decode cX2_read 0 = .ok (.aload_n 0, 1) := by decide +kernel
theorem dX2_read_1 : decode cX2_read 1 = .ok (.getfield 23, 3) := by decide +kernel
theorem dX2_read_4 : decode cX2_read 4 = .ok (.invokevirtual 31, 3) := by decide +kernel
theorem dX2_read_7 : decode cX2_read 7 = .ok (.aload_n 0, 1) := by decide +kernel
theorem dX2_read_8 : decode cX2_read 8 = .ok (.iconst 0, 1) := by decide +kernel
theorem dX2_read_9 : decode cX2_read 9 = .ok (.putfield 34, 3) := by decide +kernel
theorem dX2_read_12 : decode cX2_read 12 = .ok (.aload_n 0, 1) := by decide +kernel
theorem dX2_read_13 : decode cX2_read 13 = .ok (.iconst 0, 1) := by decide +kernel
theorem dX2_read_14 : decode cX2_read 14 = .ok (.putfield 37, 3) := by decide +kernel
theorem dX2_read_17 : decode cX2_read 17 = .ok (.aload_n 0, 1) := by decide +kernel
theorem dX2_read_18 : decode cX2_read 18 = .ok (.iconst 0, 1) := by decide +kernel
theorem dX2_read_19 : decode cX2_read 19 = .ok (.putfield 40, 3) := by decide +kernel
theorem dX2_read_22 : decode cX2_read 22 = .ok (.aload_n 0, 1) := by decide +kernel
theorem dX2_read_23 : decode cX2_read 23 = .ok (.iconst 0, 1) := by decide +kernel
theorem dX2_read_24 : decode cX2_read 24 = .ok (.putfield 27, 3) := by decide +kernel
theorem dX2_read_27 : decode cX2_read 27 = .ok (.aload_n 0, 1) := by decide +kernel
theorem dX2_read_28 : decode cX2_read 28 = .ok (.iconst 0, 1) := by decide +kernel
theorem dX2_read_29 : decode cX2_read 29 = .ok (.putfield 43, 3) := by decide +kernel
theorem dX2_read_32 : decode cX2_read 32 = .ok (.iconst 0, 1) := by decide +kernel
theorem dX2_read_33 : decode cX2_read 33 = .ok (.istore_n 2, 1) := by decide +kernel
theorem dX2_read_34 : decode cX2_read 34 = .ok (.iload_n 2, 1) := by decide +kernel
theorem dX2_read_35 : decode cX2_read 35 = .ok (.bipush 14, 2) := by decide +kernel
theorem dX2_read_37 : decode cX2_read 37 = .ok (.if_icmp .gt 52, 3) := by decide +kernel
theorem dX2_read_40 : decode cX2_read 40 = .ok (.aload_n 0, 1) := by decide +kernel
theorem dX2_read_41 : decode cX2_read 41 = .ok (.iload_n 1, 1) := by decide +kernel
theorem dX2_read_42 : decode cX2_read 42 = .ok (.invokevirtual 47, 3) := by decide +kernel
theorem dX2_read_45 : decode cX2_read 45 = .ok (.ifCond .ne 5, 3) := by decide +kernel
theorem dX2_read_48 : decode cX2_read 48 = .ok (.aconst_null, 1) := by decide +kernel
theorem dX2_read_49 : decode cX2_read 49 = .ok (.areturn, 1) := by decide +kernel
theorem dX2_read_50 : decode cX2_read 50 = .ok (.aload_n 0, 1) := by decide +kernel
theorem dX2_read_51 : decode cX2_read 51 = .ok (.invokevirtual 51, 3) := by decide +kernel
theorem dX2_read_54 : decode cX2_read 54 = .ok (.ifCond .ne 19, 3) := by decide +kernel
theorem dX2_read_57 : decode cX2_read 57 = .ok (.new 55, 3) := by decide +kernel
theorem dX2_read_60 : decode cX2_read 60 = .ok (.dup, 1) := by decide +kernel
theorem dX2_read_61 : decode cX2_read 61 = .ok (.aload_n 0, 1) := by decide +kernel
theorem dX2_read_62 : decode cX2_read 62 = .ok (.getfield 13, 3) := by decide +kernel
theorem dX2_read_65 : decode cX2_read 65 = .ok (.aload_n 0, 1) := by decide +kernel
theorem dX2_read_66 : decode cX2_read 66 = .ok (.getfield 37, 3) := by decide +kernel
theorem dX2_read_69 : decode cX2_read 69 = .ok (.invokespecial 57, 3) := by decide +kernel
theorem dX2_read_72 : decode cX2_read 72 = .ok (.areturn, 1) := by decide +kernel
theorem dX2_read_73 : decode cX2_read 73 = .ok (.aload_n 0, 1) := by decide +kernel
theorem dX2_read_74 : decode cX2_read 74 = .ok (.iconst 4, 1) := by decide +kernel
theorem dX2_read_75 : decode cX2_read 75 = .ok (.invokevirtual 60, 3) := by decide +kernel
theorem dX2_read_78 : decode cX2_read 78 = .ok (.ifCond .ne 5, 3) := by decide +kernel
theorem dX2_read_81 : decode cX2_read 81 = .ok (.aconst_null, 1) := by decide +kernel
theorem dX2_read_82 : decode cX2_read 82 = .ok (.areturn, 1) := by decide +kernel
theorem dX2_read_83 : decode cX2_read 83 = .ok (.iinc 2 1, 3) := by decide +kernel
theorem dX2_read_86 : decode cX2_read 86 = .ok (.goto (-52), 3) := by decide +kernel
theorem dX2_read_89 : decode cX2_read 89 = .ok (.aconst_null, 1) := by decide +kernel
theorem dX2_read_90 : decode cX2_read 90 = .ok (.areturn, 1) := by decide +kernel
theorem dX2_readClause_0 : decode cX2_readClause 0 = .ok (.aload_n 0, 1) := by decide +kernel
theorem dX2_readClause_1 : decode cX2_readClause 1 = .ok (.invokevirtual 51, 3) := by decide +kernel
theorem dX2_readClause_4 : decode cX2_readClause 4 = .ok (.istore_n 2, 1) := by decide +kernel
theorem dX2_readClause_5 : decode cX2_readClause 5 = .ok (.iload_n 2, 1) := by decide +kernel
theorem dX2_readClause_6 : decode cX2_readClause 6 = .ok (.iload_n 1, 1) := by decide +kernel
theorem dX2_readClause_7 : decode cX2_readClause 7 = .ok (.invokestatic 64, 3) := by decide +kernel
theorem dX2_readClause_10 : decode cX2_readClause 10 = .ok (.ifCond .ne 9, 3) := by decide +kernel
theorem dX2_readClause_13 : decode cX2_readClause 13 = .ok (.aload_n 0, 1) := by decide +kernel
theorem dX2_readClause_14 : decode cX2_readClause 14 = .ok (.iconst 0, 1) := by decide +kernel
theorem dX2_readClause_15 : decode cX2_readClause 15 = .ok (.invokevirtual 68, 3) := by decide +kernel
theorem dX2_readClause_18 : decode cX2_readClause 18 = .ok (.ireturn, 1) := by decide +kernel
theorem dX2_readClause_19 : decode cX2_readClause 19 = .ok (.iload_n 2, 1) := by decide +kernel
theorem dX2_readClause_20 : decode cX2_readClause 20 = .ok (.bipush 14, 2) := by decide +kernel
theorem dX2_readClause_22 : decode cX2_readClause 22 = .ok (.if_icmp .ne 7, 3) := by decide +kernel
theorem dX2_readClause_25 : decode cX2_readClause 25 = .ok (.iconst 1, 1) := by decide +kernel
theorem dX2_readClause_26 : decode cX2_readClause 26 = .ok (.goto 4, 3) := by decide +kernel
theorem dX2_readClause_29 : decode cX2_readClause 29 = .ok (.iconst 0, 1) := by decide +kernel
theorem dX2_readClause_30 : decode cX2_readClause 30 = .ok (.istore_n 3, 1) := by decide +kernel
theorem dX2_readClause_31 : decode cX2_readClause 31 = .ok (.aload_n 0, 1) := by decide +kernel
theorem dX2_readClause_32 : decode cX2_readClause 32 = .ok (.getfield 37, 3) := by decide +kernel
theorem dX2_readClause_35 : decode cX2_readClause 35 = .ok (.bipush 14, 2) := by decide +kernel
theorem dX2_readClause_37 : decode cX2_readClause 37 = .ok (.if_icmp .ge 14, 3) := by decide +kernel
theorem dX2_readClause_40 : decode cX2_readClause 40 = .ok (.iload_n 3, 1) := by decide +kernel
theorem dX2_readClause_41 : decode cX2_readClause 41 = .ok (.ifCond .eq 16, 3) := by decide +kernel
theorem dX2_readClause_44 : decode cX2_readClause 44 = .ok (.aload_n 0, 1) := by decide +kernel
theorem dX2_readClause_45 : decode cX2_readClause 45 = .ok (.getfield 43, 3) := by decide +kernel
theorem dX2_readClause_48 : decode cX2_readClause 48 = .ok (.ifCond .eq 9, 3) := by decide +kernel
theorem dX2_readClause_51 : decode cX2_readClause 51 = .ok (.aload_n 0, 1) := by decide +kernel
theorem dX2_readClause_52 : decode cX2_readClause 52 = .ok (.iconst 4, 1) := by decide +kernel
theorem dX2_readClause_53 : decode cX2_readClause 53 = .ok (.invokevirtual 68, 3) := by decide +kernel
theorem dX2_readClause_56 : decode cX2_readClause 56 = .ok (.ireturn, 1) := by decide +kernel
theorem dX2_readClause_57 : decode cX2_readClause 57 = .ok (.aload_n 0, 1) := by decide +kernel
theorem dX2_readClause_58 : decode cX2_readClause 58 = .ok (.dup, 1) := by decide +kernel
theorem dX2_readClause_59 : decode cX2_readClause 59 = .ok (.getfield 34, 3) := by decide +kernel
theorem dX2_readClause_62 : decode cX2_readClause 62 = .ok (.iconst 1, 1) := by decide +kernel
theorem dX2_readClause_63 : decode cX2_readClause 63 = .ok (.iadd, 1) := by decide +kernel
theorem dX2_readClause_64 : decode cX2_readClause 64 = .ok (.putfield 34, 3) := by decide +kernel
theorem dX2_readClause_67 : decode cX2_readClause 67 = .ok (.aload_n 0, 1) := by decide +kernel
theorem dX2_readClause_68 : decode cX2_readClause 68 = .ok (.aload_n 0, 1) := by decide +kernel
theorem dX2_readClause_69 : decode cX2_readClause 69 = .ok (.getfield 43, 3) := by decide +kernel
theorem dX2_readClause_72 : decode cX2_readClause 72 = .ok (.ifCond .ne 7, 3) := by decide +kernel
theorem dX2_readClause_75 : decode cX2_readClause 75 = .ok (.iload_n 3, 1) := by decide +kernel
theorem dX2_readClause_76 : decode cX2_readClause 76 = .ok (.ifCond .eq 7, 3) := by decide +kernel
theorem dX2_readClause_79 : decode cX2_readClause 79 = .ok (.iconst 1, 1) := by decide +kernel
theorem dX2_readClause_80 : decode cX2_readClause 80 = .ok (.goto 4, 3) := by decide +kernel
theorem dX2_readClause_83 : decode cX2_readClause 83 = .ok (.iconst 0, 1) := by decide +kernel
theorem dX2_readClause_84 : decode cX2_readClause 84 = .ok (.putfield 43, 3) := by decide +kernel
theorem dX2_readClause_87 : decode cX2_readClause 87 = .ok (.aload_n 0, 1) := by decide +kernel
theorem dX2_readClause_88 : decode cX2_readClause 88 = .ok (.iconst 0, 1) := by decide +kernel
theorem dX2_readClause_89 : decode cX2_readClause 89 = .ok (.putfield 71, 3) := by decide +kernel
theorem dX2_readClause_92 : decode cX2_readClause 92 = .ok (.aload_n 0, 1) := by decide +kernel
theorem dX2_readClause_93 : decode cX2_readClause 93 = .ok (.iload_n 2, 1) := by decide +kernel
theorem dX2_readClause_94 : decode cX2_readClause 94 = .ok (.invokevirtual 74, 3) := by decide +kernel
theorem dX2_readClause_97 : decode cX2_readClause 97 = .ok (.ifCond .ne 5, 3) := by decide +kernel
theorem dX2_readClause_100 : decode cX2_readClause 100 = .ok (.iconst 0, 1) := by decide +kernel
theorem dX2_readClause_101 : decode cX2_readClause 101 = .ok (.ireturn, 1) := by decide +kernel
theorem dX2_readClause_102 : decode cX2_readClause 102 = .ok (.iload_n 2, 1) := by decide +kernel
theorem dX2_readClause_103 : decode cX2_readClause 103 = .ok (.bipush 15, 2) := by decide +kernel
theorem dX2_readClause_105 : decode cX2_readClause 105 = .ok (.if_icmp .eq 16, 3) := by decide +kernel
theorem dX2_readClause_108 : decode cX2_readClause 108 = .ok (.iload_n 3, 1) := by decide +kernel
theorem dX2_readClause_109 : decode cX2_readClause 109 = .ok (.ifCond .ne 16, 3) := by decide +kernel
theorem dX2_readClause_112 : decode cX2_readClause 112 = .ok (.aload_n 0, 1) := by decide +kernel
theorem dX2_readClause_113 : decode cX2_readClause 113 = .ok (.bipush 19, 2) := by decide +kernel
theorem dX2_readClause_115 : decode cX2_readClause 115 = .ok (.invokevirtual 77, 3) := by decide +kernel
theorem dX2_readClause_118 : decode cX2_readClause 118 = .ok (.ifCond .eq 7, 3) := by decide +kernel
theorem dX2_readClause_121 : decode cX2_readClause 121 = .ok (.iconst 1, 1) := by decide +kernel
theorem dX2_readClause_122 : decode cX2_readClause 122 = .ok (.goto 4, 3) := by decide +kernel
theorem dX2_readClause_125 : decode cX2_readClause 125 = .ok (.iconst 0, 1) := by decide +kernel
theorem dX2_readClause_126 : decode cX2_readClause 126 = .ok (.istore 4, 2) := by decide +kernel
theorem dX2_readClause_128 : decode cX2_readClause 128 = .ok (.iload 4, 2) := by decide +kernel
theorem dX2_readClause_130 : decode cX2_readClause 130 = .ok (.ifCond .eq 13, 3) := by decide +kernel
theorem dX2_readClause_133 : decode cX2_readClause 133 = .ok (.aload_n 0, 1) := by decide +kernel
theorem dX2_readClause_134 : decode cX2_readClause 134 = .ok (.iconst 0, 1) := by decide +kernel
theorem dX2_readClause_135 : decode cX2_readClause 135 = .ok (.invokevirtual 80, 3) := by decide +kernel
theorem dX2_readClause_138 : decode cX2_readClause 138 = .ok (.ifCond .ne 5, 3) := by decide +kernel
theorem dX2_readClause_141 : decode cX2_readClause 141 = .ok (.iconst 0, 1) := by decide +kernel
theorem dX2_readClause_142 : decode cX2_readClause 142 = .ok (.ireturn, 1) := by decide +kernel
theorem dX2_readClause_143 : decode cX2_readClause 143 = .ok (.aload_n 0, 1) := by decide +kernel
theorem dX2_readClause_144 : decode cX2_readClause 144 = .ok (.iload_n 2, 1) := by decide +kernel
theorem dX2_readClause_145 : decode cX2_readClause 145 = .ok (.invokevirtual 83, 3) := by decide +kernel
theorem dX2_readClause_148 : decode cX2_readClause 148 = .ok (.iconst 1, 1) := by decide +kernel
theorem dX2_readClause_149 : decode cX2_readClause 149 = .ok (.ireturn, 1) := by decide +kernel
theorem dX2_mayBegin_0 : decode cX2_mayBegin 0 = .ok (.iload_n 1, 1) := by decide +kernel
theorem dX2_mayBegin_1 : decode cX2_mayBegin 1 = .ok (.ifCond .eq 15, 3) := by decide +kernel
theorem dX2_mayBegin_4 : decode cX2_mayBegin 4 = .ok (.iload_n 0, 1) := by decide +kernel
theorem dX2_mayBegin_5 : decode cX2_mayBegin 5 = .ok (.bipush 17, 2) := by decide +kernel
theorem dX2_mayBegin_7 : decode cX2_mayBegin 7 = .ok (.if_icmp .ne 7, 3) := by decide +kernel
theorem dX2_mayBegin_10 : decode cX2_mayBegin 10 = .ok (.iconst 1, 1) := by decide +kernel
theorem dX2_mayBegin_11 : decode cX2_mayBegin 11 = .ok (.goto 4, 3) := by decide +kernel
theorem dX2_mayBegin_14 : decode cX2_mayBegin 14 = .ok (.iconst 0, 1) := by decide +kernel
theorem dX2_mayBegin_15 : decode cX2_mayBegin 15 = .ok (.ireturn, 1) := by decide +kernel
theorem dX2_mayBegin_16 : decode cX2_mayBegin 16 = .ok (.iload_n 0, 1) := by decide +kernel
theorem dX2_mayBegin_17 : decode cX2_mayBegin 17 = .ok (.bipush 14, 2) := by decide +kernel
theorem dX2_mayBegin_19 : decode cX2_mayBegin 19 = .ok (.if_icmp .eq 15, 3) := by decide +kernel
theorem dX2_mayBegin_22 : decode cX2_mayBegin 22 = .ok (.iload_n 0, 1) := by decide +kernel
theorem dX2_mayBegin_23 : decode cX2_mayBegin 23 = .ok (.bipush 15, 2) := by decide +kernel
theorem dX2_mayBegin_25 : decode cX2_mayBegin 25 = .ok (.if_icmp .eq 9, 3) := by decide +kernel
theorem dX2_mayBegin_28 : decode cX2_mayBegin 28 = .ok (.iload_n 0, 1) := by decide +kernel
theorem dX2_mayBegin_29 : decode cX2_mayBegin 29 = .ok (.bipush 16, 2) := by decide +kernel
theorem dX2_mayBegin_31 : decode cX2_mayBegin 31 = .ok (.if_icmp .ne 7, 3) := by decide +kernel
theorem dX2_mayBegin_34 : decode cX2_mayBegin 34 = .ok (.iconst 1, 1) := by decide +kernel
theorem dX2_mayBegin_35 : decode cX2_mayBegin 35 = .ok (.goto 4, 3) := by decide +kernel
theorem dX2_mayBegin_38 : decode cX2_mayBegin 38 = .ok (.iconst 0, 1) := by decide +kernel
theorem dX2_mayBegin_39 : decode cX2_mayBegin 39 = .ok (.ireturn, 1) := by decide +kernel
theorem dX2_readHead_0 : decode cX2_readHead 0 = .ok (.aload_n 0, 1) := by decide +kernel
theorem dX2_readHead_1 : decode cX2_readHead 1 = .ok (.iconst 0, 1) := by decide +kernel
theorem dX2_readHead_2 : decode cX2_readHead 2 = .ok (.putfield 87, 3) := by decide +kernel
theorem dX2_readHead_5 : decode cX2_readHead 5 = .ok (.aload_n 0, 1) := by decide +kernel
theorem dX2_readHead_6 : decode cX2_readHead 6 = .ok (.iconst 0, 1) := by decide +kernel
theorem dX2_readHead_7 : decode cX2_readHead 7 = .ok (.putfield 90, 3) := by decide +kernel
theorem dX2_readHead_10 : decode cX2_readHead 10 = .ok (.iload_n 1, 1) := by decide +kernel
theorem dX2_readHead_11 : decode cX2_readHead 11 = .ok (.tableswitch 117 14 17 #[29, 117, 38, 71], 29) := by decide +kernel
theorem dX2_readHead_40 : decode cX2_readHead 40 = .ok (.aload_n 0, 1) := by decide +kernel
theorem dX2_readHead_41 : decode cX2_readHead 41 = .ok (.iconst 1, 1) := by decide +kernel
theorem dX2_readHead_42 : decode cX2_readHead 42 = .ok (.sipush 9999, 3) := by decide +kernel
theorem dX2_readHead_45 : decode cX2_readHead 45 = .ok (.invokevirtual 93, 3) := by decide +kernel
theorem dX2_readHead_48 : decode cX2_readHead 48 = .ok (.ireturn, 1) := by decide +kernel
theorem dX2_readHead_49 : decode cX2_readHead 49 = .ok (.aload_n 0, 1) := by decide +kernel
theorem dX2_readHead_50 : decode cX2_readHead 50 = .ok (.aload_n 0, 1) := by decide +kernel
theorem dX2_readHead_51 : decode cX2_readHead 51 = .ok (.invokevirtual 97, 3) := by decide +kernel
theorem dX2_readHead_54 : decode cX2_readHead 54 = .ok (.putfield 87, 3) := by decide +kernel
theorem dX2_readHead_57 : decode cX2_readHead 57 = .ok (.aload_n 0, 1) := by decide +kernel
theorem dX2_readHead_58 : decode cX2_readHead 58 = .ok (.iconst 3, 1) := by decide +kernel
theorem dX2_readHead_59 : decode cX2_readHead 59 = .ok (.invokevirtual 60, 3) := by decide +kernel
theorem dX2_readHead_62 : decode cX2_readHead 62 = .ok (.ifCond .eq 18, 3) := by decide +kernel
theorem dX2_readHead_65 : decode cX2_readHead 65 = .ok (.aload_n 0, 1) := by decide +kernel
theorem dX2_readHead_66 : decode cX2_readHead 66 = .ok (.iconst 0, 1) := by decide +kernel
theorem dX2_readHead_67 : decode cX2_readHead 67 = .ok (.sipush 1000, 3) := by decide +kernel
theorem dX2_readHead_70 : decode cX2_readHead 70 = .ok (.invokevirtual 93, 3) := by decide +kernel
theorem dX2_readHead_73 : decode cX2_readHead 73 = .ok (.ifCond .eq 7, 3) := by decide +kernel
theorem dX2_readHead_76 : decode cX2_readHead 76 = .ok (.iconst 1, 1) := by decide +kernel
theorem dX2_readHead_77 : decode cX2_readHead 77 = .ok (.goto 4, 3) := by decide +kernel
theorem dX2_readHead_80 : decode cX2_readHead 80 = .ok (.iconst 0, 1) := by decide +kernel
theorem dX2_readHead_81 : decode cX2_readHead 81 = .ok (.ireturn, 1) := by decide +kernel
theorem dX2_readHead_82 : decode cX2_readHead 82 = .ok (.aload_n 0, 1) := by decide +kernel
theorem dX2_readHead_83 : decode cX2_readHead 83 = .ok (.iconst 0, 1) := by decide +kernel
theorem dX2_readHead_84 : decode cX2_readHead 84 = .ok (.bipush 9, 2) := by decide +kernel
theorem dX2_readHead_86 : decode cX2_readHead 86 = .ok (.invokevirtual 93, 3) := by decide +kernel
theorem dX2_readHead_89 : decode cX2_readHead 89 = .ok (.ifCond .ne 5, 3) := by decide +kernel
theorem dX2_readHead_92 : decode cX2_readHead 92 = .ok (.iconst 0, 1) := by decide +kernel
theorem dX2_readHead_93 : decode cX2_readHead 93 = .ok (.ireturn, 1) := by decide +kernel
theorem dX2_readHead_94 : decode cX2_readHead 94 = .ok (.aload_n 0, 1) := by decide +kernel
theorem dX2_readHead_95 : decode cX2_readHead 95 = .ok (.aload_n 0, 1) := by decide +kernel
theorem dX2_readHead_96 : decode cX2_readHead 96 = .ok (.getfield 90, 3) := by decide +kernel
theorem dX2_readHead_99 : decode cX2_readHead 99 = .ok (.putfield 87, 3) := by decide +kernel
theorem dX2_readHead_102 : decode cX2_readHead 102 = .ok (.aload_n 0, 1) := by decide +kernel
theorem dX2_readHead_103 : decode cX2_readHead 103 = .ok (.bipush 18, 2) := by decide +kernel
theorem dX2_readHead_105 : decode cX2_readHead 105 = .ok (.invokevirtual 60, 3) := by decide +kernel
theorem dX2_readHead_108 : decode cX2_readHead 108 = .ok (.ifCond .eq 18, 3) := by decide +kernel
theorem dX2_readHead_111 : decode cX2_readHead 111 = .ok (.aload_n 0, 1) := by decide +kernel
theorem dX2_readHead_112 : decode cX2_readHead 112 = .ok (.iconst 1, 1) := by decide +kernel
theorem dX2_readHead_113 : decode cX2_readHead 113 = .ok (.sipush 9999, 3) := by decide +kernel
theorem dX2_readHead_116 : decode cX2_readHead 116 = .ok (.invokevirtual 93, 3) := by decide +kernel
theorem dX2_readHead_119 : decode cX2_readHead 119 = .ok (.ifCond .eq 7, 3) := by decide +kernel
theorem dX2_readHead_122 : decode cX2_readHead 122 = .ok (.iconst 1, 1) := by decide +kernel
theorem dX2_readHead_123 : decode cX2_readHead 123 = .ok (.goto 4, 3) := by decide +kernel
theorem dX2_readHead_126 : decode cX2_readHead 126 = .ok (.iconst 0, 1) := by decide +kernel
theorem dX2_readHead_127 : decode cX2_readHead 127 = .ok (.ireturn, 1) := by decide +kernel
theorem dX2_readHead_128 : decode cX2_readHead 128 = .ok (.iconst 1, 1) := by decide +kernel
theorem dX2_readHead_129 : decode cX2_readHead 129 = .ok (.ireturn, 1) := by decide +kernel
theorem dX2_keepClause_0 : decode cX2_keepClause 0 = .ok (.aconst_null, 1) := by decide +kernel
theorem dX2_keepClause_1 : decode cX2_keepClause 1 = .ok (.astore_n 2, 1) := by decide +kernel
theorem dX2_keepClause_2 : decode cX2_keepClause 2 = .ok (.aload_n 0, 1) := by decide +kernel
theorem dX2_keepClause_3 : decode cX2_keepClause 3 = .ok (.getfield 71, 3) := by decide +kernel
theorem dX2_keepClause_6 : decode cX2_keepClause 6 = .ok (.ifCond .le 24, 3) := by decide +kernel
theorem dX2_keepClause_9 : decode cX2_keepClause 9 = .ok (.aload_n 0, 1) := by decide +kernel
theorem dX2_keepClause_10 : decode cX2_keepClause 10 = .ok (.getfield 71, 3) := by decide +kernel
theorem dX2_keepClause_13 : decode cX2_keepClause 13 = .ok (.newarray .int, 2) := by decide +kernel
theorem dX2_keepClause_15 : decode cX2_keepClause 15 = .ok (.astore_n 2, 1) := by decide +kernel
theorem dX2_keepClause_16 : decode cX2_keepClause 16 = .ok (.aload_n 0, 1) := by decide +kernel
theorem dX2_keepClause_17 : decode cX2_keepClause 17 = .ok (.getfield 19, 3) := by decide +kernel
theorem dX2_keepClause_20 : decode cX2_keepClause 20 = .ok (.iconst 0, 1) := by decide +kernel
theorem dX2_keepClause_21 : decode cX2_keepClause 21 = .ok (.aload_n 2, 1) := by decide +kernel
theorem dX2_keepClause_22 : decode cX2_keepClause 22 = .ok (.iconst 0, 1) := by decide +kernel
theorem dX2_keepClause_23 : decode cX2_keepClause 23 = .ok (.aload_n 0, 1) := by decide +kernel
theorem dX2_keepClause_24 : decode cX2_keepClause 24 = .ok (.getfield 71, 3) := by decide +kernel
theorem dX2_keepClause_27 : decode cX2_keepClause 27 = .ok (.invokestatic 100, 3) := by decide +kernel
theorem dX2_keepClause_30 : decode cX2_keepClause 30 = .ok (.aload_n 0, 1) := by decide +kernel
theorem dX2_keepClause_31 : decode cX2_keepClause 31 = .ok (.getfield 37, 3) := by decide +kernel
theorem dX2_keepClause_34 : decode cX2_keepClause 34 = .ok (.bipush 14, 2) := by decide +kernel
theorem dX2_keepClause_36 : decode cX2_keepClause 36 = .ok (.if_icmp .ge 39, 3) := by decide +kernel
theorem dX2_keepClause_39 : decode cX2_keepClause 39 = .ok (.aload_n 0, 1) := by decide +kernel
theorem dX2_keepClause_40 : decode cX2_keepClause 40 = .ok (.getfield 13, 3) := by decide +kernel
theorem dX2_keepClause_43 : decode cX2_keepClause 43 = .ok (.aload_n 0, 1) := by decide +kernel
theorem dX2_keepClause_44 : decode cX2_keepClause 44 = .ok (.getfield 37, 3) := by decide +kernel
theorem dX2_keepClause_47 : decode cX2_keepClause 47 = .ok (.new 11, 3) := by decide +kernel
theorem dX2_keepClause_50 : decode cX2_keepClause 50 = .ok (.dup, 1) := by decide +kernel
theorem dX2_keepClause_51 : decode cX2_keepClause 51 = .ok (.iload_n 1, 1) := by decide +kernel
theorem dX2_keepClause_52 : decode cX2_keepClause 52 = .ok (.aload_n 0, 1) := by decide +kernel
theorem dX2_keepClause_53 : decode cX2_keepClause 53 = .ok (.getfield 87, 3) := by decide +kernel
theorem dX2_keepClause_56 : decode cX2_keepClause 56 = .ok (.aload_n 0, 1) := by decide +kernel
theorem dX2_keepClause_57 : decode cX2_keepClause 57 = .ok (.getfield 90, 3) := by decide +kernel
theorem dX2_keepClause_60 : decode cX2_keepClause 60 = .ok (.aload_n 2, 1) := by decide +kernel
theorem dX2_keepClause_61 : decode cX2_keepClause 61 = .ok (.invokespecial 106, 3) := by decide +kernel
theorem dX2_keepClause_64 : decode cX2_keepClause 64 = .ok (.aastore, 1) := by decide +kernel
theorem dX2_keepClause_65 : decode cX2_keepClause 65 = .ok (.aload_n 0, 1) := by decide +kernel
theorem dX2_keepClause_66 : decode cX2_keepClause 66 = .ok (.dup, 1) := by decide +kernel
theorem dX2_keepClause_67 : decode cX2_keepClause 67 = .ok (.getfield 37, 3) := by decide +kernel
theorem dX2_keepClause_70 : decode cX2_keepClause 70 = .ok (.iconst 1, 1) := by decide +kernel
theorem dX2_keepClause_71 : decode cX2_keepClause 71 = .ok (.iadd, 1) := by decide +kernel
theorem dX2_keepClause_72 : decode cX2_keepClause 72 = .ok (.putfield 37, 3) := by decide +kernel
theorem dX2_keepClause_75 : decode cX2_keepClause 75 = .ok (.return_, 1) := by decide +kernel
theorem dX2_readNumber_0 : decode cX2_readNumber 0 = .ok (.aload_n 0, 1) := by decide +kernel
theorem dX2_readNumber_1 : decode cX2_readNumber 1 = .ok (.invokevirtual 51, 3) := by decide +kernel
theorem dX2_readNumber_4 : decode cX2_readNumber 4 = .ok (.iconst 2, 1) := by decide +kernel
theorem dX2_readNumber_5 : decode cX2_readNumber 5 = .ok (.if_icmp .eq 9, 3) := by decide +kernel
theorem dX2_readNumber_8 : decode cX2_readNumber 8 = .ok (.aload_n 0, 1) := by decide +kernel
theorem dX2_readNumber_9 : decode cX2_readNumber 9 = .ok (.iconst 0, 1) := by decide +kernel
theorem dX2_readNumber_10 : decode cX2_readNumber 10 = .ok (.invokevirtual 68, 3) := by decide +kernel
theorem dX2_readNumber_13 : decode cX2_readNumber 13 = .ok (.ireturn, 1) := by decide +kernel
theorem dX2_readNumber_14 : decode cX2_readNumber 14 = .ok (.aload_n 0, 1) := by decide +kernel
theorem dX2_readNumber_15 : decode cX2_readNumber 15 = .ok (.invokevirtual 97, 3) := by decide +kernel
theorem dX2_readNumber_18 : decode cX2_readNumber 18 = .ok (.iload_n 1, 1) := by decide +kernel
theorem dX2_readNumber_19 : decode cX2_readNumber 19 = .ok (.iload_n 2, 1) := by decide +kernel
theorem dX2_readNumber_20 : decode cX2_readNumber 20 = .ok (.invokestatic 109, 3) := by decide +kernel
theorem dX2_readNumber_23 : decode cX2_readNumber 23 = .ok (.ifCond .ne 9, 3) := by decide +kernel
theorem dX2_readNumber_26 : decode cX2_readNumber 26 = .ok (.aload_n 0, 1) := by decide +kernel
theorem dX2_readNumber_27 : decode cX2_readNumber 27 = .ok (.iconst 1, 1) := by decide +kernel
theorem dX2_readNumber_28 : decode cX2_readNumber 28 = .ok (.invokevirtual 68, 3) := by decide +kernel
theorem dX2_readNumber_31 : decode cX2_readNumber 31 = .ok (.ireturn, 1) := by decide +kernel
theorem dX2_readNumber_32 : decode cX2_readNumber 32 = .ok (.aload_n 0, 1) := by decide +kernel
theorem dX2_readNumber_33 : decode cX2_readNumber 33 = .ok (.aload_n 0, 1) := by decide +kernel
theorem dX2_readNumber_34 : decode cX2_readNumber 34 = .ok (.invokevirtual 97, 3) := by decide +kernel
theorem dX2_readNumber_37 : decode cX2_readNumber 37 = .ok (.putfield 90, 3) := by decide +kernel
theorem dX2_readNumber_40 : decode cX2_readNumber 40 = .ok (.aload_n 0, 1) := by decide +kernel
theorem dX2_readNumber_41 : decode cX2_readNumber 41 = .ok (.dup, 1) := by decide +kernel
theorem dX2_readNumber_42 : decode cX2_readNumber 42 = .ok (.getfield 34, 3) := by decide +kernel
theorem dX2_readNumber_45 : decode cX2_readNumber 45 = .ok (.iconst 1, 1) := by decide +kernel
theorem dX2_readNumber_46 : decode cX2_readNumber 46 = .ok (.iadd, 1) := by decide +kernel
theorem dX2_readNumber_47 : decode cX2_readNumber 47 = .ok (.putfield 34, 3) := by decide +kernel
theorem dX2_readNumber_50 : decode cX2_readNumber 50 = .ok (.iconst 1, 1) := by decide +kernel
theorem dX2_readNumber_51 : decode cX2_readNumber 51 = .ok (.ireturn, 1) := by decide +kernel
theorem dX2_readTest_0 : decode cX2_readTest 0 = .ok (.iconst 0, 1) := by decide +kernel
theorem dX2_readTest_1 : decode cX2_readTest 1 = .ok (.istore_n 2, 1) := by decide +kernel
theorem dX2_readTest_2 : decode cX2_readTest 2 = .ok (.iconst 0, 1) := by decide +kernel
theorem dX2_readTest_3 : decode cX2_readTest 3 = .ok (.istore_n 3, 1) := by decide +kernel
theorem dX2_readTest_4 : decode cX2_readTest 4 = .ok (.iconst 0, 1) := by decide +kernel
theorem dX2_readTest_5 : decode cX2_readTest 5 = .ok (.istore 4, 2) := by decide +kernel
theorem dX2_readTest_7 : decode cX2_readTest 7 = .ok (.iload 4, 2) := by decide +kernel
theorem dX2_readTest_9 : decode cX2_readTest 9 = .ok (.sipush 400, 3) := by decide +kernel
theorem dX2_readTest_12 : decode cX2_readTest 12 = .ok (.if_icmp .ge 66, 3) := by decide +kernel
theorem dX2_readTest_15 : decode cX2_readTest 15 = .ok (.aload_n 0, 1) := by decide +kernel
theorem dX2_readTest_16 : decode cX2_readTest 16 = .ok (.iload_n 1, 1) := by decide +kernel
theorem dX2_readTest_17 : decode cX2_readTest 17 = .ok (.invokevirtual 113, 3) := by decide +kernel
theorem dX2_readTest_20 : decode cX2_readTest 20 = .ok (.ifCond .ne 5, 3) := by decide +kernel
theorem dX2_readTest_23 : decode cX2_readTest 23 = .ok (.iconst 0, 1) := by decide +kernel
theorem dX2_readTest_24 : decode cX2_readTest 24 = .ok (.ireturn, 1) := by decide +kernel
theorem dX2_readTest_25 : decode cX2_readTest 25 = .ok (.iload_n 2, 1) := by decide +kernel
theorem dX2_readTest_26 : decode cX2_readTest 26 = .ok (.ifCond .eq 9, 3) := by decide +kernel
theorem dX2_readTest_29 : decode cX2_readTest 29 = .ok (.aload_n 0, 1) := by decide +kernel
theorem dX2_readTest_30 : decode cX2_readTest 30 = .ok (.bipush (-21), 2) := by decide +kernel
theorem dX2_readTest_32 : decode cX2_readTest 32 = .ok (.invokevirtual 116, 3) := by decide +kernel
theorem dX2_readTest_35 : decode cX2_readTest 35 = .ok (.aload_n 0, 1) := by decide +kernel
theorem dX2_readTest_36 : decode cX2_readTest 36 = .ok (.bipush 21, 2) := by decide +kernel
theorem dX2_readTest_38 : decode cX2_readTest 38 = .ok (.invokevirtual 77, 3) := by decide +kernel
theorem dX2_readTest_41 : decode cX2_readTest 41 = .ok (.istore_n 2, 1) := by decide +kernel
theorem dX2_readTest_42 : decode cX2_readTest 42 = .ok (.iload_n 2, 1) := by decide +kernel
theorem dX2_readTest_43 : decode cX2_readTest 43 = .ok (.ifCond .eq 6, 3) := by decide +kernel
theorem dX2_readTest_46 : decode cX2_readTest 46 = .ok (.goto 26, 3) := by decide +kernel
theorem dX2_readTest_49 : decode cX2_readTest 49 = .ok (.iload_n 3, 1) := by decide +kernel
theorem dX2_readTest_50 : decode cX2_readTest 50 = .ok (.ifCond .eq 9, 3) := by decide +kernel
theorem dX2_readTest_53 : decode cX2_readTest 53 = .ok (.aload_n 0, 1) := by decide +kernel
theorem dX2_readTest_54 : decode cX2_readTest 54 = .ok (.bipush (-22), 2) := by decide +kernel
theorem dX2_readTest_56 : decode cX2_readTest 56 = .ok (.invokevirtual 116, 3) := by decide +kernel
theorem dX2_readTest_59 : decode cX2_readTest 59 = .ok (.aload_n 0, 1) := by decide +kernel
theorem dX2_readTest_60 : decode cX2_readTest 60 = .ok (.bipush 22, 2) := by decide +kernel
theorem dX2_readTest_62 : decode cX2_readTest 62 = .ok (.invokevirtual 77, 3) := by decide +kernel
theorem dX2_readTest_65 : decode cX2_readTest 65 = .ok (.istore_n 3, 1) := by decide +kernel
theorem dX2_readTest_66 : decode cX2_readTest 66 = .ok (.iload_n 3, 1) := by decide +kernel
theorem dX2_readTest_67 : decode cX2_readTest 67 = .ok (.ifCond .ne 5, 3) := by decide +kernel
theorem dX2_readTest_70 : decode cX2_readTest 70 = .ok (.iconst 1, 1) := by decide +kernel
theorem dX2_readTest_71 : decode cX2_readTest 71 = .ok (.ireturn, 1) := by decide +kernel
theorem dX2_readTest_72 : decode cX2_readTest 72 = .ok (.iinc 4 1, 3) := by decide +kernel
theorem dX2_readTest_75 : decode cX2_readTest 75 = .ok (.goto (-68), 3) := by decide +kernel
theorem dX2_readTest_78 : decode cX2_readTest 78 = .ok (.aload_n 0, 1) := by decide +kernel
theorem dX2_readTest_79 : decode cX2_readTest 79 = .ok (.iconst 0, 1) := by decide +kernel
theorem dX2_readTest_80 : decode cX2_readTest 80 = .ok (.invokevirtual 68, 3) := by decide +kernel
theorem dX2_readTest_83 : decode cX2_readTest 83 = .ok (.ireturn, 1) := by decide +kernel
theorem dX2_readFact_0 : decode cX2_readFact 0 = .ok (.aload_n 0, 1) := by decide +kernel
theorem dX2_readFact_1 : decode cX2_readFact 1 = .ok (.invokevirtual 51, 3) := by decide +kernel
theorem dX2_readFact_4 : decode cX2_readFact 4 = .ok (.istore_n 2, 1) := by decide +kernel
theorem dX2_readFact_5 : decode cX2_readFact 5 = .ok (.iload_n 2, 1) := by decide +kernel
theorem dX2_readFact_6 : decode cX2_readFact 6 = .ok (.iconst 5, 1) := by decide +kernel
theorem dX2_readFact_7 : decode cX2_readFact 7 = .ok (.if_icmp .eq 14, 3) := by decide +kernel
theorem dX2_readFact_10 : decode cX2_readFact 10 = .ok (.iload_n 2, 1) := by decide +kernel
theorem dX2_readFact_11 : decode cX2_readFact 11 = .ok (.bipush 20, 2) := by decide +kernel
theorem dX2_readFact_13 : decode cX2_readFact 13 = .ok (.if_icmp .eq 8, 3) := by decide +kernel
theorem dX2_readFact_16 : decode cX2_readFact 16 = .ok (.aload_n 0, 1) := by decide +kernel
theorem dX2_readFact_17 : decode cX2_readFact 17 = .ok (.invokevirtual 119, 3) := by decide +kernel
theorem dX2_readFact_20 : decode cX2_readFact 20 = .ok (.ireturn, 1) := by decide +kernel
theorem dX2_readFact_21 : decode cX2_readFact 21 = .ok (.iload_n 1, 1) := by decide +kernel
theorem dX2_readFact_22 : decode cX2_readFact 22 = .ok (.bipush 10, 2) := by decide +kernel
theorem dX2_readFact_24 : decode cX2_readFact 24 = .ok (.if_icmp .lt 9, 3) := by decide +kernel
theorem dX2_readFact_27 : decode cX2_readFact 27 = .ok (.aload_n 0, 1) := by decide +kernel
theorem dX2_readFact_28 : decode cX2_readFact 28 = .ok (.iconst 2, 1) := by decide +kernel
theorem dX2_readFact_29 : decode cX2_readFact 29 = .ok (.invokevirtual 68, 3) := by decide +kernel
theorem dX2_readFact_32 : decode cX2_readFact 32 = .ok (.ireturn, 1) := by decide +kernel
theorem dX2_readFact_33 : decode cX2_readFact 33 = .ok (.aload_n 0, 1) := by decide +kernel
theorem dX2_readFact_34 : decode cX2_readFact 34 = .ok (.dup, 1) := by decide +kernel
theorem dX2_readFact_35 : decode cX2_readFact 35 = .ok (.getfield 34, 3) := by decide +kernel
theorem dX2_readFact_38 : decode cX2_readFact 38 = .ok (.iconst 1, 1) := by decide +kernel
theorem dX2_readFact_39 : decode cX2_readFact 39 = .ok (.iadd, 1) := by decide +kernel
theorem dX2_readFact_40 : decode cX2_readFact 40 = .ok (.putfield 34, 3) := by decide +kernel
theorem dX2_readFact_43 : decode cX2_readFact 43 = .ok (.iload_n 2, 1) := by decide +kernel
theorem dX2_readFact_44 : decode cX2_readFact 44 = .ok (.iconst 5, 1) := by decide +kernel
theorem dX2_readFact_45 : decode cX2_readFact 45 = .ok (.if_icmp .ne 28, 3) := by decide +kernel
theorem dX2_readFact_48 : decode cX2_readFact 48 = .ok (.aload_n 0, 1) := by decide +kernel
theorem dX2_readFact_49 : decode cX2_readFact 49 = .ok (.iload_n 1, 1) := by decide +kernel
theorem dX2_readFact_50 : decode cX2_readFact 50 = .ok (.iconst 1, 1) := by decide +kernel
theorem dX2_readFact_51 : decode cX2_readFact 51 = .ok (.iadd, 1) := by decide +kernel
theorem dX2_readFact_52 : decode cX2_readFact 52 = .ok (.invokevirtual 80, 3) := by decide +kernel
theorem dX2_readFact_55 : decode cX2_readFact 55 = .ok (.ifCond .eq 16, 3) := by decide +kernel
theorem dX2_readFact_58 : decode cX2_readFact 58 = .ok (.aload_n 0, 1) := by decide +kernel
theorem dX2_readFact_59 : decode cX2_readFact 59 = .ok (.bipush 6, 2) := by decide +kernel
theorem dX2_readFact_61 : decode cX2_readFact 61 = .ok (.invokevirtual 60, 3) := by decide +kernel
theorem dX2_readFact_64 : decode cX2_readFact 64 = .ok (.ifCond .eq 7, 3) := by decide +kernel
theorem dX2_readFact_67 : decode cX2_readFact 67 = .ok (.iconst 1, 1) := by decide +kernel
theorem dX2_readFact_68 : decode cX2_readFact 68 = .ok (.goto 4, 3) := by decide +kernel
theorem dX2_readFact_71 : decode cX2_readFact 71 = .ok (.iconst 0, 1) := by decide +kernel
theorem dX2_readFact_72 : decode cX2_readFact 72 = .ok (.ireturn, 1) := by decide +kernel
theorem dX2_readFact_73 : decode cX2_readFact 73 = .ok (.aload_n 0, 1) := by decide +kernel
theorem dX2_readFact_74 : decode cX2_readFact 74 = .ok (.iload_n 1, 1) := by decide +kernel
theorem dX2_readFact_75 : decode cX2_readFact 75 = .ok (.iconst 1, 1) := by decide +kernel
theorem dX2_readFact_76 : decode cX2_readFact 76 = .ok (.iadd, 1) := by decide +kernel
theorem dX2_readFact_77 : decode cX2_readFact 77 = .ok (.invokevirtual 113, 3) := by decide +kernel
theorem dX2_readFact_80 : decode cX2_readFact 80 = .ok (.ifCond .ne 5, 3) := by decide +kernel
theorem dX2_readFact_83 : decode cX2_readFact 83 = .ok (.iconst 0, 1) := by decide +kernel
theorem dX2_readFact_84 : decode cX2_readFact 84 = .ok (.ireturn, 1) := by decide +kernel
theorem dX2_readFact_85 : decode cX2_readFact 85 = .ok (.aload_n 0, 1) := by decide +kernel
theorem dX2_readFact_86 : decode cX2_readFact 86 = .ok (.bipush (-20), 2) := by decide +kernel
theorem dX2_readFact_88 : decode cX2_readFact 88 = .ok (.invokevirtual 116, 3) := by decide +kernel
theorem dX2_readFact_91 : decode cX2_readFact 91 = .ok (.iconst 1, 1) := by decide +kernel
theorem dX2_readFact_92 : decode cX2_readFact 92 = .ok (.ireturn, 1) := by decide +kernel
theorem dX2_readComparison_0 : decode cX2_readComparison 0 = .ok (.iconst (-1), 1) := by decide +kernel
theorem dX2_readComparison_1 : decode cX2_readComparison 1 = .ok (.istore_n 1, 1) := by decide +kernel
theorem dX2_readComparison_2 : decode cX2_readComparison 2 = .ok (.iconst (-1), 1) := by decide +kernel
theorem dX2_readComparison_3 : decode cX2_readComparison 3 = .ok (.istore_n 2, 1) := by decide +kernel
theorem dX2_readComparison_4 : decode cX2_readComparison 4 = .ok (.iconst 0, 1) := by decide +kernel
theorem dX2_readComparison_5 : decode cX2_readComparison 5 = .ok (.istore_n 3, 1) := by decide +kernel
theorem dX2_readComparison_6 : decode cX2_readComparison 6 = .ok (.iload_n 3, 1) := by decide +kernel
theorem dX2_readComparison_7 : decode cX2_readComparison 7 = .ok (.sipush 400, 3) := by decide +kernel
theorem dX2_readComparison_10 : decode cX2_readComparison 10 = .ok (.if_icmp .ge 115, 3) := by decide +kernel
theorem dX2_readComparison_13 : decode cX2_readComparison 13 = .ok (.aload_n 0, 1) := by decide +kernel
theorem dX2_readComparison_14 : decode cX2_readComparison 14 = .ok (.invokevirtual 123, 3) := by decide +kernel
theorem dX2_readComparison_17 : decode cX2_readComparison 17 = .ok (.ifCond .ne 5, 3) := by decide +kernel
theorem dX2_readComparison_20 : decode cX2_readComparison 20 = .ok (.iconst 0, 1) := by decide +kernel
theorem dX2_readComparison_21 : decode cX2_readComparison 21 = .ok (.ireturn, 1) := by decide +kernel
theorem dX2_readComparison_22 : decode cX2_readComparison 22 = .ok (.iload_n 2, 1) := by decide +kernel
theorem dX2_readComparison_23 : decode cX2_readComparison 23 = .ok (.iconst (-1), 1) := by decide +kernel
theorem dX2_readComparison_24 : decode cX2_readComparison 24 = .ok (.if_icmp .eq 9, 3) := by decide +kernel
theorem dX2_readComparison_27 : decode cX2_readComparison 27 = .ok (.aload_n 0, 1) := by decide +kernel
theorem dX2_readComparison_28 : decode cX2_readComparison 28 = .ok (.iload_n 2, 1) := by decide +kernel
theorem dX2_readComparison_29 : decode cX2_readComparison 29 = .ok (.ineg, 1) := by decide +kernel
theorem dX2_readComparison_30 : decode cX2_readComparison 30 = .ok (.invokevirtual 116, 3) := by decide +kernel
theorem dX2_readComparison_33 : decode cX2_readComparison 33 = .ok (.aload_n 0, 1) := by decide +kernel
theorem dX2_readComparison_34 : decode cX2_readComparison 34 = .ok (.invokevirtual 51, 3) := by decide +kernel
theorem dX2_readComparison_37 : decode cX2_readComparison 37 = .ok (.istore_n 2, 1) := by decide +kernel
theorem dX2_readComparison_38 : decode cX2_readComparison 38 = .ok (.iload_n 2, 1) := by decide +kernel
theorem dX2_readComparison_39 : decode cX2_readComparison 39 = .ok (.bipush 7, 2) := by decide +kernel
theorem dX2_readComparison_41 : decode cX2_readComparison 41 = .ok (.if_icmp .eq 68, 3) := by decide +kernel
theorem dX2_readComparison_44 : decode cX2_readComparison 44 = .ok (.iload_n 2, 1) := by decide +kernel
theorem dX2_readComparison_45 : decode cX2_readComparison 45 = .ok (.bipush 8, 2) := by decide +kernel
theorem dX2_readComparison_47 : decode cX2_readComparison 47 = .ok (.if_icmp .eq 62, 3) := by decide +kernel
theorem dX2_readComparison_50 : decode cX2_readComparison 50 = .ok (.iload_n 1, 1) := by decide +kernel
theorem dX2_readComparison_51 : decode cX2_readComparison 51 = .ok (.iconst (-1), 1) := by decide +kernel
theorem dX2_readComparison_52 : decode cX2_readComparison 52 = .ok (.if_icmp .eq 11, 3) := by decide +kernel
theorem dX2_readComparison_55 : decode cX2_readComparison 55 = .ok (.aload_n 0, 1) := by decide +kernel
theorem dX2_readComparison_56 : decode cX2_readComparison 56 = .ok (.iload_n 1, 1) := by decide +kernel
theorem dX2_readComparison_57 : decode cX2_readComparison 57 = .ok (.ineg, 1) := by decide +kernel
theorem dX2_readComparison_58 : decode cX2_readComparison 58 = .ok (.invokevirtual 116, 3) := by decide +kernel
theorem dX2_readComparison_61 : decode cX2_readComparison 61 = .ok (.iconst 1, 1) := by decide +kernel
theorem dX2_readComparison_62 : decode cX2_readComparison 62 = .ok (.ireturn, 1) := by decide +kernel
theorem dX2_readComparison_63 : decode cX2_readComparison 63 = .ok (.iload_n 2, 1) := by decide +kernel
theorem dX2_readComparison_64 : decode cX2_readComparison 64 = .ok (.bipush 9, 2) := by decide +kernel
theorem dX2_readComparison_66 : decode cX2_readComparison 66 = .ok (.bipush 13, 2) := by decide +kernel
theorem dX2_readComparison_68 : decode cX2_readComparison 68 = .ok (.invokestatic 109, 3) := by decide +kernel
theorem dX2_readComparison_71 : decode cX2_readComparison 71 = .ok (.ifCond .ne 9, 3) := by decide +kernel
theorem dX2_readComparison_74 : decode cX2_readComparison 74 = .ok (.aload_n 0, 1) := by decide +kernel
theorem dX2_readComparison_75 : decode cX2_readComparison 75 = .ok (.iconst 0, 1) := by decide +kernel
theorem dX2_readComparison_76 : decode cX2_readComparison 76 = .ok (.invokevirtual 68, 3) := by decide +kernel
theorem dX2_readComparison_79 : decode cX2_readComparison 79 = .ok (.ireturn, 1) := by decide +kernel
theorem dX2_readComparison_80 : decode cX2_readComparison 80 = .ok (.aload_n 0, 1) := by decide +kernel
theorem dX2_readComparison_81 : decode cX2_readComparison 81 = .ok (.getfield 40, 3) := by decide +kernel
theorem dX2_readComparison_84 : decode cX2_readComparison 84 = .ok (.bipush 60, 2) := by decide +kernel
theorem dX2_readComparison_86 : decode cX2_readComparison 86 = .ok (.if_icmp .lt 9, 3) := by decide +kernel
theorem dX2_readComparison_89 : decode cX2_readComparison 89 = .ok (.aload_n 0, 1) := by decide +kernel
theorem dX2_readComparison_90 : decode cX2_readComparison 90 = .ok (.iconst 3, 1) := by decide +kernel
theorem dX2_readComparison_91 : decode cX2_readComparison 91 = .ok (.invokevirtual 68, 3) := by decide +kernel
theorem dX2_readComparison_94 : decode cX2_readComparison 94 = .ok (.ireturn, 1) := by decide +kernel
theorem dX2_readComparison_95 : decode cX2_readComparison 95 = .ok (.aload_n 0, 1) := by decide +kernel
theorem dX2_readComparison_96 : decode cX2_readComparison 96 = .ok (.dup, 1) := by decide +kernel
theorem dX2_readComparison_97 : decode cX2_readComparison 97 = .ok (.getfield 40, 3) := by decide +kernel
theorem dX2_readComparison_100 : decode cX2_readComparison 100 = .ok (.iconst 1, 1) := by decide +kernel
theorem dX2_readComparison_101 : decode cX2_readComparison 101 = .ok (.iadd, 1) := by decide +kernel
theorem dX2_readComparison_102 : decode cX2_readComparison 102 = .ok (.putfield 40, 3) := by decide +kernel
theorem dX2_readComparison_105 : decode cX2_readComparison 105 = .ok (.iload_n 2, 1) := by decide +kernel
theorem dX2_readComparison_106 : decode cX2_readComparison 106 = .ok (.istore_n 1, 1) := by decide +kernel
theorem dX2_readComparison_107 : decode cX2_readComparison 107 = .ok (.iconst (-1), 1) := by decide +kernel
theorem dX2_readComparison_108 : decode cX2_readComparison 108 = .ok (.istore_n 2, 1) := by decide +kernel
theorem dX2_readComparison_109 : decode cX2_readComparison 109 = .ok (.aload_n 0, 1) := by decide +kernel
theorem dX2_readComparison_110 : decode cX2_readComparison 110 = .ok (.dup, 1) := by decide +kernel
theorem dX2_readComparison_111 : decode cX2_readComparison 111 = .ok (.getfield 34, 3) := by decide +kernel
theorem dX2_readComparison_114 : decode cX2_readComparison 114 = .ok (.iconst 1, 1) := by decide +kernel
theorem dX2_readComparison_115 : decode cX2_readComparison 115 = .ok (.iadd, 1) := by decide +kernel
theorem dX2_readComparison_116 : decode cX2_readComparison 116 = .ok (.putfield 34, 3) := by decide +kernel
theorem dX2_readComparison_119 : decode cX2_readComparison 119 = .ok (.iinc 3 1, 3) := by decide +kernel
theorem dX2_readComparison_122 : decode cX2_readComparison 122 = .ok (.goto (-116), 3) := by decide +kernel
theorem dX2_readComparison_125 : decode cX2_readComparison 125 = .ok (.aload_n 0, 1) := by decide +kernel
theorem dX2_readComparison_126 : decode cX2_readComparison 126 = .ok (.iconst 0, 1) := by decide +kernel
theorem dX2_readComparison_127 : decode cX2_readComparison 127 = .ok (.invokevirtual 68, 3) := by decide +kernel
theorem dX2_readComparison_130 : decode cX2_readComparison 130 = .ok (.ireturn, 1) := by decide +kernel
theorem dX2_readValue_0 : decode cX2_readValue 0 = .ok (.aload_n 0, 1) := by decide +kernel
theorem dX2_readValue_1 : decode cX2_readValue 1 = .ok (.invokevirtual 51, 3) := by decide +kernel
theorem dX2_readValue_4 : decode cX2_readValue 4 = .ok (.iconst 2, 1) := by decide +kernel
theorem dX2_readValue_5 : decode cX2_readValue 5 = .ok (.if_icmp .ne 7, 3) := by decide +kernel
theorem dX2_readValue_8 : decode cX2_readValue 8 = .ok (.iconst 1, 1) := by decide +kernel
theorem dX2_readValue_9 : decode cX2_readValue 9 = .ok (.goto 4, 3) := by decide +kernel
theorem dX2_readValue_12 : decode cX2_readValue 12 = .ok (.iconst 0, 1) := by decide +kernel
theorem dX2_readValue_13 : decode cX2_readValue 13 = .ok (.istore_n 1, 1) := by decide +kernel
theorem dX2_readValue_14 : decode cX2_readValue 14 = .ok (.iload_n 1, 1) := by decide +kernel
theorem dX2_readValue_15 : decode cX2_readValue 15 = .ok (.ifCond .ne 18, 3) := by decide +kernel
theorem dX2_readValue_18 : decode cX2_readValue 18 = .ok (.aload_n 0, 1) := by decide +kernel
theorem dX2_readValue_19 : decode cX2_readValue 19 = .ok (.invokevirtual 51, 3) := by decide +kernel
theorem dX2_readValue_22 : decode cX2_readValue 22 = .ok (.bipush 23, 2) := by decide +kernel
theorem dX2_readValue_24 : decode cX2_readValue 24 = .ok (.if_icmp .ge 9, 3) := by decide +kernel
theorem dX2_readValue_27 : decode cX2_readValue 27 = .ok (.aload_n 0, 1) := by decide +kernel
theorem dX2_readValue_28 : decode cX2_readValue 28 = .ok (.iconst 0, 1) := by decide +kernel
theorem dX2_readValue_29 : decode cX2_readValue 29 = .ok (.invokevirtual 68, 3) := by decide +kernel
theorem dX2_readValue_32 : decode cX2_readValue 32 = .ok (.ireturn, 1) := by decide +kernel
theorem dX2_readValue_33 : decode cX2_readValue 33 = .ok (.iload_n 1, 1) := by decide +kernel
theorem dX2_readValue_34 : decode cX2_readValue 34 = .ok (.ifCond .eq 17, 3) := by decide +kernel
theorem dX2_readValue_37 : decode cX2_readValue 37 = .ok (.aload_n 0, 1) := by decide +kernel
theorem dX2_readValue_38 : decode cX2_readValue 38 = .ok (.invokevirtual 97, 3) := by decide +kernel
theorem dX2_readValue_41 : decode cX2_readValue 41 = .ok (.iconst (-1), 1) := by decide +kernel
theorem dX2_readValue_42 : decode cX2_readValue 42 = .ok (.if_icmp .ne 9, 3) := by decide +kernel
theorem dX2_readValue_45 : decode cX2_readValue 45 = .ok (.aload_n 0, 1) := by decide +kernel
theorem dX2_readValue_46 : decode cX2_readValue 46 = .ok (.iconst 1, 1) := by decide +kernel
theorem dX2_readValue_47 : decode cX2_readValue 47 = .ok (.invokevirtual 68, 3) := by decide +kernel
theorem dX2_readValue_50 : decode cX2_readValue 50 = .ok (.ireturn, 1) := by decide +kernel
theorem dX2_readValue_51 : decode cX2_readValue 51 = .ok (.aload_n 0, 1) := by decide +kernel
theorem dX2_readValue_52 : decode cX2_readValue 52 = .ok (.getfield 40, 3) := by decide +kernel
theorem dX2_readValue_55 : decode cX2_readValue 55 = .ok (.bipush 60, 2) := by decide +kernel
theorem dX2_readValue_57 : decode cX2_readValue 57 = .ok (.if_icmp .lt 9, 3) := by decide +kernel
theorem dX2_readValue_60 : decode cX2_readValue 60 = .ok (.aload_n 0, 1) := by decide +kernel
theorem dX2_readValue_61 : decode cX2_readValue 61 = .ok (.iconst 3, 1) := by decide +kernel
theorem dX2_readValue_62 : decode cX2_readValue 62 = .ok (.invokevirtual 68, 3) := by decide +kernel
theorem dX2_readValue_65 : decode cX2_readValue 65 = .ok (.ireturn, 1) := by decide +kernel
theorem dX2_readValue_66 : decode cX2_readValue 66 = .ok (.aload_n 0, 1) := by decide +kernel
theorem dX2_readValue_67 : decode cX2_readValue 67 = .ok (.dup, 1) := by decide +kernel
theorem dX2_readValue_68 : decode cX2_readValue 68 = .ok (.getfield 40, 3) := by decide +kernel
theorem dX2_readValue_71 : decode cX2_readValue 71 = .ok (.iconst 1, 1) := by decide +kernel
theorem dX2_readValue_72 : decode cX2_readValue 72 = .ok (.iadd, 1) := by decide +kernel
theorem dX2_readValue_73 : decode cX2_readValue 73 = .ok (.putfield 40, 3) := by decide +kernel
theorem dX2_readValue_76 : decode cX2_readValue 76 = .ok (.aload_n 0, 1) := by decide +kernel
theorem dX2_readValue_77 : decode cX2_readValue 77 = .ok (.iload_n 1, 1) := by decide +kernel
theorem dX2_readValue_78 : decode cX2_readValue 78 = .ok (.ifCond .eq 10, 3) := by decide +kernel
theorem dX2_readValue_81 : decode cX2_readValue 81 = .ok (.aload_n 0, 1) := by decide +kernel
theorem dX2_readValue_82 : decode cX2_readValue 82 = .ok (.invokevirtual 97, 3) := by decide +kernel
theorem dX2_readValue_85 : decode cX2_readValue 85 = .ok (.goto 8, 3) := by decide +kernel
theorem dX2_readValue_88 : decode cX2_readValue 88 = .ok (.aload_n 0, 1) := by decide +kernel
theorem dX2_readValue_89 : decode cX2_readValue 89 = .ok (.invokevirtual 51, 3) := by decide +kernel
theorem dX2_readValue_92 : decode cX2_readValue 92 = .ok (.ineg, 1) := by decide +kernel
theorem dX2_readValue_93 : decode cX2_readValue 93 = .ok (.invokevirtual 116, 3) := by decide +kernel
theorem dX2_readValue_96 : decode cX2_readValue 96 = .ok (.aload_n 0, 1) := by decide +kernel
theorem dX2_readValue_97 : decode cX2_readValue 97 = .ok (.dup, 1) := by decide +kernel
theorem dX2_readValue_98 : decode cX2_readValue 98 = .ok (.getfield 34, 3) := by decide +kernel
theorem dX2_readValue_101 : decode cX2_readValue 101 = .ok (.iconst 1, 1) := by decide +kernel
theorem dX2_readValue_102 : decode cX2_readValue 102 = .ok (.iadd, 1) := by decide +kernel
theorem dX2_readValue_103 : decode cX2_readValue 103 = .ok (.putfield 34, 3) := by decide +kernel
theorem dX2_readValue_106 : decode cX2_readValue 106 = .ok (.iconst 1, 1) := by decide +kernel
theorem dX2_readValue_107 : decode cX2_readValue 107 = .ok (.ireturn, 1) := by decide +kernel
theorem dX2_putStep_0 : decode cX2_putStep 0 = .ok (.aload_n 0, 1) := by decide +kernel
theorem dX2_putStep_1 : decode cX2_putStep 1 = .ok (.getfield 71, 3) := by decide +kernel
theorem dX2_putStep_4 : decode cX2_putStep 4 = .ok (.aload_n 0, 1) := by decide +kernel
theorem dX2_putStep_5 : decode cX2_putStep 5 = .ok (.getfield 19, 3) := by decide +kernel
theorem dX2_putStep_8 : decode cX2_putStep 8 = .ok (.arraylength, 1) := by decide +kernel
theorem dX2_putStep_9 : decode cX2_putStep 9 = .ok (.if_icmp .ge 23, 3) := by decide +kernel
theorem dX2_putStep_12 : decode cX2_putStep 12 = .ok (.aload_n 0, 1) := by decide +kernel
theorem dX2_putStep_13 : decode cX2_putStep 13 = .ok (.getfield 19, 3) := by decide +kernel
theorem dX2_putStep_16 : decode cX2_putStep 16 = .ok (.aload_n 0, 1) := by decide +kernel
theorem dX2_putStep_17 : decode cX2_putStep 17 = .ok (.getfield 71, 3) := by decide +kernel
theorem dX2_putStep_20 : decode cX2_putStep 20 = .ok (.iload_n 1, 1) := by decide +kernel
theorem dX2_putStep_21 : decode cX2_putStep 21 = .ok (.iastore, 1) := by decide +kernel
theorem dX2_putStep_22 : decode cX2_putStep 22 = .ok (.aload_n 0, 1) := by decide +kernel
theorem dX2_putStep_23 : decode cX2_putStep 23 = .ok (.dup, 1) := by decide +kernel
theorem dX2_putStep_24 : decode cX2_putStep 24 = .ok (.getfield 71, 3) := by decide +kernel
theorem dX2_putStep_27 : decode cX2_putStep 27 = .ok (.iconst 1, 1) := by decide +kernel
theorem dX2_putStep_28 : decode cX2_putStep 28 = .ok (.iadd, 1) := by decide +kernel
theorem dX2_putStep_29 : decode cX2_putStep 29 = .ok (.putfield 71, 3) := by decide +kernel
theorem dX2_putStep_32 : decode cX2_putStep 32 = .ok (.return_, 1) := by decide +kernel
theorem dX2_kind_0 : decode cX2_kind 0 = .ok (.aload_n 0, 1) := by decide +kernel
theorem dX2_kind_1 : decode cX2_kind 1 = .ok (.getfield 34, 3) := by decide +kernel
theorem dX2_kind_4 : decode cX2_kind 4 = .ok (.aload_n 0, 1) := by decide +kernel
theorem dX2_kind_5 : decode cX2_kind 5 = .ok (.getfield 23, 3) := by decide +kernel
theorem dX2_kind_8 : decode cX2_kind 8 = .ok (.getfield 126, 3) := by decide +kernel
theorem dX2_kind_11 : decode cX2_kind 11 = .ok (.if_icmp .ge 18, 3) := by decide +kernel
theorem dX2_kind_14 : decode cX2_kind 14 = .ok (.aload_n 0, 1) := by decide +kernel
theorem dX2_kind_15 : decode cX2_kind 15 = .ok (.getfield 23, 3) := by decide +kernel
theorem dX2_kind_18 : decode cX2_kind 18 = .ok (.getfield 129, 3) := by decide +kernel
theorem dX2_kind_21 : decode cX2_kind 21 = .ok (.aload_n 0, 1) := by decide +kernel
theorem dX2_kind_22 : decode cX2_kind 22 = .ok (.getfield 34, 3) := by decide +kernel
theorem dX2_kind_25 : decode cX2_kind 25 = .ok (.iaload, 1) := by decide +kernel
theorem dX2_kind_26 : decode cX2_kind 26 = .ok (.goto 4, 3) := by decide +kernel
theorem dX2_kind_29 : decode cX2_kind 29 = .ok (.iconst 0, 1) := by decide +kernel
theorem dX2_kind_30 : decode cX2_kind 30 = .ok (.ireturn, 1) := by decide +kernel
theorem dX2_value_0 : decode cX2_value 0 = .ok (.aload_n 0, 1) := by decide +kernel
theorem dX2_value_1 : decode cX2_value 1 = .ok (.getfield 34, 3) := by decide +kernel
theorem dX2_value_4 : decode cX2_value 4 = .ok (.aload_n 0, 1) := by decide +kernel
theorem dX2_value_5 : decode cX2_value 5 = .ok (.getfield 23, 3) := by decide +kernel
theorem dX2_value_8 : decode cX2_value 8 = .ok (.getfield 126, 3) := by decide +kernel
theorem dX2_value_11 : decode cX2_value 11 = .ok (.if_icmp .ge 18, 3) := by decide +kernel
theorem dX2_value_14 : decode cX2_value 14 = .ok (.aload_n 0, 1) := by decide +kernel
theorem dX2_value_15 : decode cX2_value 15 = .ok (.getfield 23, 3) := by decide +kernel
theorem dX2_value_18 : decode cX2_value 18 = .ok (.getfield 132, 3) := by decide +kernel
theorem dX2_value_21 : decode cX2_value 21 = .ok (.aload_n 0, 1) := by decide +kernel
theorem dX2_value_22 : decode cX2_value 22 = .ok (.getfield 34, 3) := by decide +kernel
theorem dX2_value_25 : decode cX2_value 25 = .ok (.iaload, 1) := by decide +kernel
theorem dX2_value_26 : decode cX2_value 26 = .ok (.goto 4, 3) := by decide +kernel
theorem dX2_value_29 : decode cX2_value 29 = .ok (.iconst 0, 1) := by decide +kernel
theorem dX2_value_30 : decode cX2_value 30 = .ok (.ireturn, 1) := by decide +kernel
theorem dX2_passes_0 : decode cX2_passes 0 = .ok (.aload_n 0, 1) := by decide +kernel
theorem dX2_passes_1 : decode cX2_passes 1 = .ok (.invokevirtual 51, 3) := by decide +kernel
theorem dX2_passes_4 : decode cX2_passes 4 = .ok (.iload_n 1, 1) := by decide +kernel
theorem dX2_passes_5 : decode cX2_passes 5 = .ok (.if_icmp .eq 5, 3) := by decide +kernel
theorem dX2_passes_8 : decode cX2_passes 8 = .ok (.iconst 0, 1) := by decide +kernel
theorem dX2_passes_9 : decode cX2_passes 9 = .ok (.ireturn, 1) := by decide +kernel
theorem dX2_passes_10 : decode cX2_passes 10 = .ok (.aload_n 0, 1) := by decide +kernel
theorem dX2_passes_11 : decode cX2_passes 11 = .ok (.dup, 1) := by decide +kernel
theorem dX2_passes_12 : decode cX2_passes 12 = .ok (.getfield 34, 3) := by decide +kernel
theorem dX2_passes_15 : decode cX2_passes 15 = .ok (.iconst 1, 1) := by decide +kernel
theorem dX2_passes_16 : decode cX2_passes 16 = .ok (.iadd, 1) := by decide +kernel
theorem dX2_passes_17 : decode cX2_passes 17 = .ok (.putfield 34, 3) := by decide +kernel
theorem dX2_passes_20 : decode cX2_passes 20 = .ok (.iconst 1, 1) := by decide +kernel
theorem dX2_passes_21 : decode cX2_passes 21 = .ok (.ireturn, 1) := by decide +kernel
theorem dX2_expect_0 : decode cX2_expect 0 = .ok (.aload_n 0, 1) := by decide +kernel
theorem dX2_expect_1 : decode cX2_expect 1 = .ok (.invokevirtual 51, 3) := by decide +kernel
theorem dX2_expect_4 : decode cX2_expect 4 = .ok (.iload_n 1, 1) := by decide +kernel
theorem dX2_expect_5 : decode cX2_expect 5 = .ok (.if_icmp .eq 9, 3) := by decide +kernel
theorem dX2_expect_8 : decode cX2_expect 8 = .ok (.aload_n 0, 1) := by decide +kernel
theorem dX2_expect_9 : decode cX2_expect 9 = .ok (.iconst 0, 1) := by decide +kernel
theorem dX2_expect_10 : decode cX2_expect 10 = .ok (.invokevirtual 68, 3) := by decide +kernel
theorem dX2_expect_13 : decode cX2_expect 13 = .ok (.ireturn, 1) := by decide +kernel
theorem dX2_expect_14 : decode cX2_expect 14 = .ok (.aload_n 0, 1) := by decide +kernel
theorem dX2_expect_15 : decode cX2_expect 15 = .ok (.dup, 1) := by decide +kernel
theorem dX2_expect_16 : decode cX2_expect 16 = .ok (.getfield 34, 3) := by decide +kernel
theorem dX2_expect_19 : decode cX2_expect 19 = .ok (.iconst 1, 1) := by decide +kernel
theorem dX2_expect_20 : decode cX2_expect 20 = .ok (.iadd, 1) := by decide +kernel
theorem dX2_expect_21 : decode cX2_expect 21 = .ok (.putfield 34, 3) := by decide +kernel
theorem dX2_expect_24 : decode cX2_expect 24 = .ok (.iconst 1, 1) := by decide +kernel
theorem dX2_expect_25 : decode cX2_expect 25 = .ok (.ireturn, 1) := by decide +kernel
theorem dX2_refuse_0 : decode cX2_refuse 0 = .ok (.aload_n 0, 1) := by decide +kernel
theorem dX2_refuse_1 : decode cX2_refuse 1 = .ok (.getfield 34, 3) := by decide +kernel
theorem dX2_refuse_4 : decode cX2_refuse 4 = .ok (.aload_n 0, 1) := by decide +kernel
theorem dX2_refuse_5 : decode cX2_refuse 5 = .ok (.getfield 23, 3) := by decide +kernel
theorem dX2_refuse_8 : decode cX2_refuse 8 = .ok (.getfield 126, 3) := by decide +kernel
theorem dX2_refuse_11 : decode cX2_refuse 11 = .ok (.if_icmp .ge 18, 3) := by decide +kernel
theorem dX2_refuse_14 : decode cX2_refuse 14 = .ok (.aload_n 0, 1) := by decide +kernel
theorem dX2_refuse_15 : decode cX2_refuse 15 = .ok (.getfield 23, 3) := by decide +kernel
theorem dX2_refuse_18 : decode cX2_refuse 18 = .ok (.getfield 135, 3) := by decide +kernel
theorem dX2_refuse_21 : decode cX2_refuse 21 = .ok (.aload_n 0, 1) := by decide +kernel
theorem dX2_refuse_22 : decode cX2_refuse 22 = .ok (.getfield 34, 3) := by decide +kernel
theorem dX2_refuse_25 : decode cX2_refuse 25 = .ok (.iaload, 1) := by decide +kernel
theorem dX2_refuse_26 : decode cX2_refuse 26 = .ok (.goto 4, 3) := by decide +kernel
theorem dX2_refuse_29 : decode cX2_refuse 29 = .ok (.iconst 0, 1) := by decide +kernel
theorem dX2_refuse_30 : decode cX2_refuse 30 = .ok (.istore_n 2, 1) := by decide +kernel
theorem dX2_refuse_31 : decode cX2_refuse 31 = .ok (.aload_n 0, 1) := by decide +kernel
theorem dX2_refuse_32 : decode cX2_refuse 32 = .ok (.iconst 1, 1) := by decide +kernel
theorem dX2_refuse_33 : decode cX2_refuse 33 = .ok (.bipush 8, 2) := by decide +kernel
theorem dX2_refuse_35 : decode cX2_refuse 35 = .ok (.iload_n 2, 1) := by decide +kernel
theorem dX2_refuse_36 : decode cX2_refuse 36 = .ok (.imul, 1) := by decide +kernel
theorem dX2_refuse_37 : decode cX2_refuse 37 = .ok (.iadd, 1) := by decide +kernel
theorem dX2_refuse_38 : decode cX2_refuse 38 = .ok (.iload_n 1, 1) := by decide +kernel
theorem dX2_refuse_39 : decode cX2_refuse 39 = .ok (.iadd, 1) := by decide +kernel
theorem dX2_refuse_40 : decode cX2_refuse 40 = .ok (.putfield 27, 3) := by decide +kernel
theorem dX2_refuse_43 : decode cX2_refuse 43 = .ok (.iconst 0, 1) := by decide +kernel
theorem dX2_refuse_44 : decode cX2_refuse 44 = .ok (.ireturn, 1) := by decide +kernel
theorem dX3_init_0 : decode cX3_init 0 = .ok (.aload_n 0, 1) := by decide +kernel
theorem dX3_init_1 : decode cX3_init 1 = .ok (.invokespecial 1, 3) := by decide +kernel
theorem dX3_init_4 : decode cX3_init 4 = .ok (.return_, 1) := by decide +kernel
theorem dX3_shape_0 : decode cX3_shape 0 = .ok (.aload_n 0, 1) := by decide +kernel
theorem dX3_shape_1 : decode cX3_shape 1 = .ok (.iload_n 1, 1) := by decide +kernel
theorem dX3_shape_2 : decode cX3_shape 2 = .ok (.putfield 7, 3) := by decide +kernel
theorem dX3_shape_5 : decode cX3_shape 5 = .ok (.aload_n 0, 1) := by decide +kernel
theorem dX3_shape_6 : decode cX3_shape 6 = .ok (.iload_n 2, 1) := by decide +kernel
theorem dX3_shape_7 : decode cX3_shape 7 = .ok (.putfield 13, 3) := by decide +kernel
theorem dX3_shape_10 : decode cX3_shape 10 = .ok (.aload_n 0, 1) := by decide +kernel
theorem dX3_shape_11 : decode cX3_shape 11 = .ok (.iload_n 3, 1) := by decide +kernel
theorem dX3_shape_12 : decode cX3_shape 12 = .ok (.putfield 16, 3) := by decide +kernel
theorem dX3_shape_15 : decode cX3_shape 15 = .ok (.return_, 1) := by decide +kernel
theorem dX3_makeOf_0 : decode cX3_makeOf 0 = .ok (.aload_n 0, 1) := by decide +kernel
theorem dX3_makeOf_1 : decode cX3_makeOf 1 = .ok (.iload_n 1, 1) := by decide +kernel
theorem dX3_makeOf_2 : decode cX3_makeOf 2 = .ok (.putfield 19, 3) := by decide +kernel
theorem dX3_makeOf_5 : decode cX3_makeOf 5 = .ok (.aload_n 0, 1) := by decide +kernel
theorem dX3_makeOf_6 : decode cX3_makeOf 6 = .ok (.iload_n 2, 1) := by decide +kernel
theorem dX3_makeOf_7 : decode cX3_makeOf 7 = .ok (.putfield 22, 3) := by decide +kernel
theorem dX3_makeOf_10 : decode cX3_makeOf 10 = .ok (.aload_n 0, 1) := by decide +kernel
theorem dX3_makeOf_11 : decode cX3_makeOf 11 = .ok (.iload_n 3, 1) := by decide +kernel
theorem dX3_makeOf_12 : decode cX3_makeOf 12 = .ok (.putfield 25, 3) := by decide +kernel
theorem dX3_makeOf_15 : decode cX3_makeOf 15 = .ok (.return_, 1) := by decide +kernel
theorem dX3_hold_0 : decode cX3_hold 0 = .ok (.aload_n 0, 1) := by decide +kernel
theorem dX3_hold_1 : decode cX3_hold 1 = .ok (.iload_n 1, 1) := by decide +kernel
theorem dX3_hold_2 : decode cX3_hold 2 = .ok (.putfield 28, 3) := by decide +kernel
theorem dX3_hold_5 : decode cX3_hold 5 = .ok (.aload_n 0, 1) := by decide +kernel
theorem dX3_hold_6 : decode cX3_hold 6 = .ok (.iload_n 2, 1) := by decide +kernel
theorem dX3_hold_7 : decode cX3_hold 7 = .ok (.putfield 31, 3) := by decide +kernel
theorem dX3_hold_10 : decode cX3_hold 10 = .ok (.return_, 1) := by decide +kernel
theorem dX3_copyFrom_0 : decode cX3_copyFrom 0 = .ok (.aload_n 0, 1) := by decide +kernel
theorem dX3_copyFrom_1 : decode cX3_copyFrom 1 = .ok (.aload_n 1, 1) := by decide +kernel
theorem dX3_copyFrom_2 : decode cX3_copyFrom 2 = .ok (.getfield 34, 3) := by decide +kernel
theorem dX3_copyFrom_5 : decode cX3_copyFrom 5 = .ok (.putfield 34, 3) := by decide +kernel
theorem dX3_copyFrom_8 : decode cX3_copyFrom 8 = .ok (.aload_n 0, 1) := by decide +kernel
theorem dX3_copyFrom_9 : decode cX3_copyFrom 9 = .ok (.aload_n 1, 1) := by decide +kernel
theorem dX3_copyFrom_10 : decode cX3_copyFrom 10 = .ok (.getfield 7, 3) := by decide +kernel
theorem dX3_copyFrom_13 : decode cX3_copyFrom 13 = .ok (.aload_n 1, 1) := by decide +kernel
theorem dX3_copyFrom_14 : decode cX3_copyFrom 14 = .ok (.getfield 13, 3) := by decide +kernel
theorem dX3_copyFrom_17 : decode cX3_copyFrom 17 = .ok (.aload_n 1, 1) := by decide +kernel
theorem dX3_copyFrom_18 : decode cX3_copyFrom 18 = .ok (.getfield 16, 3) := by decide +kernel
theorem dX3_copyFrom_21 : decode cX3_copyFrom 21 = .ok (.invokevirtual 37, 3) := by decide +kernel
theorem dX3_copyFrom_24 : decode cX3_copyFrom 24 = .ok (.aload_n 0, 1) := by decide +kernel
theorem dX3_copyFrom_25 : decode cX3_copyFrom 25 = .ok (.aload_n 1, 1) := by decide +kernel
theorem dX3_copyFrom_26 : decode cX3_copyFrom 26 = .ok (.getfield 19, 3) := by decide +kernel
theorem dX3_copyFrom_29 : decode cX3_copyFrom 29 = .ok (.aload_n 1, 1) := by decide +kernel
theorem dX3_copyFrom_30 : decode cX3_copyFrom 30 = .ok (.getfield 22, 3) := by decide +kernel
theorem dX3_copyFrom_33 : decode cX3_copyFrom 33 = .ok (.aload_n 1, 1) := by decide +kernel
theorem dX3_copyFrom_34 : decode cX3_copyFrom 34 = .ok (.getfield 25, 3) := by decide +kernel
theorem dX3_copyFrom_37 : decode cX3_copyFrom 37 = .ok (.invokevirtual 41, 3) := by decide +kernel
theorem dX3_copyFrom_40 : decode cX3_copyFrom 40 = .ok (.aload_n 0, 1) := by decide +kernel
theorem dX3_copyFrom_41 : decode cX3_copyFrom 41 = .ok (.aload_n 1, 1) := by decide +kernel
theorem dX3_copyFrom_42 : decode cX3_copyFrom 42 = .ok (.getfield 28, 3) := by decide +kernel
theorem dX3_copyFrom_45 : decode cX3_copyFrom 45 = .ok (.aload_n 1, 1) := by decide +kernel
theorem dX3_copyFrom_46 : decode cX3_copyFrom 46 = .ok (.getfield 31, 3) := by decide +kernel
theorem dX3_copyFrom_49 : decode cX3_copyFrom 49 = .ok (.invokevirtual 44, 3) := by decide +kernel
theorem dX3_copyFrom_52 : decode cX3_copyFrom 52 = .ok (.aload_n 0, 1) := by decide +kernel
theorem dX3_copyFrom_53 : decode cX3_copyFrom 53 = .ok (.aload_n 1, 1) := by decide +kernel
theorem dX3_copyFrom_54 : decode cX3_copyFrom 54 = .ok (.getfield 48, 3) := by decide +kernel
theorem dX3_copyFrom_57 : decode cX3_copyFrom 57 = .ok (.putfield 48, 3) := by decide +kernel
theorem dX3_copyFrom_60 : decode cX3_copyFrom 60 = .ok (.return_, 1) := by decide +kernel
theorem dX4_init_0 : decode cX4_init 0 = .ok (.aload_n 0, 1) := by decide +kernel
theorem dX4_init_1 : decode cX4_init 1 = .ok (.invokespecial 3, 3) := by decide +kernel
theorem dX4_init_4 : decode cX4_init 4 = .ok (.aload_n 0, 1) := by decide +kernel
theorem dX4_init_5 : decode cX4_init 5 = .ok (.new 9, 3) := by decide +kernel
theorem dX4_init_8 : decode cX4_init 8 = .ok (.dup, 1) := by decide +kernel
theorem dX4_init_9 : decode cX4_init 9 = .ok (.invokespecial 11, 3) := by decide +kernel
theorem dX4_init_12 : decode cX4_init 12 = .ok (.putfield 12, 3) := by decide +kernel
theorem dX4_init_15 : decode cX4_init 15 = .ok (.aload_n 0, 1) := by decide +kernel
theorem dX4_init_16 : decode cX4_init 16 = .ok (.new 18, 3) := by decide +kernel
theorem dX4_init_19 : decode cX4_init 19 = .ok (.dup, 1) := by decide +kernel
theorem dX4_init_20 : decode cX4_init 20 = .ok (.invokespecial 20, 3) := by decide +kernel
theorem dX4_init_23 : decode cX4_init 23 = .ok (.putfield 21, 3) := by decide +kernel
theorem dX4_init_26 : decode cX4_init 26 = .ok (.aload_n 0, 1) := by decide +kernel
theorem dX4_init_27 : decode cX4_init 27 = .ok (.new 25, 3) := by decide +kernel
theorem dX4_init_30 : decode cX4_init 30 = .ok (.dup, 1) := by decide +kernel
theorem dX4_init_31 : decode cX4_init 31 = .ok (.invokespecial 27, 3) := by decide +kernel
theorem dX4_init_34 : decode cX4_init 34 = .ok (.putfield 28, 3) := by decide +kernel
theorem dX4_init_37 : decode cX4_init 37 = .ok (.aload_n 0, 1) := by decide +kernel
theorem dX4_init_38 : decode cX4_init 38 = .ok (.bipush 16, 2) := by decide +kernel
theorem dX4_init_40 : decode cX4_init 40 = .ok (.newarray .int, 2) := by decide +kernel
theorem dX4_init_42 : decode cX4_init 42 = .ok (.putfield 32, 3) := by decide +kernel
theorem dX4_init_45 : decode cX4_init 45 = .ok (.aload_n 0, 1) := by decide +kernel
theorem dX4_init_46 : decode cX4_init 46 = .ok (.bipush 10, 2) := by decide +kernel
theorem dX4_init_48 : decode cX4_init 48 = .ok (.newarray .int, 2) := by decide +kernel
theorem dX4_init_50 : decode cX4_init 50 = .ok (.putfield 36, 3) := by decide +kernel
theorem dX4_init_53 : decode cX4_init 53 = .ok (.iconst 0, 1) := by decide +kernel
theorem dX4_init_54 : decode cX4_init 54 = .ok (.istore_n 1, 1) := by decide +kernel
theorem dX4_init_55 : decode cX4_init 55 = .ok (.iload_n 1, 1) := by decide +kernel
theorem dX4_init_56 : decode cX4_init 56 = .ok (.bipush 16, 2) := by decide +kernel
theorem dX4_init_58 : decode cX4_init 58 = .ok (.if_icmp .ge 16, 3) := by decide +kernel
theorem dX4_init_61 : decode cX4_init 61 = .ok (.aload_n 0, 1) := by decide +kernel
theorem dX4_init_62 : decode cX4_init 62 = .ok (.getfield 32, 3) := by decide +kernel
theorem dX4_init_65 : decode cX4_init 65 = .ok (.iload_n 1, 1) := by decide +kernel
theorem dX4_init_66 : decode cX4_init 66 = .ok (.iconst (-1), 1) := by decide +kernel
theorem dX4_init_67 : decode cX4_init 67 = .ok (.iastore, 1) := by decide +kernel
theorem dX4_init_68 : decode cX4_init 68 = .ok (.iinc 1 1, 3) := by decide +kernel
theorem dX4_init_71 : decode cX4_init 71 = .ok (.goto (-16), 3) := by decide +kernel
theorem dX4_init_74 : decode cX4_init 74 = .ok (.iconst 0, 1) := by decide +kernel
theorem dX4_init_75 : decode cX4_init 75 = .ok (.istore_n 1, 1) := by decide +kernel
theorem dX4_init_76 : decode cX4_init 76 = .ok (.iload_n 1, 1) := by decide +kernel
theorem dX4_init_77 : decode cX4_init 77 = .ok (.bipush 10, 2) := by decide +kernel
theorem dX4_init_79 : decode cX4_init 79 = .ok (.if_icmp .ge 16, 3) := by decide +kernel
theorem dX4_init_82 : decode cX4_init 82 = .ok (.aload_n 0, 1) := by decide +kernel
theorem dX4_init_83 : decode cX4_init 83 = .ok (.getfield 36, 3) := by decide +kernel
theorem dX4_init_86 : decode cX4_init 86 = .ok (.iload_n 1, 1) := by decide +kernel
theorem dX4_init_87 : decode cX4_init 87 = .ok (.iconst (-1), 1) := by decide +kernel
theorem dX4_init_88 : decode cX4_init 88 = .ok (.iastore, 1) := by decide +kernel
theorem dX4_init_89 : decode cX4_init 89 = .ok (.iinc 1 1, 3) := by decide +kernel
theorem dX4_init_92 : decode cX4_init 92 = .ok (.goto (-16), 3) := by decide +kernel
theorem dX4_init_95 : decode cX4_init 95 = .ok (.return_, 1) := by decide +kernel
theorem dX4_copyFrom_0 : decode cX4_copyFrom 0 = .ok (.aload_n 0, 1) := by decide +kernel
theorem dX4_copyFrom_1 : decode cX4_copyFrom 1 = .ok (.getfield 12, 3) := by decide +kernel
theorem dX4_copyFrom_4 : decode cX4_copyFrom 4 = .ok (.aload_n 1, 1) := by decide +kernel
theorem dX4_copyFrom_5 : decode cX4_copyFrom 5 = .ok (.getfield 12, 3) := by decide +kernel
theorem dX4_copyFrom_8 : decode cX4_copyFrom 8 = .ok (.invokevirtual 39, 3) := by decide +kernel
theorem dX4_copyFrom_11 : decode cX4_copyFrom 11 = .ok (.aload_n 0, 1) := by decide +kernel
theorem dX4_copyFrom_12 : decode cX4_copyFrom 12 = .ok (.getfield 21, 3) := by decide +kernel
theorem dX4_copyFrom_15 : decode cX4_copyFrom 15 = .ok (.aload_n 1, 1) := by decide +kernel
theorem dX4_copyFrom_16 : decode cX4_copyFrom 16 = .ok (.getfield 21, 3) := by decide +kernel
theorem dX4_copyFrom_19 : decode cX4_copyFrom 19 = .ok (.invokevirtual 43, 3) := by decide +kernel
theorem dX4_copyFrom_22 : decode cX4_copyFrom 22 = .ok (.aload_n 0, 1) := by decide +kernel
theorem dX4_copyFrom_23 : decode cX4_copyFrom 23 = .ok (.getfield 28, 3) := by decide +kernel
theorem dX4_copyFrom_26 : decode cX4_copyFrom 26 = .ok (.aload_n 1, 1) := by decide +kernel
theorem dX4_copyFrom_27 : decode cX4_copyFrom 27 = .ok (.getfield 28, 3) := by decide +kernel
theorem dX4_copyFrom_30 : decode cX4_copyFrom 30 = .ok (.invokevirtual 46, 3) := by decide +kernel
theorem dX4_copyFrom_33 : decode cX4_copyFrom 33 = .ok (.aload_n 1, 1) := by decide +kernel
theorem dX4_copyFrom_34 : decode cX4_copyFrom 34 = .ok (.getfield 32, 3) := by decide +kernel
theorem dX4_copyFrom_37 : decode cX4_copyFrom 37 = .ok (.iconst 0, 1) := by decide +kernel
theorem dX4_copyFrom_38 : decode cX4_copyFrom 38 = .ok (.aload_n 0, 1) := by decide +kernel
theorem dX4_copyFrom_39 : decode cX4_copyFrom 39 = .ok (.getfield 32, 3) := by decide +kernel
theorem dX4_copyFrom_42 : decode cX4_copyFrom 42 = .ok (.iconst 0, 1) := by decide +kernel
theorem dX4_copyFrom_43 : decode cX4_copyFrom 43 = .ok (.bipush 16, 2) := by decide +kernel
theorem dX4_copyFrom_45 : decode cX4_copyFrom 45 = .ok (.invokestatic 49, 3) := by decide +kernel
theorem dX4_copyFrom_48 : decode cX4_copyFrom 48 = .ok (.aload_n 1, 1) := by decide +kernel
theorem dX4_copyFrom_49 : decode cX4_copyFrom 49 = .ok (.getfield 36, 3) := by decide +kernel
theorem dX4_copyFrom_52 : decode cX4_copyFrom 52 = .ok (.iconst 0, 1) := by decide +kernel
theorem dX4_copyFrom_53 : decode cX4_copyFrom 53 = .ok (.aload_n 0, 1) := by decide +kernel
theorem dX4_copyFrom_54 : decode cX4_copyFrom 54 = .ok (.getfield 36, 3) := by decide +kernel
theorem dX4_copyFrom_57 : decode cX4_copyFrom 57 = .ok (.iconst 0, 1) := by decide +kernel
theorem dX4_copyFrom_58 : decode cX4_copyFrom 58 = .ok (.bipush 10, 2) := by decide +kernel
theorem dX4_copyFrom_60 : decode cX4_copyFrom 60 = .ok (.invokestatic 49, 3) := by decide +kernel
theorem dX4_copyFrom_63 : decode cX4_copyFrom 63 = .ok (.return_, 1) := by decide +kernel
theorem dX5_init_0 : decode cX5_init 0 = .ok (.aload_n 0, 1) := by decide +kernel
theorem dX5_init_1 : decode cX5_init 1 = .ok (.invokespecial 3, 3) := by decide +kernel
theorem dX5_init_4 : decode cX5_init 4 = .ok (.aload_n 0, 1) := by decide +kernel
theorem dX5_init_5 : decode cX5_init 5 = .ok (.sipush 144, 3) := by decide +kernel
theorem dX5_init_8 : decode cX5_init 8 = .ok (.newarray .int, 2) := by decide +kernel
theorem dX5_init_10 : decode cX5_init 10 = .ok (.putfield 9, 3) := by decide +kernel
theorem dX5_init_13 : decode cX5_init 13 = .ok (.aload_n 0, 1) := by decide +kernel
theorem dX5_init_14 : decode cX5_init 14 = .ok (.sipush 144, 3) := by decide +kernel
theorem dX5_init_17 : decode cX5_init 17 = .ok (.newarray .int, 2) := by decide +kernel
theorem dX5_init_19 : decode cX5_init 19 = .ok (.putfield 15, 3) := by decide +kernel
theorem dX5_init_22 : decode cX5_init 22 = .ok (.aload_n 0, 1) := by decide +kernel
theorem dX5_init_23 : decode cX5_init 23 = .ok (.sipush 144, 3) := by decide +kernel
theorem dX5_init_26 : decode cX5_init 26 = .ok (.newarray .int, 2) := by decide +kernel
theorem dX5_init_28 : decode cX5_init 28 = .ok (.putfield 18, 3) := by decide +kernel
theorem dX5_init_31 : decode cX5_init 31 = .ok (.aload_n 0, 1) := by decide +kernel
theorem dX5_init_32 : decode cX5_init 32 = .ok (.sipush 144, 3) := by decide +kernel
theorem dX5_init_35 : decode cX5_init 35 = .ok (.newarray .int, 2) := by decide +kernel
theorem dX5_init_37 : decode cX5_init 37 = .ok (.putfield 21, 3) := by decide +kernel
theorem dX5_init_40 : decode cX5_init 40 = .ok (.aload_n 0, 1) := by decide +kernel
theorem dX5_init_41 : decode cX5_init 41 = .ok (.sipush 144, 3) := by decide +kernel
theorem dX5_init_44 : decode cX5_init 44 = .ok (.newarray .int, 2) := by decide +kernel
theorem dX5_init_46 : decode cX5_init 46 = .ok (.putfield 24, 3) := by decide +kernel
theorem dX5_init_49 : decode cX5_init 49 = .ok (.iconst 0, 1) := by decide +kernel
theorem dX5_init_50 : decode cX5_init 50 = .ok (.istore_n 1, 1) := by decide +kernel
theorem dX5_init_51 : decode cX5_init 51 = .ok (.iload_n 1, 1) := by decide +kernel
theorem dX5_init_52 : decode cX5_init 52 = .ok (.sipush 144, 3) := by decide +kernel
theorem dX5_init_55 : decode cX5_init 55 = .ok (.if_icmp .ge 16, 3) := by decide +kernel
theorem dX5_init_58 : decode cX5_init 58 = .ok (.aload_n 0, 1) := by decide +kernel
theorem dX5_init_59 : decode cX5_init 59 = .ok (.getfield 21, 3) := by decide +kernel
theorem dX5_init_62 : decode cX5_init 62 = .ok (.iload_n 1, 1) := by decide +kernel
theorem dX5_init_63 : decode cX5_init 63 = .ok (.iconst (-1), 1) := by decide +kernel
theorem dX5_init_64 : decode cX5_init 64 = .ok (.iastore, 1) := by decide +kernel
theorem dX5_init_65 : decode cX5_init 65 = .ok (.iinc 1 1, 3) := by decide +kernel
theorem dX5_init_68 : decode cX5_init 68 = .ok (.goto (-17), 3) := by decide +kernel
theorem dX5_init_71 : decode cX5_init 71 = .ok (.return_, 1) := by decide +kernel
theorem dX5_copyFrom_0 : decode cX5_copyFrom 0 = .ok (.aload_n 1, 1) := by decide +kernel
theorem dX5_copyFrom_1 : decode cX5_copyFrom 1 = .ok (.getfield 9, 3) := by decide +kernel
theorem dX5_copyFrom_4 : decode cX5_copyFrom 4 = .ok (.iconst 0, 1) := by decide +kernel
theorem dX5_copyFrom_5 : decode cX5_copyFrom 5 = .ok (.aload_n 0, 1) := by decide +kernel
theorem dX5_copyFrom_6 : decode cX5_copyFrom 6 = .ok (.getfield 9, 3) := by decide +kernel
theorem dX5_copyFrom_9 : decode cX5_copyFrom 9 = .ok (.iconst 0, 1) := by decide +kernel
theorem dX5_copyFrom_10 : decode cX5_copyFrom 10 = .ok (.sipush 144, 3) := by decide +kernel
theorem dX5_copyFrom_13 : decode cX5_copyFrom 13 = .ok (.invokestatic 27, 3) := by decide +kernel
theorem dX5_copyFrom_16 : decode cX5_copyFrom 16 = .ok (.aload_n 1, 1) := by decide +kernel
theorem dX5_copyFrom_17 : decode cX5_copyFrom 17 = .ok (.getfield 15, 3) := by decide +kernel
theorem dX5_copyFrom_20 : decode cX5_copyFrom 20 = .ok (.iconst 0, 1) := by decide +kernel
theorem dX5_copyFrom_21 : decode cX5_copyFrom 21 = .ok (.aload_n 0, 1) := by decide +kernel
theorem dX5_copyFrom_22 : decode cX5_copyFrom 22 = .ok (.getfield 15, 3) := by decide +kernel
theorem dX5_copyFrom_25 : decode cX5_copyFrom 25 = .ok (.iconst 0, 1) := by decide +kernel
theorem dX5_copyFrom_26 : decode cX5_copyFrom 26 = .ok (.sipush 144, 3) := by decide +kernel
theorem dX5_copyFrom_29 : decode cX5_copyFrom 29 = .ok (.invokestatic 27, 3) := by decide +kernel
theorem dX5_copyFrom_32 : decode cX5_copyFrom 32 = .ok (.aload_n 1, 1) := by decide +kernel
theorem dX5_copyFrom_33 : decode cX5_copyFrom 33 = .ok (.getfield 18, 3) := by decide +kernel
theorem dX5_copyFrom_36 : decode cX5_copyFrom 36 = .ok (.iconst 0, 1) := by decide +kernel
theorem dX5_copyFrom_37 : decode cX5_copyFrom 37 = .ok (.aload_n 0, 1) := by decide +kernel
theorem dX5_copyFrom_38 : decode cX5_copyFrom 38 = .ok (.getfield 18, 3) := by decide +kernel
theorem dX5_copyFrom_41 : decode cX5_copyFrom 41 = .ok (.iconst 0, 1) := by decide +kernel
theorem dX5_copyFrom_42 : decode cX5_copyFrom 42 = .ok (.sipush 144, 3) := by decide +kernel
theorem dX5_copyFrom_45 : decode cX5_copyFrom 45 = .ok (.invokestatic 27, 3) := by decide +kernel
theorem dX5_copyFrom_48 : decode cX5_copyFrom 48 = .ok (.aload_n 1, 1) := by decide +kernel
theorem dX5_copyFrom_49 : decode cX5_copyFrom 49 = .ok (.getfield 21, 3) := by decide +kernel
theorem dX5_copyFrom_52 : decode cX5_copyFrom 52 = .ok (.iconst 0, 1) := by decide +kernel
theorem dX5_copyFrom_53 : decode cX5_copyFrom 53 = .ok (.aload_n 0, 1) := by decide +kernel
theorem dX5_copyFrom_54 : decode cX5_copyFrom 54 = .ok (.getfield 21, 3) := by decide +kernel
theorem dX5_copyFrom_57 : decode cX5_copyFrom 57 = .ok (.iconst 0, 1) := by decide +kernel
theorem dX5_copyFrom_58 : decode cX5_copyFrom 58 = .ok (.sipush 144, 3) := by decide +kernel
theorem dX5_copyFrom_61 : decode cX5_copyFrom 61 = .ok (.invokestatic 27, 3) := by decide +kernel
theorem dX5_copyFrom_64 : decode cX5_copyFrom 64 = .ok (.aload_n 0, 1) := by decide +kernel
theorem dX5_copyFrom_65 : decode cX5_copyFrom 65 = .ok (.aload_n 1, 1) := by decide +kernel
theorem dX5_copyFrom_66 : decode cX5_copyFrom 66 = .ok (.getfield 33, 3) := by decide +kernel
theorem dX5_copyFrom_69 : decode cX5_copyFrom 69 = .ok (.putfield 33, 3) := by decide +kernel
theorem dX5_copyFrom_72 : decode cX5_copyFrom 72 = .ok (.aload_n 0, 1) := by decide +kernel
theorem dX5_copyFrom_73 : decode cX5_copyFrom 73 = .ok (.aload_n 1, 1) := by decide +kernel
theorem dX5_copyFrom_74 : decode cX5_copyFrom 74 = .ok (.getfield 37, 3) := by decide +kernel
theorem dX5_copyFrom_77 : decode cX5_copyFrom 77 = .ok (.putfield 37, 3) := by decide +kernel
theorem dX5_copyFrom_80 : decode cX5_copyFrom 80 = .ok (.aload_n 0, 1) := by decide +kernel
theorem dX5_copyFrom_81 : decode cX5_copyFrom 81 = .ok (.aload_n 1, 1) := by decide +kernel
theorem dX5_copyFrom_82 : decode cX5_copyFrom 82 = .ok (.getfield 41, 3) := by decide +kernel
theorem dX5_copyFrom_85 : decode cX5_copyFrom 85 = .ok (.putfield 41, 3) := by decide +kernel
theorem dX5_copyFrom_88 : decode cX5_copyFrom 88 = .ok (.aload_n 0, 1) := by decide +kernel
theorem dX5_copyFrom_89 : decode cX5_copyFrom 89 = .ok (.aload_n 1, 1) := by decide +kernel
theorem dX5_copyFrom_90 : decode cX5_copyFrom 90 = .ok (.getfield 44, 3) := by decide +kernel
theorem dX5_copyFrom_93 : decode cX5_copyFrom 93 = .ok (.putfield 44, 3) := by decide +kernel
theorem dX5_copyFrom_96 : decode cX5_copyFrom 96 = .ok (.return_, 1) := by decide +kernel
theorem dX5_changeGround_0 : decode cX5_changeGround 0 = .ok (.iload_n 1, 1) := by decide +kernel
theorem dX5_changeGround_1 : decode cX5_changeGround 1 = .ok (.iconst 0, 1) := by decide +kernel
theorem dX5_changeGround_2 : decode cX5_changeGround 2 = .ok (.sipush 143, 3) := by decide +kernel
theorem dX5_changeGround_5 : decode cX5_changeGround 5 = .ok (.invokestatic 47, 3) := by decide +kernel
theorem dX5_changeGround_8 : decode cX5_changeGround 8 = .ok (.ifCond .ne 5, 3) := by decide +kernel
theorem dX5_changeGround_11 : decode cX5_changeGround 11 = .ok (.iconst (-1), 1) := by decide +kernel
theorem dX5_changeGround_12 : decode cX5_changeGround 12 = .ok (.ireturn, 1) := by decide +kernel
theorem dX5_changeGround_13 : decode cX5_changeGround 13 = .ok (.aload_n 0, 1) := by decide +kernel
theorem dX5_changeGround_14 : decode cX5_changeGround 14 = .ok (.getfield 9, 3) := by decide +kernel
theorem dX5_changeGround_17 : decode cX5_changeGround 17 = .ok (.iload_n 1, 1) := by decide +kernel
theorem dX5_changeGround_18 : decode cX5_changeGround 18 = .ok (.iaload, 1) := by decide +kernel
theorem dX5_changeGround_19 : decode cX5_changeGround 19 = .ok (.istore_n 3, 1) := by decide +kernel
theorem dX5_changeGround_20 : decode cX5_changeGround 20 = .ok (.aload_n 0, 1) := by decide +kernel
theorem dX5_changeGround_21 : decode cX5_changeGround 21 = .ok (.getfield 9, 3) := by decide +kernel
theorem dX5_changeGround_24 : decode cX5_changeGround 24 = .ok (.iload_n 1, 1) := by decide +kernel
theorem dX5_changeGround_25 : decode cX5_changeGround 25 = .ok (.iload_n 2, 1) := by decide +kernel
theorem dX5_changeGround_26 : decode cX5_changeGround 26 = .ok (.iastore, 1) := by decide +kernel
theorem dX5_changeGround_27 : decode cX5_changeGround 27 = .ok (.iload_n 3, 1) := by decide +kernel
theorem dX5_changeGround_28 : decode cX5_changeGround 28 = .ok (.ireturn, 1) := by decide +kernel
theorem dX5_startWave_0 : decode cX5_startWave 0 = .ok (.iconst 0, 1) := by decide +kernel
theorem dX5_startWave_1 : decode cX5_startWave 1 = .ok (.istore 5, 2) := by decide +kernel
theorem dX5_startWave_3 : decode cX5_startWave 3 = .ok (.iload 5, 2) := by decide +kernel
theorem dX5_startWave_5 : decode cX5_startWave 5 = .ok (.sipush 144, 3) := by decide +kernel
theorem dX5_startWave_8 : decode cX5_startWave 8 = .ok (.if_icmp .ge 43, 3) := by decide +kernel
theorem dX5_startWave_11 : decode cX5_startWave 11 = .ok (.aload_n 0, 1) := by decide +kernel
theorem dX5_startWave_12 : decode cX5_startWave 12 = .ok (.getfield 15, 3) := by decide +kernel
theorem dX5_startWave_15 : decode cX5_startWave 15 = .ok (.iload 5, 2) := by decide +kernel
theorem dX5_startWave_17 : decode cX5_startWave 17 = .ok (.iload 5, 2) := by decide +kernel
theorem dX5_startWave_19 : decode cX5_startWave 19 = .ok (.iload_n 1, 1) := by decide +kernel
theorem dX5_startWave_20 : decode cX5_startWave 20 = .ok (.if_icmp .ne 7, 3) := by decide +kernel
theorem dX5_startWave_23 : decode cX5_startWave 23 = .ok (.iload_n 2, 1) := by decide +kernel
theorem dX5_startWave_24 : decode cX5_startWave 24 = .ok (.goto 4, 3) := by decide +kernel
theorem dX5_startWave_27 : decode cX5_startWave 27 = .ok (.iconst 0, 1) := by decide +kernel
theorem dX5_startWave_28 : decode cX5_startWave 28 = .ok (.iastore, 1) := by decide +kernel
theorem dX5_startWave_29 : decode cX5_startWave 29 = .ok (.aload_n 0, 1) := by decide +kernel
theorem dX5_startWave_30 : decode cX5_startWave 30 = .ok (.getfield 18, 3) := by decide +kernel
theorem dX5_startWave_33 : decode cX5_startWave 33 = .ok (.iload 5, 2) := by decide +kernel
theorem dX5_startWave_35 : decode cX5_startWave 35 = .ok (.iconst 0, 1) := by decide +kernel
theorem dX5_startWave_36 : decode cX5_startWave 36 = .ok (.iastore, 1) := by decide +kernel
theorem dX5_startWave_37 : decode cX5_startWave 37 = .ok (.aload_n 0, 1) := by decide +kernel
theorem dX5_startWave_38 : decode cX5_startWave 38 = .ok (.getfield 21, 3) := by decide +kernel
theorem dX5_startWave_41 : decode cX5_startWave 41 = .ok (.iload 5, 2) := by decide +kernel
theorem dX5_startWave_43 : decode cX5_startWave 43 = .ok (.iconst (-1), 1) := by decide +kernel
theorem dX5_startWave_44 : decode cX5_startWave 44 = .ok (.iastore, 1) := by decide +kernel
theorem dX5_startWave_45 : decode cX5_startWave 45 = .ok (.iinc 5 1, 3) := by decide +kernel
theorem dX5_startWave_48 : decode cX5_startWave 48 = .ok (.goto (-45), 3) := by decide +kernel
theorem dX5_startWave_51 : decode cX5_startWave 51 = .ok (.aload_n 0, 1) := by decide +kernel
theorem dX5_startWave_52 : decode cX5_startWave 52 = .ok (.iconst 1, 1) := by decide +kernel
theorem dX5_startWave_53 : decode cX5_startWave 53 = .ok (.putfield 33, 3) := by decide +kernel
theorem dX5_startWave_56 : decode cX5_startWave 56 = .ok (.aload_n 0, 1) := by decide +kernel
theorem dX5_startWave_57 : decode cX5_startWave 57 = .ok (.iconst 0, 1) := by decide +kernel
theorem dX5_startWave_58 : decode cX5_startWave 58 = .ok (.putfield 37, 3) := by decide +kernel
theorem dX5_startWave_61 : decode cX5_startWave 61 = .ok (.aload_n 0, 1) := by decide +kernel
theorem dX5_startWave_62 : decode cX5_startWave 62 = .ok (.iload_n 3, 1) := by decide +kernel
theorem dX5_startWave_63 : decode cX5_startWave 63 = .ok (.putfield 41, 3) := by decide +kernel
theorem dX5_startWave_66 : decode cX5_startWave 66 = .ok (.aload_n 0, 1) := by decide +kernel
theorem dX5_startWave_67 : decode cX5_startWave 67 = .ok (.iload 4, 2) := by decide +kernel
theorem dX5_startWave_69 : decode cX5_startWave 69 = .ok (.putfield 44, 3) := by decide +kernel
theorem dX5_startWave_72 : decode cX5_startWave 72 = .ok (.aload_n 0, 1) := by decide +kernel
theorem dX5_startWave_73 : decode cX5_startWave 73 = .ok (.invokevirtual 51, 3) := by decide +kernel
theorem dX5_startWave_76 : decode cX5_startWave 76 = .ok (.return_, 1) := by decide +kernel
theorem dX5_passMinutes_0 : decode cX5_passMinutes 0 = .ok (.aload_n 0, 1) := by decide +kernel
theorem dX5_passMinutes_1 : decode cX5_passMinutes 1 = .ok (.getfield 33, 3) := by decide +kernel
theorem dX5_passMinutes_4 : decode cX5_passMinutes 4 = .ok (.ifCond .ne 5, 3) := by decide +kernel
theorem dX5_passMinutes_7 : decode cX5_passMinutes 7 = .ok (.iconst (-1), 1) := by decide +kernel
theorem dX5_passMinutes_8 : decode cX5_passMinutes 8 = .ok (.ireturn, 1) := by decide +kernel
theorem dX5_passMinutes_9 : decode cX5_passMinutes 9 = .ok (.iconst 0, 1) := by decide +kernel
theorem dX5_passMinutes_10 : decode cX5_passMinutes 10 = .ok (.istore_n 2, 1) := by decide +kernel
theorem dX5_passMinutes_11 : decode cX5_passMinutes 11 = .ok (.iload_n 2, 1) := by decide +kernel
theorem dX5_passMinutes_12 : decode cX5_passMinutes 12 = .ok (.iload_n 1, 1) := by decide +kernel
theorem dX5_passMinutes_13 : decode cX5_passMinutes 13 = .ok (.if_icmp .ge 46, 3) := by decide +kernel
theorem dX5_passMinutes_16 : decode cX5_passMinutes 16 = .ok (.aload_n 0, 1) := by decide +kernel
theorem dX5_passMinutes_17 : decode cX5_passMinutes 17 = .ok (.aload_n 0, 1) := by decide +kernel
theorem dX5_passMinutes_18 : decode cX5_passMinutes 18 = .ok (.getfield 37, 3) := by decide +kernel
theorem dX5_passMinutes_21 : decode cX5_passMinutes 21 = .ok (.aload_n 0, 1) := by decide +kernel
theorem dX5_passMinutes_22 : decode cX5_passMinutes 22 = .ok (.getfield 41, 3) := by decide +kernel
theorem dX5_passMinutes_25 : decode cX5_passMinutes 25 = .ok (.if_icmp .ge 7, 3) := by decide +kernel
theorem dX5_passMinutes_28 : decode cX5_passMinutes 28 = .ok (.iconst 0, 1) := by decide +kernel
theorem dX5_passMinutes_29 : decode cX5_passMinutes 29 = .ok (.goto 7, 3) := by decide +kernel
theorem dX5_passMinutes_32 : decode cX5_passMinutes 32 = .ok (.aload_n 0, 1) := by decide +kernel
theorem dX5_passMinutes_33 : decode cX5_passMinutes 33 = .ok (.getfield 44, 3) := by decide +kernel
theorem dX5_passMinutes_36 : decode cX5_passMinutes 36 = .ok (.invokevirtual 54, 3) := by decide +kernel
theorem dX5_passMinutes_39 : decode cX5_passMinutes 39 = .ok (.aload_n 0, 1) := by decide +kernel
theorem dX5_passMinutes_40 : decode cX5_passMinutes 40 = .ok (.dup, 1) := by decide +kernel
theorem dX5_passMinutes_41 : decode cX5_passMinutes 41 = .ok (.getfield 37, 3) := by decide +kernel
theorem dX5_passMinutes_44 : decode cX5_passMinutes 44 = .ok (.iconst 1, 1) := by decide +kernel
theorem dX5_passMinutes_45 : decode cX5_passMinutes 45 = .ok (.iadd, 1) := by decide +kernel
theorem dX5_passMinutes_46 : decode cX5_passMinutes 46 = .ok (.putfield 37, 3) := by decide +kernel
theorem dX5_passMinutes_49 : decode cX5_passMinutes 49 = .ok (.aload_n 0, 1) := by decide +kernel
theorem dX5_passMinutes_50 : decode cX5_passMinutes 50 = .ok (.invokevirtual 51, 3) := by decide +kernel
theorem dX5_passMinutes_53 : decode cX5_passMinutes 53 = .ok (.iinc 2 1, 3) := by decide +kernel
theorem dX5_passMinutes_56 : decode cX5_passMinutes 56 = .ok (.goto (-45), 3) := by decide +kernel
theorem dX5_passMinutes_59 : decode cX5_passMinutes 59 = .ok (.aload_n 0, 1) := by decide +kernel
theorem dX5_passMinutes_60 : decode cX5_passMinutes 60 = .ok (.getfield 37, 3) := by decide +kernel
theorem dX5_passMinutes_63 : decode cX5_passMinutes 63 = .ok (.ireturn, 1) := by decide +kernel
theorem dX5_flow_0 : decode cX5_flow 0 = .ok (.iconst 0, 1) := by decide +kernel
theorem dX5_flow_1 : decode cX5_flow 1 = .ok (.istore_n 2, 1) := by decide +kernel
theorem dX5_flow_2 : decode cX5_flow 2 = .ok (.iload_n 2, 1) := by decide +kernel
theorem dX5_flow_3 : decode cX5_flow 3 = .ok (.sipush 144, 3) := by decide +kernel
theorem dX5_flow_6 : decode cX5_flow 6 = .ok (.if_icmp .ge 16, 3) := by decide +kernel
theorem dX5_flow_9 : decode cX5_flow 9 = .ok (.aload_n 0, 1) := by decide +kernel
theorem dX5_flow_10 : decode cX5_flow 10 = .ok (.getfield 24, 3) := by decide +kernel
theorem dX5_flow_13 : decode cX5_flow 13 = .ok (.iload_n 2, 1) := by decide +kernel
theorem dX5_flow_14 : decode cX5_flow 14 = .ok (.iconst 0, 1) := by decide +kernel
theorem dX5_flow_15 : decode cX5_flow 15 = .ok (.iastore, 1) := by decide +kernel
theorem dX5_flow_16 : decode cX5_flow 16 = .ok (.iinc 2 1, 3) := by decide +kernel
theorem dX5_flow_19 : decode cX5_flow 19 = .ok (.goto (-17), 3) := by decide +kernel
theorem dX5_flow_22 : decode cX5_flow 22 = .ok (.iconst 0, 1) := by decide +kernel
theorem dX5_flow_23 : decode cX5_flow 23 = .ok (.istore_n 2, 1) := by decide +kernel
theorem dX5_flow_24 : decode cX5_flow 24 = .ok (.iload_n 2, 1) := by decide +kernel
theorem dX5_flow_25 : decode cX5_flow 25 = .ok (.sipush 144, 3) := by decide +kernel
theorem dX5_flow_28 : decode cX5_flow 28 = .ok (.if_icmp .ge 75, 3) := by decide +kernel
theorem dX5_flow_31 : decode cX5_flow 31 = .ok (.iload_n 2, 1) := by decide +kernel
theorem dX5_flow_32 : decode cX5_flow 32 = .ok (.bipush 12, 2) := by decide +kernel
theorem dX5_flow_34 : decode cX5_flow 34 = .ok (.irem, 1) := by decide +kernel
theorem dX5_flow_35 : decode cX5_flow 35 = .ok (.istore_n 3, 1) := by decide +kernel
theorem dX5_flow_36 : decode cX5_flow 36 = .ok (.iload_n 3, 1) := by decide +kernel
theorem dX5_flow_37 : decode cX5_flow 37 = .ok (.ifCond .le 12, 3) := by decide +kernel
theorem dX5_flow_40 : decode cX5_flow 40 = .ok (.aload_n 0, 1) := by decide +kernel
theorem dX5_flow_41 : decode cX5_flow 41 = .ok (.iload_n 2, 1) := by decide +kernel
theorem dX5_flow_42 : decode cX5_flow 42 = .ok (.iload_n 2, 1) := by decide +kernel
theorem dX5_flow_43 : decode cX5_flow 43 = .ok (.iconst 1, 1) := by decide +kernel
theorem dX5_flow_44 : decode cX5_flow 44 = .ok (.isub, 1) := by decide +kernel
theorem dX5_flow_45 : decode cX5_flow 45 = .ok (.iload_n 1, 1) := by decide +kernel
theorem dX5_flow_46 : decode cX5_flow 46 = .ok (.invokevirtual 58, 3) := by decide +kernel
theorem dX5_flow_49 : decode cX5_flow 49 = .ok (.iload_n 3, 1) := by decide +kernel
theorem dX5_flow_50 : decode cX5_flow 50 = .ok (.bipush 11, 2) := by decide +kernel
theorem dX5_flow_52 : decode cX5_flow 52 = .ok (.if_icmp .ge 12, 3) := by decide +kernel
theorem dX5_flow_55 : decode cX5_flow 55 = .ok (.aload_n 0, 1) := by decide +kernel
theorem dX5_flow_56 : decode cX5_flow 56 = .ok (.iload_n 2, 1) := by decide +kernel
theorem dX5_flow_57 : decode cX5_flow 57 = .ok (.iload_n 2, 1) := by decide +kernel
theorem dX5_flow_58 : decode cX5_flow 58 = .ok (.iconst 1, 1) := by decide +kernel
theorem dX5_flow_59 : decode cX5_flow 59 = .ok (.iadd, 1) := by decide +kernel
theorem dX5_flow_60 : decode cX5_flow 60 = .ok (.iload_n 1, 1) := by decide +kernel
theorem dX5_flow_61 : decode cX5_flow 61 = .ok (.invokevirtual 58, 3) := by decide +kernel
theorem dX5_flow_64 : decode cX5_flow 64 = .ok (.iload_n 2, 1) := by decide +kernel
theorem dX5_flow_65 : decode cX5_flow 65 = .ok (.bipush 12, 2) := by decide +kernel
theorem dX5_flow_67 : decode cX5_flow 67 = .ok (.if_icmp .lt 13, 3) := by decide +kernel
theorem dX5_flow_70 : decode cX5_flow 70 = .ok (.aload_n 0, 1) := by decide +kernel
theorem dX5_flow_71 : decode cX5_flow 71 = .ok (.iload_n 2, 1) := by decide +kernel
theorem dX5_flow_72 : decode cX5_flow 72 = .ok (.iload_n 2, 1) := by decide +kernel
theorem dX5_flow_73 : decode cX5_flow 73 = .ok (.bipush 12, 2) := by decide +kernel
theorem dX5_flow_75 : decode cX5_flow 75 = .ok (.isub, 1) := by decide +kernel
theorem dX5_flow_76 : decode cX5_flow 76 = .ok (.iload_n 1, 1) := by decide +kernel
theorem dX5_flow_77 : decode cX5_flow 77 = .ok (.invokevirtual 58, 3) := by decide +kernel
theorem dX5_flow_80 : decode cX5_flow 80 = .ok (.iload_n 2, 1) := by decide +kernel
theorem dX5_flow_81 : decode cX5_flow 81 = .ok (.sipush 132, 3) := by decide +kernel
theorem dX5_flow_84 : decode cX5_flow 84 = .ok (.if_icmp .ge 13, 3) := by decide +kernel
theorem dX5_flow_87 : decode cX5_flow 87 = .ok (.aload_n 0, 1) := by decide +kernel
theorem dX5_flow_88 : decode cX5_flow 88 = .ok (.iload_n 2, 1) := by decide +kernel
theorem dX5_flow_89 : decode cX5_flow 89 = .ok (.iload_n 2, 1) := by decide +kernel
theorem dX5_flow_90 : decode cX5_flow 90 = .ok (.bipush 12, 2) := by decide +kernel
theorem dX5_flow_92 : decode cX5_flow 92 = .ok (.iadd, 1) := by decide +kernel
theorem dX5_flow_93 : decode cX5_flow 93 = .ok (.iload_n 1, 1) := by decide +kernel
theorem dX5_flow_94 : decode cX5_flow 94 = .ok (.invokevirtual 58, 3) := by decide +kernel
theorem dX5_flow_97 : decode cX5_flow 97 = .ok (.iinc 2 1, 3) := by decide +kernel
theorem dX5_flow_100 : decode cX5_flow 100 = .ok (.goto (-76), 3) := by decide +kernel
theorem dX5_flow_103 : decode cX5_flow 103 = .ok (.iconst 0, 1) := by decide +kernel
theorem dX5_flow_104 : decode cX5_flow 104 = .ok (.istore_n 2, 1) := by decide +kernel
theorem dX5_flow_105 : decode cX5_flow 105 = .ok (.iload_n 2, 1) := by decide +kernel
theorem dX5_flow_106 : decode cX5_flow 106 = .ok (.sipush 144, 3) := by decide +kernel
theorem dX5_flow_109 : decode cX5_flow 109 = .ok (.if_icmp .ge 24, 3) := by decide +kernel
theorem dX5_flow_112 : decode cX5_flow 112 = .ok (.aload_n 0, 1) := by decide +kernel
theorem dX5_flow_113 : decode cX5_flow 113 = .ok (.getfield 15, 3) := by decide +kernel
theorem dX5_flow_116 : decode cX5_flow 116 = .ok (.iload_n 2, 1) := by decide +kernel
theorem dX5_flow_117 : decode cX5_flow 117 = .ok (.dup2, 1) := by decide +kernel
theorem dX5_flow_118 : decode cX5_flow 118 = .ok (.iaload, 1) := by decide +kernel
theorem dX5_flow_119 : decode cX5_flow 119 = .ok (.aload_n 0, 1) := by decide +kernel
theorem dX5_flow_120 : decode cX5_flow 120 = .ok (.getfield 24, 3) := by decide +kernel
theorem dX5_flow_123 : decode cX5_flow 123 = .ok (.iload_n 2, 1) := by decide +kernel
theorem dX5_flow_124 : decode cX5_flow 124 = .ok (.iaload, 1) := by decide +kernel
theorem dX5_flow_125 : decode cX5_flow 125 = .ok (.iadd, 1) := by decide +kernel
theorem dX5_flow_126 : decode cX5_flow 126 = .ok (.iastore, 1) := by decide +kernel
theorem dX5_flow_127 : decode cX5_flow 127 = .ok (.iinc 2 1, 3) := by decide +kernel
theorem dX5_flow_130 : decode cX5_flow 130 = .ok (.goto (-25), 3) := by decide +kernel
theorem dX5_flow_133 : decode cX5_flow 133 = .ok (.return_, 1) := by decide +kernel
theorem dX5_goOver_0 : decode cX5_goOver 0 = .ok (.aload_n 0, 1) := by decide +kernel
theorem dX5_goOver_1 : decode cX5_goOver 1 = .ok (.getfield 9, 3) := by decide +kernel
theorem dX5_goOver_4 : decode cX5_goOver 4 = .ok (.iload_n 1, 1) := by decide +kernel
theorem dX5_goOver_5 : decode cX5_goOver 5 = .ok (.iaload, 1) := by decide +kernel
theorem dX5_goOver_6 : decode cX5_goOver 6 = .ok (.aload_n 0, 1) := by decide +kernel
theorem dX5_goOver_7 : decode cX5_goOver 7 = .ok (.getfield 15, 3) := by decide +kernel
theorem dX5_goOver_10 : decode cX5_goOver 10 = .ok (.iload_n 1, 1) := by decide +kernel
theorem dX5_goOver_11 : decode cX5_goOver 11 = .ok (.iaload, 1) := by decide +kernel
theorem dX5_goOver_12 : decode cX5_goOver 12 = .ok (.iadd, 1) := by decide +kernel
theorem dX5_goOver_13 : decode cX5_goOver 13 = .ok (.aload_n 0, 1) := by decide +kernel
theorem dX5_goOver_14 : decode cX5_goOver 14 = .ok (.getfield 9, 3) := by decide +kernel
theorem dX5_goOver_17 : decode cX5_goOver 17 = .ok (.iload_n 2, 1) := by decide +kernel
theorem dX5_goOver_18 : decode cX5_goOver 18 = .ok (.iaload, 1) := by decide +kernel
theorem dX5_goOver_19 : decode cX5_goOver 19 = .ok (.isub, 1) := by decide +kernel
theorem dX5_goOver_20 : decode cX5_goOver 20 = .ok (.aload_n 0, 1) := by decide +kernel
theorem dX5_goOver_21 : decode cX5_goOver 21 = .ok (.getfield 15, 3) := by decide +kernel
theorem dX5_goOver_24 : decode cX5_goOver 24 = .ok (.iload_n 2, 1) := by decide +kernel
theorem dX5_goOver_25 : decode cX5_goOver 25 = .ok (.iaload, 1) := by decide +kernel
theorem dX5_goOver_26 : decode cX5_goOver 26 = .ok (.isub, 1) := by decide +kernel
theorem dX5_goOver_27 : decode cX5_goOver 27 = .ok (.iload_n 3, 1) := by decide +kernel
theorem dX5_goOver_28 : decode cX5_goOver 28 = .ok (.isub, 1) := by decide +kernel
theorem dX5_goOver_29 : decode cX5_goOver 29 = .ok (.istore 4, 2) := by decide +kernel
theorem dX5_goOver_31 : decode cX5_goOver 31 = .ok (.iload 4, 2) := by decide +kernel
theorem dX5_goOver_33 : decode cX5_goOver 33 = .ok (.ifCond .le 43, 3) := by decide +kernel
theorem dX5_goOver_36 : decode cX5_goOver 36 = .ok (.iload 4, 2) := by decide +kernel
theorem dX5_goOver_38 : decode cX5_goOver 38 = .ok (.bipush 6, 2) := by decide +kernel
theorem dX5_goOver_40 : decode cX5_goOver 40 = .ok (.idiv, 1) := by decide +kernel
theorem dX5_goOver_41 : decode cX5_goOver 41 = .ok (.aload_n 0, 1) := by decide +kernel
theorem dX5_goOver_42 : decode cX5_goOver 42 = .ok (.getfield 15, 3) := by decide +kernel
theorem dX5_goOver_45 : decode cX5_goOver 45 = .ok (.iload_n 1, 1) := by decide +kernel
theorem dX5_goOver_46 : decode cX5_goOver 46 = .ok (.iaload, 1) := by decide +kernel
theorem dX5_goOver_47 : decode cX5_goOver 47 = .ok (.iconst 4, 1) := by decide +kernel
theorem dX5_goOver_48 : decode cX5_goOver 48 = .ok (.idiv, 1) := by decide +kernel
theorem dX5_goOver_49 : decode cX5_goOver 49 = .ok (.invokestatic 62, 3) := by decide +kernel
theorem dX5_goOver_52 : decode cX5_goOver 52 = .ok (.istore 5, 2) := by decide +kernel
theorem dX5_goOver_54 : decode cX5_goOver 54 = .ok (.aload_n 0, 1) := by decide +kernel
theorem dX5_goOver_55 : decode cX5_goOver 55 = .ok (.getfield 24, 3) := by decide +kernel
theorem dX5_goOver_58 : decode cX5_goOver 58 = .ok (.iload_n 1, 1) := by decide +kernel
theorem dX5_goOver_59 : decode cX5_goOver 59 = .ok (.dup2, 1) := by decide +kernel
theorem dX5_goOver_60 : decode cX5_goOver 60 = .ok (.iaload, 1) := by decide +kernel
theorem dX5_goOver_61 : decode cX5_goOver 61 = .ok (.iload 5, 2) := by decide +kernel
theorem dX5_goOver_63 : decode cX5_goOver 63 = .ok (.isub, 1) := by decide +kernel
theorem dX5_goOver_64 : decode cX5_goOver 64 = .ok (.iastore, 1) := by decide +kernel
theorem dX5_goOver_65 : decode cX5_goOver 65 = .ok (.aload_n 0, 1) := by decide +kernel
theorem dX5_goOver_66 : decode cX5_goOver 66 = .ok (.getfield 24, 3) := by decide +kernel
theorem dX5_goOver_69 : decode cX5_goOver 69 = .ok (.iload_n 2, 1) := by decide +kernel
theorem dX5_goOver_70 : decode cX5_goOver 70 = .ok (.dup2, 1) := by decide +kernel
theorem dX5_goOver_71 : decode cX5_goOver 71 = .ok (.iaload, 1) := by decide +kernel
theorem dX5_goOver_72 : decode cX5_goOver 72 = .ok (.iload 5, 2) := by decide +kernel
theorem dX5_goOver_74 : decode cX5_goOver 74 = .ok (.iadd, 1) := by decide +kernel
theorem dX5_goOver_75 : decode cX5_goOver 75 = .ok (.iastore, 1) := by decide +kernel
theorem dX5_goOver_76 : decode cX5_goOver 76 = .ok (.return_, 1) := by decide +kernel
theorem dX5_leaveStains_0 : decode cX5_leaveStains 0 = .ok (.iconst 0, 1) := by decide +kernel
theorem dX5_leaveStains_1 : decode cX5_leaveStains 1 = .ok (.istore_n 1, 1) := by decide +kernel
theorem dX5_leaveStains_2 : decode cX5_leaveStains 2 = .ok (.iload_n 1, 1) := by decide +kernel
theorem dX5_leaveStains_3 : decode cX5_leaveStains 3 = .ok (.sipush 144, 3) := by decide +kernel
theorem dX5_leaveStains_6 : decode cX5_leaveStains 6 = .ok (.if_icmp .ge 66, 3) := by decide +kernel
theorem dX5_leaveStains_9 : decode cX5_leaveStains 9 = .ok (.aload_n 0, 1) := by decide +kernel
theorem dX5_leaveStains_10 : decode cX5_leaveStains 10 = .ok (.getfield 15, 3) := by decide +kernel
theorem dX5_leaveStains_13 : decode cX5_leaveStains 13 = .ok (.iload_n 1, 1) := by decide +kernel
theorem dX5_leaveStains_14 : decode cX5_leaveStains 14 = .ok (.iaload, 1) := by decide +kernel
theorem dX5_leaveStains_15 : decode cX5_leaveStains 15 = .ok (.ifCond .le 51, 3) := by decide +kernel
theorem dX5_leaveStains_18 : decode cX5_leaveStains 18 = .ok (.aload_n 0, 1) := by decide +kernel
theorem dX5_leaveStains_19 : decode cX5_leaveStains 19 = .ok (.getfield 18, 3) := by decide +kernel
theorem dX5_leaveStains_22 : decode cX5_leaveStains 22 = .ok (.iload_n 1, 1) := by decide +kernel
theorem dX5_leaveStains_23 : decode cX5_leaveStains 23 = .ok (.aload_n 0, 1) := by decide +kernel
theorem dX5_leaveStains_24 : decode cX5_leaveStains 24 = .ok (.getfield 18, 3) := by decide +kernel
theorem dX5_leaveStains_27 : decode cX5_leaveStains 27 = .ok (.iload_n 1, 1) := by decide +kernel
theorem dX5_leaveStains_28 : decode cX5_leaveStains 28 = .ok (.iaload, 1) := by decide +kernel
theorem dX5_leaveStains_29 : decode cX5_leaveStains 29 = .ok (.aload_n 0, 1) := by decide +kernel
theorem dX5_leaveStains_30 : decode cX5_leaveStains 30 = .ok (.getfield 9, 3) := by decide +kernel
theorem dX5_leaveStains_33 : decode cX5_leaveStains 33 = .ok (.iload_n 1, 1) := by decide +kernel
theorem dX5_leaveStains_34 : decode cX5_leaveStains 34 = .ok (.iaload, 1) := by decide +kernel
theorem dX5_leaveStains_35 : decode cX5_leaveStains 35 = .ok (.aload_n 0, 1) := by decide +kernel
theorem dX5_leaveStains_36 : decode cX5_leaveStains 36 = .ok (.getfield 15, 3) := by decide +kernel
theorem dX5_leaveStains_39 : decode cX5_leaveStains 39 = .ok (.iload_n 1, 1) := by decide +kernel
theorem dX5_leaveStains_40 : decode cX5_leaveStains 40 = .ok (.iaload, 1) := by decide +kernel
theorem dX5_leaveStains_41 : decode cX5_leaveStains 41 = .ok (.iadd, 1) := by decide +kernel
theorem dX5_leaveStains_42 : decode cX5_leaveStains 42 = .ok (.invokestatic 68, 3) := by decide +kernel
theorem dX5_leaveStains_45 : decode cX5_leaveStains 45 = .ok (.iastore, 1) := by decide +kernel
theorem dX5_leaveStains_46 : decode cX5_leaveStains 46 = .ok (.aload_n 0, 1) := by decide +kernel
theorem dX5_leaveStains_47 : decode cX5_leaveStains 47 = .ok (.getfield 21, 3) := by decide +kernel
theorem dX5_leaveStains_50 : decode cX5_leaveStains 50 = .ok (.iload_n 1, 1) := by decide +kernel
theorem dX5_leaveStains_51 : decode cX5_leaveStains 51 = .ok (.iaload, 1) := by decide +kernel
theorem dX5_leaveStains_52 : decode cX5_leaveStains 52 = .ok (.iconst (-1), 1) := by decide +kernel
theorem dX5_leaveStains_53 : decode cX5_leaveStains 53 = .ok (.if_icmp .ne 13, 3) := by decide +kernel
theorem dX5_leaveStains_56 : decode cX5_leaveStains 56 = .ok (.aload_n 0, 1) := by decide +kernel
theorem dX5_leaveStains_57 : decode cX5_leaveStains 57 = .ok (.getfield 21, 3) := by decide +kernel
theorem dX5_leaveStains_60 : decode cX5_leaveStains 60 = .ok (.iload_n 1, 1) := by decide +kernel
theorem dX5_leaveStains_61 : decode cX5_leaveStains 61 = .ok (.aload_n 0, 1) := by decide +kernel
theorem dX5_leaveStains_62 : decode cX5_leaveStains 62 = .ok (.getfield 37, 3) := by decide +kernel
theorem dX5_leaveStains_65 : decode cX5_leaveStains 65 = .ok (.iastore, 1) := by decide +kernel
theorem dX5_leaveStains_66 : decode cX5_leaveStains 66 = .ok (.iinc 1 1, 3) := by decide +kernel
theorem dX5_leaveStains_69 : decode cX5_leaveStains 69 = .ok (.goto (-67), 3) := by decide +kernel
theorem dX5_leaveStains_72 : decode cX5_leaveStains 72 = .ok (.return_, 1) := by decide +kernel
theorem dX5_ofPlace_0 : decode cX5_ofPlace 0 = .ok (.iload_n 1, 1) := by decide +kernel
theorem dX5_ofPlace_1 : decode cX5_ofPlace 1 = .ok (.iconst 0, 1) := by decide +kernel
theorem dX5_ofPlace_2 : decode cX5_ofPlace 2 = .ok (.sipush 143, 3) := by decide +kernel
theorem dX5_ofPlace_5 : decode cX5_ofPlace 5 = .ok (.invokestatic 47, 3) := by decide +kernel
theorem dX5_ofPlace_8 : decode cX5_ofPlace 8 = .ok (.ifCond .ne 7, 3) := by decide +kernel
theorem dX5_ofPlace_11 : decode cX5_ofPlace 11 = .ok (.sipush (-1000), 3) := by decide +kernel
theorem dX5_ofPlace_14 : decode cX5_ofPlace 14 = .ok (.ireturn, 1) := by decide +kernel
theorem dX5_ofPlace_15 : decode cX5_ofPlace 15 = .ok (.iload_n 2, 1) := by decide +kernel
theorem dX5_ofPlace_16 : decode cX5_ofPlace 16 = .ok (.tableswitch 67 0 3 #[32, 39, 53, 60], 32) := by decide +kernel
theorem dX5_ofPlace_48 : decode cX5_ofPlace 48 = .ok (.aload_n 0, 1) := by decide +kernel
theorem dX5_ofPlace_49 : decode cX5_ofPlace 49 = .ok (.getfield 15, 3) := by decide +kernel
theorem dX5_ofPlace_52 : decode cX5_ofPlace 52 = .ok (.iload_n 1, 1) := by decide +kernel
theorem dX5_ofPlace_53 : decode cX5_ofPlace 53 = .ok (.iaload, 1) := by decide +kernel
theorem dX5_ofPlace_54 : decode cX5_ofPlace 54 = .ok (.ireturn, 1) := by decide +kernel
theorem dX5_ofPlace_55 : decode cX5_ofPlace 55 = .ok (.aload_n 0, 1) := by decide +kernel
theorem dX5_ofPlace_56 : decode cX5_ofPlace 56 = .ok (.getfield 9, 3) := by decide +kernel
theorem dX5_ofPlace_59 : decode cX5_ofPlace 59 = .ok (.iload_n 1, 1) := by decide +kernel
theorem dX5_ofPlace_60 : decode cX5_ofPlace 60 = .ok (.iaload, 1) := by decide +kernel
theorem dX5_ofPlace_61 : decode cX5_ofPlace 61 = .ok (.aload_n 0, 1) := by decide +kernel
theorem dX5_ofPlace_62 : decode cX5_ofPlace 62 = .ok (.getfield 15, 3) := by decide +kernel
theorem dX5_ofPlace_65 : decode cX5_ofPlace 65 = .ok (.iload_n 1, 1) := by decide +kernel
theorem dX5_ofPlace_66 : decode cX5_ofPlace 66 = .ok (.iaload, 1) := by decide +kernel
theorem dX5_ofPlace_67 : decode cX5_ofPlace 67 = .ok (.iadd, 1) := by decide +kernel
theorem dX5_ofPlace_68 : decode cX5_ofPlace 68 = .ok (.ireturn, 1) := by decide +kernel
theorem dX5_ofPlace_69 : decode cX5_ofPlace 69 = .ok (.aload_n 0, 1) := by decide +kernel
theorem dX5_ofPlace_70 : decode cX5_ofPlace 70 = .ok (.getfield 18, 3) := by decide +kernel
theorem dX5_ofPlace_73 : decode cX5_ofPlace 73 = .ok (.iload_n 1, 1) := by decide +kernel
theorem dX5_ofPlace_74 : decode cX5_ofPlace 74 = .ok (.iaload, 1) := by decide +kernel
theorem dX5_ofPlace_75 : decode cX5_ofPlace 75 = .ok (.ireturn, 1) := by decide +kernel
theorem dX5_ofPlace_76 : decode cX5_ofPlace 76 = .ok (.aload_n 0, 1) := by decide +kernel
theorem dX5_ofPlace_77 : decode cX5_ofPlace 77 = .ok (.getfield 21, 3) := by decide +kernel
theorem dX5_ofPlace_80 : decode cX5_ofPlace 80 = .ok (.iload_n 1, 1) := by decide +kernel
theorem dX5_ofPlace_81 : decode cX5_ofPlace 81 = .ok (.iaload, 1) := by decide +kernel
theorem dX5_ofPlace_82 : decode cX5_ofPlace 82 = .ok (.ireturn, 1) := by decide +kernel
theorem dX5_ofPlace_83 : decode cX5_ofPlace 83 = .ok (.sipush (-1000), 3) := by decide +kernel
theorem dX5_ofPlace_86 : decode cX5_ofPlace 86 = .ok (.ireturn, 1) := by decide +kernel
theorem dX6_init_0 : decode cX6_init 0 = .ok (.aload_n 0, 1) := by decide +kernel
theorem dX6_init_1 : decode cX6_init 1 = .ok (.invokespecial 3, 3) := by decide +kernel
theorem dX6_init_4 : decode cX6_init 4 = .ok (.aload_n 0, 1) := by decide +kernel
theorem dX6_init_5 : decode cX6_init 5 = .ok (.bipush 7, 2) := by decide +kernel
theorem dX6_init_7 : decode cX6_init 7 = .ok (.anewarray 9, 3) := by decide +kernel
theorem dX6_init_10 : decode cX6_init 10 = .ok (.putfield 11, 3) := by decide +kernel
theorem dX6_init_13 : decode cX6_init 13 = .ok (.aload_n 0, 1) := by decide +kernel
theorem dX6_init_14 : decode cX6_init 14 = .ok (.bipush 30, 2) := by decide +kernel
theorem dX6_init_16 : decode cX6_init 16 = .ok (.newarray .int, 2) := by decide +kernel
theorem dX6_init_18 : decode cX6_init 18 = .ok (.putfield 17, 3) := by decide +kernel
theorem dX6_init_21 : decode cX6_init 21 = .ok (.aload_n 0, 1) := by decide +kernel
theorem dX6_init_22 : decode cX6_init 22 = .ok (.bipush 30, 2) := by decide +kernel
theorem dX6_init_24 : decode cX6_init 24 = .ok (.newarray .int, 2) := by decide +kernel
theorem dX6_init_26 : decode cX6_init 26 = .ok (.putfield 21, 3) := by decide +kernel
theorem dX6_init_29 : decode cX6_init 29 = .ok (.aload_n 0, 1) := by decide +kernel
theorem dX6_init_30 : decode cX6_init 30 = .ok (.bipush 10, 2) := by decide +kernel
theorem dX6_init_32 : decode cX6_init 32 = .ok (.putfield 24, 3) := by decide +kernel
theorem dX6_init_35 : decode cX6_init 35 = .ok (.aload_n 0, 1) := by decide +kernel
theorem dX6_init_36 : decode cX6_init 36 = .ok (.iconst (-1), 1) := by decide +kernel
theorem dX6_init_37 : decode cX6_init 37 = .ok (.putfield 28, 3) := by decide +kernel
theorem dX6_init_40 : decode cX6_init 40 = .ok (.aload_n 0, 1) := by decide +kernel
theorem dX6_init_41 : decode cX6_init 41 = .ok (.iconst (-1), 1) := by decide +kernel
theorem dX6_init_42 : decode cX6_init 42 = .ok (.putfield 31, 3) := by decide +kernel
theorem dX6_init_45 : decode cX6_init 45 = .ok (.iconst 0, 1) := by decide +kernel
theorem dX6_init_46 : decode cX6_init 46 = .ok (.istore_n 1, 1) := by decide +kernel
theorem dX6_init_47 : decode cX6_init 47 = .ok (.iload_n 1, 1) := by decide +kernel
theorem dX6_init_48 : decode cX6_init 48 = .ok (.bipush 7, 2) := by decide +kernel
theorem dX6_init_50 : decode cX6_init 50 = .ok (.if_icmp .ge 22, 3) := by decide +kernel
theorem dX6_init_53 : decode cX6_init 53 = .ok (.aload_n 0, 1) := by decide +kernel
theorem dX6_init_54 : decode cX6_init 54 = .ok (.getfield 11, 3) := by decide +kernel
theorem dX6_init_57 : decode cX6_init 57 = .ok (.iload_n 1, 1) := by decide +kernel
theorem dX6_init_58 : decode cX6_init 58 = .ok (.new 9, 3) := by decide +kernel
theorem dX6_init_61 : decode cX6_init 61 = .ok (.dup, 1) := by decide +kernel
theorem dX6_init_62 : decode cX6_init 62 = .ok (.invokespecial 34, 3) := by decide +kernel
theorem dX6_init_65 : decode cX6_init 65 = .ok (.aastore, 1) := by decide +kernel
theorem dX6_init_66 : decode cX6_init 66 = .ok (.iinc 1 1, 3) := by decide +kernel
theorem dX6_init_69 : decode cX6_init 69 = .ok (.goto (-22), 3) := by decide +kernel
theorem dX6_init_72 : decode cX6_init 72 = .ok (.return_, 1) := by decide +kernel
theorem dX6_startAnew_0 : decode cX6_startAnew 0 = .ok (.aload_n 0, 1) := by decide +kernel
theorem dX6_startAnew_1 : decode cX6_startAnew 1 = .ok (.iconst 1, 1) := by decide +kernel
theorem dX6_startAnew_2 : decode cX6_startAnew 2 = .ok (.putfield 35, 3) := by decide +kernel
theorem dX6_startAnew_5 : decode cX6_startAnew 5 = .ok (.aload_n 0, 1) := by decide +kernel
theorem dX6_startAnew_6 : decode cX6_startAnew 6 = .ok (.iload_n 1, 1) := by decide +kernel
theorem dX6_startAnew_7 : decode cX6_startAnew 7 = .ok (.putfield 39, 3) := by decide +kernel
theorem dX6_startAnew_10 : decode cX6_startAnew 10 = .ok (.aload_n 0, 1) := by decide +kernel
theorem dX6_startAnew_11 : decode cX6_startAnew 11 = .ok (.iload_n 2, 1) := by decide +kernel
theorem dX6_startAnew_12 : decode cX6_startAnew 12 = .ok (.putfield 42, 3) := by decide +kernel
theorem dX6_startAnew_15 : decode cX6_startAnew 15 = .ok (.aload_n 0, 1) := by decide +kernel
theorem dX6_startAnew_16 : decode cX6_startAnew 16 = .ok (.iload_n 3, 1) := by decide +kernel
theorem dX6_startAnew_17 : decode cX6_startAnew 17 = .ok (.putfield 45, 3) := by decide +kernel
theorem dX6_startAnew_20 : decode cX6_startAnew 20 = .ok (.aload_n 0, 1) := by decide +kernel
theorem dX6_startAnew_21 : decode cX6_startAnew 21 = .ok (.iload 4, 2) := by decide +kernel
theorem dX6_startAnew_23 : decode cX6_startAnew 23 = .ok (.putfield 48, 3) := by decide +kernel
theorem dX6_startAnew_26 : decode cX6_startAnew 26 = .ok (.aload_n 0, 1) := by decide +kernel
theorem dX6_startAnew_27 : decode cX6_startAnew 27 = .ok (.iload 5, 2) := by decide +kernel
theorem dX6_startAnew_29 : decode cX6_startAnew 29 = .ok (.putfield 51, 3) := by decide +kernel
theorem dX6_startAnew_32 : decode cX6_startAnew 32 = .ok (.aload_n 0, 1) := by decide +kernel
theorem dX6_startAnew_33 : decode cX6_startAnew 33 = .ok (.iconst 0, 1) := by decide +kernel
theorem dX6_startAnew_34 : decode cX6_startAnew 34 = .ok (.putfield 54, 3) := by decide +kernel
theorem dX6_startAnew_37 : decode cX6_startAnew 37 = .ok (.aload_n 0, 1) := by decide +kernel
theorem dX6_startAnew_38 : decode cX6_startAnew 38 = .ok (.iconst 0, 1) := by decide +kernel
theorem dX6_startAnew_39 : decode cX6_startAnew 39 = .ok (.putfield 57, 3) := by decide +kernel
theorem dX6_startAnew_42 : decode cX6_startAnew 42 = .ok (.aload_n 0, 1) := by decide +kernel
theorem dX6_startAnew_43 : decode cX6_startAnew 43 = .ok (.iconst 0, 1) := by decide +kernel
theorem dX6_startAnew_44 : decode cX6_startAnew 44 = .ok (.putfield 60, 3) := by decide +kernel
theorem dX6_startAnew_47 : decode cX6_startAnew 47 = .ok (.aload_n 0, 1) := by decide +kernel
theorem dX6_startAnew_48 : decode cX6_startAnew 48 = .ok (.iconst 0, 1) := by decide +kernel
theorem dX6_startAnew_49 : decode cX6_startAnew 49 = .ok (.putfield 63, 3) := by decide +kernel
theorem dX6_startAnew_52 : decode cX6_startAnew 52 = .ok (.aload_n 0, 1) := by decide +kernel
theorem dX6_startAnew_53 : decode cX6_startAnew 53 = .ok (.iconst 0, 1) := by decide +kernel
theorem dX6_startAnew_54 : decode cX6_startAnew 54 = .ok (.putfield 66, 3) := by decide +kernel
theorem dX6_startAnew_57 : decode cX6_startAnew 57 = .ok (.aload_n 0, 1) := by decide +kernel
theorem dX6_startAnew_58 : decode cX6_startAnew 58 = .ok (.iconst 0, 1) := by decide +kernel
theorem dX6_startAnew_59 : decode cX6_startAnew 59 = .ok (.putfield 69, 3) := by decide +kernel
theorem dX6_startAnew_62 : decode cX6_startAnew 62 = .ok (.aload_n 0, 1) := by decide +kernel
theorem dX6_startAnew_63 : decode cX6_startAnew 63 = .ok (.iconst (-1), 1) := by decide +kernel
theorem dX6_startAnew_64 : decode cX6_startAnew 64 = .ok (.putfield 28, 3) := by decide +kernel
theorem dX6_startAnew_67 : decode cX6_startAnew 67 = .ok (.aload_n 0, 1) := by decide +kernel
theorem dX6_startAnew_68 : decode cX6_startAnew 68 = .ok (.iconst (-1), 1) := by decide +kernel
theorem dX6_startAnew_69 : decode cX6_startAnew 69 = .ok (.putfield 31, 3) := by decide +kernel
theorem dX6_startAnew_72 : decode cX6_startAnew 72 = .ok (.return_, 1) := by decide +kernel
theorem dX6_copyFrom_0 : decode cX6_copyFrom 0 = .ok (.aload_n 0, 1) := by decide +kernel
theorem dX6_copyFrom_1 : decode cX6_copyFrom 1 = .ok (.aload_n 1, 1) := by decide +kernel
theorem dX6_copyFrom_2 : decode cX6_copyFrom 2 = .ok (.getfield 39, 3) := by decide +kernel
theorem dX6_copyFrom_5 : decode cX6_copyFrom 5 = .ok (.aload_n 1, 1) := by decide +kernel
theorem dX6_copyFrom_6 : decode cX6_copyFrom 6 = .ok (.getfield 42, 3) := by decide +kernel
theorem dX6_copyFrom_9 : decode cX6_copyFrom 9 = .ok (.aload_n 1, 1) := by decide +kernel
theorem dX6_copyFrom_10 : decode cX6_copyFrom 10 = .ok (.getfield 45, 3) := by decide +kernel
theorem dX6_copyFrom_13 : decode cX6_copyFrom 13 = .ok (.aload_n 1, 1) := by decide +kernel
theorem dX6_copyFrom_14 : decode cX6_copyFrom 14 = .ok (.getfield 48, 3) := by decide +kernel
theorem dX6_copyFrom_17 : decode cX6_copyFrom 17 = .ok (.aload_n 1, 1) := by decide +kernel
theorem dX6_copyFrom_18 : decode cX6_copyFrom 18 = .ok (.getfield 51, 3) := by decide +kernel
theorem dX6_copyFrom_21 : decode cX6_copyFrom 21 = .ok (.invokevirtual 72, 3) := by decide +kernel
theorem dX6_copyFrom_24 : decode cX6_copyFrom 24 = .ok (.aload_n 0, 1) := by decide +kernel
theorem dX6_copyFrom_25 : decode cX6_copyFrom 25 = .ok (.aload_n 1, 1) := by decide +kernel
theorem dX6_copyFrom_26 : decode cX6_copyFrom 26 = .ok (.getfield 35, 3) := by decide +kernel
theorem dX6_copyFrom_29 : decode cX6_copyFrom 29 = .ok (.putfield 35, 3) := by decide +kernel
theorem dX6_copyFrom_32 : decode cX6_copyFrom 32 = .ok (.aload_n 0, 1) := by decide +kernel
theorem dX6_copyFrom_33 : decode cX6_copyFrom 33 = .ok (.aload_n 1, 1) := by decide +kernel
theorem dX6_copyFrom_34 : decode cX6_copyFrom 34 = .ok (.getfield 76, 3) := by decide +kernel
theorem dX6_copyFrom_37 : decode cX6_copyFrom 37 = .ok (.putfield 76, 3) := by decide +kernel
theorem dX6_copyFrom_40 : decode cX6_copyFrom 40 = .ok (.aload_n 0, 1) := by decide +kernel
theorem dX6_copyFrom_41 : decode cX6_copyFrom 41 = .ok (.aload_n 1, 1) := by decide +kernel
theorem dX6_copyFrom_42 : decode cX6_copyFrom 42 = .ok (.getfield 24, 3) := by decide +kernel
theorem dX6_copyFrom_45 : decode cX6_copyFrom 45 = .ok (.putfield 24, 3) := by decide +kernel
theorem dX6_copyFrom_48 : decode cX6_copyFrom 48 = .ok (.aload_n 0, 1) := by decide +kernel
theorem dX6_copyFrom_49 : decode cX6_copyFrom 49 = .ok (.aload_n 1, 1) := by decide +kernel
theorem dX6_copyFrom_50 : decode cX6_copyFrom 50 = .ok (.getfield 54, 3) := by decide +kernel
theorem dX6_copyFrom_53 : decode cX6_copyFrom 53 = .ok (.putfield 54, 3) := by decide +kernel
theorem dX6_copyFrom_56 : decode cX6_copyFrom 56 = .ok (.aload_n 0, 1) := by decide +kernel
theorem dX6_copyFrom_57 : decode cX6_copyFrom 57 = .ok (.aload_n 1, 1) := by decide +kernel
theorem dX6_copyFrom_58 : decode cX6_copyFrom 58 = .ok (.getfield 57, 3) := by decide +kernel
theorem dX6_copyFrom_61 : decode cX6_copyFrom 61 = .ok (.putfield 57, 3) := by decide +kernel
theorem dX6_copyFrom_64 : decode cX6_copyFrom 64 = .ok (.aload_n 0, 1) := by decide +kernel
theorem dX6_copyFrom_65 : decode cX6_copyFrom 65 = .ok (.aload_n 1, 1) := by decide +kernel
theorem dX6_copyFrom_66 : decode cX6_copyFrom 66 = .ok (.getfield 60, 3) := by decide +kernel
theorem dX6_copyFrom_69 : decode cX6_copyFrom 69 = .ok (.putfield 60, 3) := by decide +kernel
theorem dX6_copyFrom_72 : decode cX6_copyFrom 72 = .ok (.aload_n 0, 1) := by decide +kernel
theorem dX6_copyFrom_73 : decode cX6_copyFrom 73 = .ok (.aload_n 1, 1) := by decide +kernel
theorem dX6_copyFrom_74 : decode cX6_copyFrom 74 = .ok (.getfield 63, 3) := by decide +kernel
theorem dX6_copyFrom_77 : decode cX6_copyFrom 77 = .ok (.putfield 63, 3) := by decide +kernel
theorem dX6_copyFrom_80 : decode cX6_copyFrom 80 = .ok (.aload_n 0, 1) := by decide +kernel
theorem dX6_copyFrom_81 : decode cX6_copyFrom 81 = .ok (.aload_n 1, 1) := by decide +kernel
theorem dX6_copyFrom_82 : decode cX6_copyFrom 82 = .ok (.getfield 66, 3) := by decide +kernel
theorem dX6_copyFrom_85 : decode cX6_copyFrom 85 = .ok (.putfield 66, 3) := by decide +kernel
theorem dX6_copyFrom_88 : decode cX6_copyFrom 88 = .ok (.aload_n 0, 1) := by decide +kernel
theorem dX6_copyFrom_89 : decode cX6_copyFrom 89 = .ok (.aload_n 1, 1) := by decide +kernel
theorem dX6_copyFrom_90 : decode cX6_copyFrom 90 = .ok (.getfield 69, 3) := by decide +kernel
theorem dX6_copyFrom_93 : decode cX6_copyFrom 93 = .ok (.putfield 69, 3) := by decide +kernel
theorem dX6_copyFrom_96 : decode cX6_copyFrom 96 = .ok (.aload_n 0, 1) := by decide +kernel
theorem dX6_copyFrom_97 : decode cX6_copyFrom 97 = .ok (.aload_n 1, 1) := by decide +kernel
theorem dX6_copyFrom_98 : decode cX6_copyFrom 98 = .ok (.getfield 28, 3) := by decide +kernel
theorem dX6_copyFrom_101 : decode cX6_copyFrom 101 = .ok (.putfield 28, 3) := by decide +kernel
theorem dX6_copyFrom_104 : decode cX6_copyFrom 104 = .ok (.aload_n 0, 1) := by decide +kernel
theorem dX6_copyFrom_105 : decode cX6_copyFrom 105 = .ok (.aload_n 1, 1) := by decide +kernel
theorem dX6_copyFrom_106 : decode cX6_copyFrom 106 = .ok (.getfield 31, 3) := by decide +kernel
theorem dX6_copyFrom_109 : decode cX6_copyFrom 109 = .ok (.putfield 31, 3) := by decide +kernel
theorem dX6_copyFrom_112 : decode cX6_copyFrom 112 = .ok (.aload_n 1, 1) := by decide +kernel
theorem dX6_copyFrom_113 : decode cX6_copyFrom 113 = .ok (.getfield 17, 3) := by decide +kernel
theorem dX6_copyFrom_116 : decode cX6_copyFrom 116 = .ok (.iconst 0, 1) := by decide +kernel
theorem dX6_copyFrom_117 : decode cX6_copyFrom 117 = .ok (.aload_n 0, 1) := by decide +kernel
theorem dX6_copyFrom_118 : decode cX6_copyFrom 118 = .ok (.getfield 17, 3) := by decide +kernel
theorem dX6_copyFrom_121 : decode cX6_copyFrom 121 = .ok (.iconst 0, 1) := by decide +kernel
theorem dX6_copyFrom_122 : decode cX6_copyFrom 122 = .ok (.bipush 30, 2) := by decide +kernel
theorem dX6_copyFrom_124 : decode cX6_copyFrom 124 = .ok (.invokestatic 79, 3) := by decide +kernel
theorem dX6_copyFrom_127 : decode cX6_copyFrom 127 = .ok (.aload_n 1, 1) := by decide +kernel
theorem dX6_copyFrom_128 : decode cX6_copyFrom 128 = .ok (.getfield 21, 3) := by decide +kernel
theorem dX6_copyFrom_131 : decode cX6_copyFrom 131 = .ok (.iconst 0, 1) := by decide +kernel
theorem dX6_copyFrom_132 : decode cX6_copyFrom 132 = .ok (.aload_n 0, 1) := by decide +kernel
theorem dX6_copyFrom_133 : decode cX6_copyFrom 133 = .ok (.getfield 21, 3) := by decide +kernel
theorem dX6_copyFrom_136 : decode cX6_copyFrom 136 = .ok (.iconst 0, 1) := by decide +kernel
theorem dX6_copyFrom_137 : decode cX6_copyFrom 137 = .ok (.bipush 30, 2) := by decide +kernel
theorem dX6_copyFrom_139 : decode cX6_copyFrom 139 = .ok (.invokestatic 79, 3) := by decide +kernel
theorem dX6_copyFrom_142 : decode cX6_copyFrom 142 = .ok (.iconst 0, 1) := by decide +kernel
theorem dX6_copyFrom_143 : decode cX6_copyFrom 143 = .ok (.istore_n 2, 1) := by decide +kernel
theorem dX6_copyFrom_144 : decode cX6_copyFrom 144 = .ok (.iload_n 2, 1) := by decide +kernel
theorem dX6_copyFrom_145 : decode cX6_copyFrom 145 = .ok (.bipush 7, 2) := by decide +kernel
theorem dX6_copyFrom_147 : decode cX6_copyFrom 147 = .ok (.if_icmp .ge 24, 3) := by decide +kernel
theorem dX6_copyFrom_150 : decode cX6_copyFrom 150 = .ok (.aload_n 0, 1) := by decide +kernel
theorem dX6_copyFrom_151 : decode cX6_copyFrom 151 = .ok (.getfield 11, 3) := by decide +kernel
theorem dX6_copyFrom_154 : decode cX6_copyFrom 154 = .ok (.iload_n 2, 1) := by decide +kernel
theorem dX6_copyFrom_155 : decode cX6_copyFrom 155 = .ok (.aaload, 1) := by decide +kernel
theorem dX6_copyFrom_156 : decode cX6_copyFrom 156 = .ok (.aload_n 1, 1) := by decide +kernel
theorem dX6_copyFrom_157 : decode cX6_copyFrom 157 = .ok (.getfield 11, 3) := by decide +kernel
theorem dX6_copyFrom_160 : decode cX6_copyFrom 160 = .ok (.iload_n 2, 1) := by decide +kernel
theorem dX6_copyFrom_161 : decode cX6_copyFrom 161 = .ok (.aaload, 1) := by decide +kernel
theorem dX6_copyFrom_162 : decode cX6_copyFrom 162 = .ok (.invokevirtual 85, 3) := by decide +kernel
theorem dX6_copyFrom_165 : decode cX6_copyFrom 165 = .ok (.iinc 2 1, 3) := by decide +kernel
theorem dX6_copyFrom_168 : decode cX6_copyFrom 168 = .ok (.goto (-24), 3) := by decide +kernel
theorem dX6_copyFrom_171 : decode cX6_copyFrom 171 = .ok (.return_, 1) := by decide +kernel
theorem dX6_hasRing_0 : decode cX6_hasRing 0 = .ok (.iload_n 1, 1) := by decide +kernel
theorem dX6_hasRing_1 : decode cX6_hasRing 1 = .ok (.ifCond .lt 15, 3) := by decide +kernel
theorem dX6_hasRing_4 : decode cX6_hasRing 4 = .ok (.iload_n 1, 1) := by decide +kernel
theorem dX6_hasRing_5 : decode cX6_hasRing 5 = .ok (.aload_n 0, 1) := by decide +kernel
theorem dX6_hasRing_6 : decode cX6_hasRing 6 = .ok (.getfield 54, 3) := by decide +kernel
theorem dX6_hasRing_9 : decode cX6_hasRing 9 = .ok (.if_icmp .ge 7, 3) := by decide +kernel
theorem dX6_hasRing_12 : decode cX6_hasRing 12 = .ok (.iconst 1, 1) := by decide +kernel
theorem dX6_hasRing_13 : decode cX6_hasRing 13 = .ok (.goto 4, 3) := by decide +kernel
theorem dX6_hasRing_16 : decode cX6_hasRing 16 = .ok (.iconst 0, 1) := by decide +kernel
theorem dX6_hasRing_17 : decode cX6_hasRing 17 = .ok (.ireturn, 1) := by decide +kernel
theorem dX6_hasBeen_0 : decode cX6_hasBeen 0 = .ok (.iload_n 1, 1) := by decide +kernel
theorem dX6_hasBeen_1 : decode cX6_hasBeen 1 = .ok (.ifCond .lt 15, 3) := by decide +kernel
theorem dX6_hasBeen_4 : decode cX6_hasBeen 4 = .ok (.iload_n 1, 1) := by decide +kernel
theorem dX6_hasBeen_5 : decode cX6_hasBeen 5 = .ok (.aload_n 0, 1) := by decide +kernel
theorem dX6_hasBeen_6 : decode cX6_hasBeen 6 = .ok (.getfield 76, 3) := by decide +kernel
theorem dX6_hasBeen_9 : decode cX6_hasBeen 9 = .ok (.if_icmp .gt 7, 3) := by decide +kernel
theorem dX6_hasBeen_12 : decode cX6_hasBeen 12 = .ok (.iconst 1, 1) := by decide +kernel
theorem dX6_hasBeen_13 : decode cX6_hasBeen 13 = .ok (.goto 4, 3) := by decide +kernel
theorem dX6_hasBeen_16 : decode cX6_hasBeen 16 = .ok (.iconst 0, 1) := by decide +kernel
theorem dX6_hasBeen_17 : decode cX6_hasBeen 17 = .ok (.ireturn, 1) := by decide +kernel
theorem dX6_hasBurst_0 : decode cX6_hasBurst 0 = .ok (.aload_n 0, 1) := by decide +kernel
theorem dX6_hasBurst_1 : decode cX6_hasBurst 1 = .ok (.getfield 28, 3) := by decide +kernel
theorem dX6_hasBurst_4 : decode cX6_hasBurst 4 = .ok (.iconst (-1), 1) := by decide +kernel
theorem dX6_hasBurst_5 : decode cX6_hasBurst 5 = .ok (.if_icmp .eq 7, 3) := by decide +kernel
theorem dX6_hasBurst_8 : decode cX6_hasBurst 8 = .ok (.iconst 1, 1) := by decide +kernel
theorem dX6_hasBurst_9 : decode cX6_hasBurst 9 = .ok (.goto 4, 3) := by decide +kernel
theorem dX6_hasBurst_12 : decode cX6_hasBurst 12 = .ok (.iconst 0, 1) := by decide +kernel
theorem dX6_hasBurst_13 : decode cX6_hasBurst 13 = .ok (.ireturn, 1) := by decide +kernel
theorem dX6_nextRing_0 : decode cX6_nextRing 0 = .ok (.aload_n 0, 1) := by decide +kernel
theorem dX6_nextRing_1 : decode cX6_nextRing 1 = .ok (.getfield 35, 3) := by decide +kernel
theorem dX6_nextRing_4 : decode cX6_nextRing 4 = .ok (.ifCond .eq 31, 3) := by decide +kernel
theorem dX6_nextRing_7 : decode cX6_nextRing 7 = .ok (.aload_n 0, 1) := by decide +kernel
theorem dX6_nextRing_8 : decode cX6_nextRing 8 = .ok (.invokevirtual 89, 3) := by decide +kernel
theorem dX6_nextRing_11 : decode cX6_nextRing 11 = .ok (.ifCond .ne 24, 3) := by decide +kernel
theorem dX6_nextRing_14 : decode cX6_nextRing 14 = .ok (.aload_n 0, 1) := by decide +kernel
theorem dX6_nextRing_15 : decode cX6_nextRing 15 = .ok (.getfield 54, 3) := by decide +kernel
theorem dX6_nextRing_18 : decode cX6_nextRing 18 = .ok (.bipush 7, 2) := by decide +kernel
theorem dX6_nextRing_20 : decode cX6_nextRing 20 = .ok (.if_icmp .ge 15, 3) := by decide +kernel
theorem dX6_nextRing_23 : decode cX6_nextRing 23 = .ok (.aload_n 0, 1) := by decide +kernel
theorem dX6_nextRing_24 : decode cX6_nextRing 24 = .ok (.getfield 11, 3) := by decide +kernel
theorem dX6_nextRing_27 : decode cX6_nextRing 27 = .ok (.aload_n 0, 1) := by decide +kernel
theorem dX6_nextRing_28 : decode cX6_nextRing 28 = .ok (.getfield 54, 3) := by decide +kernel
theorem dX6_nextRing_31 : decode cX6_nextRing 31 = .ok (.aaload, 1) := by decide +kernel
theorem dX6_nextRing_32 : decode cX6_nextRing 32 = .ok (.goto 4, 3) := by decide +kernel
theorem dX6_nextRing_35 : decode cX6_nextRing 35 = .ok (.aconst_null, 1) := by decide +kernel
theorem dX6_nextRing_36 : decode cX6_nextRing 36 = .ok (.areturn, 1) := by decide +kernel
theorem dX6_raise_0 : decode cX6_raise 0 = .ok (.aload_n 1, 1) := by decide +kernel
theorem dX6_raise_1 : decode cX6_raise 1 = .ok (.aload_n 0, 1) := by decide +kernel
theorem dX6_raise_2 : decode cX6_raise 2 = .ok (.getfield 57, 3) := by decide +kernel
theorem dX6_raise_5 : decode cX6_raise 5 = .ok (.putfield 93, 3) := by decide +kernel
theorem dX6_raise_8 : decode cX6_raise 8 = .ok (.aload_n 1, 1) := by decide +kernel
theorem dX6_raise_9 : decode cX6_raise 9 = .ok (.aload_n 0, 1) := by decide +kernel
theorem dX6_raise_10 : decode cX6_raise 10 = .ok (.aload_n 1, 1) := by decide +kernel
theorem dX6_raise_11 : decode cX6_raise 11 = .ok (.invokevirtual 96, 3) := by decide +kernel
theorem dX6_raise_14 : decode cX6_raise 14 = .ok (.putfield 100, 3) := by decide +kernel
theorem dX6_raise_17 : decode cX6_raise 17 = .ok (.aload_n 0, 1) := by decide +kernel
theorem dX6_raise_18 : decode cX6_raise 18 = .ok (.dup, 1) := by decide +kernel
theorem dX6_raise_19 : decode cX6_raise 19 = .ok (.getfield 57, 3) := by decide +kernel
theorem dX6_raise_22 : decode cX6_raise 22 = .ok (.aload_n 1, 1) := by decide +kernel
theorem dX6_raise_23 : decode cX6_raise 23 = .ok (.getfield 103, 3) := by decide +kernel
theorem dX6_raise_26 : decode cX6_raise 26 = .ok (.iadd, 1) := by decide +kernel
theorem dX6_raise_27 : decode cX6_raise 27 = .ok (.putfield 57, 3) := by decide +kernel
theorem dX6_raise_30 : decode cX6_raise 30 = .ok (.aload_n 0, 1) := by decide +kernel
theorem dX6_raise_31 : decode cX6_raise 31 = .ok (.dup, 1) := by decide +kernel
theorem dX6_raise_32 : decode cX6_raise 32 = .ok (.getfield 54, 3) := by decide +kernel
theorem dX6_raise_35 : decode cX6_raise 35 = .ok (.iconst 1, 1) := by decide +kernel
theorem dX6_raise_36 : decode cX6_raise 36 = .ok (.iadd, 1) := by decide +kernel
theorem dX6_raise_37 : decode cX6_raise 37 = .ok (.putfield 54, 3) := by decide +kernel
theorem dX6_raise_40 : decode cX6_raise 40 = .ok (.aload_n 0, 1) := by decide +kernel
theorem dX6_raise_41 : decode cX6_raise 41 = .ok (.getfield 54, 3) := by decide +kernel
theorem dX6_raise_44 : decode cX6_raise 44 = .ok (.iconst 1, 1) := by decide +kernel
theorem dX6_raise_45 : decode cX6_raise 45 = .ok (.isub, 1) := by decide +kernel
theorem dX6_raise_46 : decode cX6_raise 46 = .ok (.ireturn, 1) := by decide +kernel
theorem dX6_addLayer_0 : decode cX6_addLayer 0 = .ok (.aload_n 0, 1) := by decide +kernel
theorem dX6_addLayer_1 : decode cX6_addLayer 1 = .ok (.invokevirtual 89, 3) := by decide +kernel
theorem dX6_addLayer_4 : decode cX6_addLayer 4 = .ok (.ifCond .ne 25, 3) := by decide +kernel
theorem dX6_addLayer_7 : decode cX6_addLayer 7 = .ok (.aload_n 0, 1) := by decide +kernel
theorem dX6_addLayer_8 : decode cX6_addLayer 8 = .ok (.getfield 60, 3) := by decide +kernel
theorem dX6_addLayer_11 : decode cX6_addLayer 11 = .ok (.bipush 30, 2) := by decide +kernel
theorem dX6_addLayer_13 : decode cX6_addLayer 13 = .ok (.if_icmp .ge 16, 3) := by decide +kernel
theorem dX6_addLayer_16 : decode cX6_addLayer 16 = .ok (.aload_n 0, 1) := by decide +kernel
theorem dX6_addLayer_17 : decode cX6_addLayer 17 = .ok (.getfield 63, 3) := by decide +kernel
theorem dX6_addLayer_20 : decode cX6_addLayer 20 = .ok (.iload_n 1, 1) := by decide +kernel
theorem dX6_addLayer_21 : decode cX6_addLayer 21 = .ok (.iadd, 1) := by decide +kernel
theorem dX6_addLayer_22 : decode cX6_addLayer 22 = .ok (.aload_n 0, 1) := by decide +kernel
theorem dX6_addLayer_23 : decode cX6_addLayer 23 = .ok (.getfield 57, 3) := by decide +kernel
theorem dX6_addLayer_26 : decode cX6_addLayer 26 = .ok (.if_icmp .le 5, 3) := by decide +kernel
theorem dX6_addLayer_29 : decode cX6_addLayer 29 = .ok (.iconst (-1), 1) := by decide +kernel
theorem dX6_addLayer_30 : decode cX6_addLayer 30 = .ok (.ireturn, 1) := by decide +kernel
theorem dX6_addLayer_31 : decode cX6_addLayer 31 = .ok (.aload_n 0, 1) := by decide +kernel
theorem dX6_addLayer_32 : decode cX6_addLayer 32 = .ok (.getfield 17, 3) := by decide +kernel
theorem dX6_addLayer_35 : decode cX6_addLayer 35 = .ok (.aload_n 0, 1) := by decide +kernel
theorem dX6_addLayer_36 : decode cX6_addLayer 36 = .ok (.getfield 60, 3) := by decide +kernel
theorem dX6_addLayer_39 : decode cX6_addLayer 39 = .ok (.iload_n 1, 1) := by decide +kernel
theorem dX6_addLayer_40 : decode cX6_addLayer 40 = .ok (.iastore, 1) := by decide +kernel
theorem dX6_addLayer_41 : decode cX6_addLayer 41 = .ok (.aload_n 0, 1) := by decide +kernel
theorem dX6_addLayer_42 : decode cX6_addLayer 42 = .ok (.getfield 21, 3) := by decide +kernel
theorem dX6_addLayer_45 : decode cX6_addLayer 45 = .ok (.aload_n 0, 1) := by decide +kernel
theorem dX6_addLayer_46 : decode cX6_addLayer 46 = .ok (.getfield 60, 3) := by decide +kernel
theorem dX6_addLayer_49 : decode cX6_addLayer 49 = .ok (.iload_n 2, 1) := by decide +kernel
theorem dX6_addLayer_50 : decode cX6_addLayer 50 = .ok (.iastore, 1) := by decide +kernel
theorem dX6_addLayer_51 : decode cX6_addLayer 51 = .ok (.aload_n 0, 1) := by decide +kernel
theorem dX6_addLayer_52 : decode cX6_addLayer 52 = .ok (.dup, 1) := by decide +kernel
theorem dX6_addLayer_53 : decode cX6_addLayer 53 = .ok (.getfield 60, 3) := by decide +kernel
theorem dX6_addLayer_56 : decode cX6_addLayer 56 = .ok (.iconst 1, 1) := by decide +kernel
theorem dX6_addLayer_57 : decode cX6_addLayer 57 = .ok (.iadd, 1) := by decide +kernel
theorem dX6_addLayer_58 : decode cX6_addLayer 58 = .ok (.putfield 60, 3) := by decide +kernel
theorem dX6_addLayer_61 : decode cX6_addLayer 61 = .ok (.aload_n 0, 1) := by decide +kernel
theorem dX6_addLayer_62 : decode cX6_addLayer 62 = .ok (.dup, 1) := by decide +kernel
theorem dX6_addLayer_63 : decode cX6_addLayer 63 = .ok (.getfield 63, 3) := by decide +kernel
theorem dX6_addLayer_66 : decode cX6_addLayer 66 = .ok (.iload_n 1, 1) := by decide +kernel
theorem dX6_addLayer_67 : decode cX6_addLayer 67 = .ok (.iadd, 1) := by decide +kernel
theorem dX6_addLayer_68 : decode cX6_addLayer 68 = .ok (.putfield 63, 3) := by decide +kernel
theorem dX6_addLayer_71 : decode cX6_addLayer 71 = .ok (.aload_n 0, 1) := by decide +kernel
theorem dX6_addLayer_72 : decode cX6_addLayer 72 = .ok (.dup, 1) := by decide +kernel
theorem dX6_addLayer_73 : decode cX6_addLayer 73 = .ok (.getfield 69, 3) := by decide +kernel
theorem dX6_addLayer_76 : decode cX6_addLayer 76 = .ok (.iconst 1, 1) := by decide +kernel
theorem dX6_addLayer_77 : decode cX6_addLayer 77 = .ok (.iadd, 1) := by decide +kernel
theorem dX6_addLayer_78 : decode cX6_addLayer 78 = .ok (.putfield 69, 3) := by decide +kernel
theorem dX6_addLayer_81 : decode cX6_addLayer 81 = .ok (.aload_n 0, 1) := by decide +kernel
theorem dX6_addLayer_82 : decode cX6_addLayer 82 = .ok (.invokevirtual 106, 3) := by decide +kernel
theorem dX6_addLayer_85 : decode cX6_addLayer 85 = .ok (.aload_n 0, 1) := by decide +kernel
theorem dX6_addLayer_86 : decode cX6_addLayer 86 = .ok (.getfield 63, 3) := by decide +kernel
theorem dX6_addLayer_89 : decode cX6_addLayer 89 = .ok (.ireturn, 1) := by decide +kernel
theorem dX6_drawOff_0 : decode cX6_drawOff 0 = .ok (.aload_n 0, 1) := by decide +kernel
theorem dX6_drawOff_1 : decode cX6_drawOff 1 = .ok (.invokevirtual 89, 3) := by decide +kernel
theorem dX6_drawOff_4 : decode cX6_drawOff 4 = .ok (.ifCond .ne 16, 3) := by decide +kernel
theorem dX6_drawOff_7 : decode cX6_drawOff 7 = .ok (.iload_n 1, 1) := by decide +kernel
theorem dX6_drawOff_8 : decode cX6_drawOff 8 = .ok (.iconst 1, 1) := by decide +kernel
theorem dX6_drawOff_9 : decode cX6_drawOff 9 = .ok (.if_icmp .lt 11, 3) := by decide +kernel
theorem dX6_drawOff_12 : decode cX6_drawOff 12 = .ok (.iload_n 1, 1) := by decide +kernel
theorem dX6_drawOff_13 : decode cX6_drawOff 13 = .ok (.aload_n 0, 1) := by decide +kernel
theorem dX6_drawOff_14 : decode cX6_drawOff 14 = .ok (.getfield 63, 3) := by decide +kernel
theorem dX6_drawOff_17 : decode cX6_drawOff 17 = .ok (.if_icmp .le 5, 3) := by decide +kernel
theorem dX6_drawOff_20 : decode cX6_drawOff 20 = .ok (.iconst (-1), 1) := by decide +kernel
theorem dX6_drawOff_21 : decode cX6_drawOff 21 = .ok (.ireturn, 1) := by decide +kernel
theorem dX6_drawOff_22 : decode cX6_drawOff 22 = .ok (.iload_n 1, 1) := by decide +kernel
theorem dX6_drawOff_23 : decode cX6_drawOff 23 = .ok (.istore_n 2, 1) := by decide +kernel
theorem dX6_drawOff_24 : decode cX6_drawOff 24 = .ok (.iconst 0, 1) := by decide +kernel
theorem dX6_drawOff_25 : decode cX6_drawOff 25 = .ok (.istore_n 3, 1) := by decide +kernel
theorem dX6_drawOff_26 : decode cX6_drawOff 26 = .ok (.iconst 0, 1) := by decide +kernel
theorem dX6_drawOff_27 : decode cX6_drawOff 27 = .ok (.istore 4, 2) := by decide +kernel
theorem dX6_drawOff_29 : decode cX6_drawOff 29 = .ok (.iload 4, 2) := by decide +kernel
theorem dX6_drawOff_31 : decode cX6_drawOff 31 = .ok (.aload_n 0, 1) := by decide +kernel
theorem dX6_drawOff_32 : decode cX6_drawOff 32 = .ok (.getfield 60, 3) := by decide +kernel
theorem dX6_drawOff_35 : decode cX6_drawOff 35 = .ok (.if_icmp .ge 71, 3) := by decide +kernel
theorem dX6_drawOff_38 : decode cX6_drawOff 38 = .ok (.iload_n 2, 1) := by decide +kernel
theorem dX6_drawOff_39 : decode cX6_drawOff 39 = .ok (.aload_n 0, 1) := by decide +kernel
theorem dX6_drawOff_40 : decode cX6_drawOff 40 = .ok (.getfield 17, 3) := by decide +kernel
theorem dX6_drawOff_43 : decode cX6_drawOff 43 = .ok (.iload 4, 2) := by decide +kernel
theorem dX6_drawOff_45 : decode cX6_drawOff 45 = .ok (.iaload, 1) := by decide +kernel
theorem dX6_drawOff_46 : decode cX6_drawOff 46 = .ok (.invokestatic 109, 3) := by decide +kernel
theorem dX6_drawOff_49 : decode cX6_drawOff 49 = .ok (.istore 5, 2) := by decide +kernel
theorem dX6_drawOff_51 : decode cX6_drawOff 51 = .ok (.iload_n 2, 1) := by decide +kernel
theorem dX6_drawOff_52 : decode cX6_drawOff 52 = .ok (.iload 5, 2) := by decide +kernel
theorem dX6_drawOff_54 : decode cX6_drawOff 54 = .ok (.isub, 1) := by decide +kernel
theorem dX6_drawOff_55 : decode cX6_drawOff 55 = .ok (.istore_n 2, 1) := by decide +kernel
theorem dX6_drawOff_56 : decode cX6_drawOff 56 = .ok (.iload 5, 2) := by decide +kernel
theorem dX6_drawOff_58 : decode cX6_drawOff 58 = .ok (.aload_n 0, 1) := by decide +kernel
theorem dX6_drawOff_59 : decode cX6_drawOff 59 = .ok (.getfield 17, 3) := by decide +kernel
theorem dX6_drawOff_62 : decode cX6_drawOff 62 = .ok (.iload 4, 2) := by decide +kernel
theorem dX6_drawOff_64 : decode cX6_drawOff 64 = .ok (.iaload, 1) := by decide +kernel
theorem dX6_drawOff_65 : decode cX6_drawOff 65 = .ok (.if_icmp .ge 35, 3) := by decide +kernel
theorem dX6_drawOff_68 : decode cX6_drawOff 68 = .ok (.aload_n 0, 1) := by decide +kernel
theorem dX6_drawOff_69 : decode cX6_drawOff 69 = .ok (.getfield 17, 3) := by decide +kernel
theorem dX6_drawOff_72 : decode cX6_drawOff 72 = .ok (.iload_n 3, 1) := by decide +kernel
theorem dX6_drawOff_73 : decode cX6_drawOff 73 = .ok (.aload_n 0, 1) := by decide +kernel
theorem dX6_drawOff_74 : decode cX6_drawOff 74 = .ok (.getfield 17, 3) := by decide +kernel
theorem dX6_drawOff_77 : decode cX6_drawOff 77 = .ok (.iload 4, 2) := by decide +kernel
theorem dX6_drawOff_79 : decode cX6_drawOff 79 = .ok (.iaload, 1) := by decide +kernel
theorem dX6_drawOff_80 : decode cX6_drawOff 80 = .ok (.iload 5, 2) := by decide +kernel
theorem dX6_drawOff_82 : decode cX6_drawOff 82 = .ok (.isub, 1) := by decide +kernel
theorem dX6_drawOff_83 : decode cX6_drawOff 83 = .ok (.iastore, 1) := by decide +kernel
theorem dX6_drawOff_84 : decode cX6_drawOff 84 = .ok (.aload_n 0, 1) := by decide +kernel
theorem dX6_drawOff_85 : decode cX6_drawOff 85 = .ok (.getfield 21, 3) := by decide +kernel
theorem dX6_drawOff_88 : decode cX6_drawOff 88 = .ok (.iload_n 3, 1) := by decide +kernel
theorem dX6_drawOff_89 : decode cX6_drawOff 89 = .ok (.aload_n 0, 1) := by decide +kernel
theorem dX6_drawOff_90 : decode cX6_drawOff 90 = .ok (.getfield 21, 3) := by decide +kernel
theorem dX6_drawOff_93 : decode cX6_drawOff 93 = .ok (.iload 4, 2) := by decide +kernel
theorem dX6_drawOff_95 : decode cX6_drawOff 95 = .ok (.iaload, 1) := by decide +kernel
theorem dX6_drawOff_96 : decode cX6_drawOff 96 = .ok (.iastore, 1) := by decide +kernel
theorem dX6_drawOff_97 : decode cX6_drawOff 97 = .ok (.iinc 3 1, 3) := by decide +kernel
theorem dX6_drawOff_100 : decode cX6_drawOff 100 = .ok (.iinc 4 1, 3) := by decide +kernel
theorem dX6_drawOff_103 : decode cX6_drawOff 103 = .ok (.goto (-74), 3) := by decide +kernel
theorem dX6_drawOff_106 : decode cX6_drawOff 106 = .ok (.aload_n 0, 1) := by decide +kernel
theorem dX6_drawOff_107 : decode cX6_drawOff 107 = .ok (.iload_n 3, 1) := by decide +kernel
theorem dX6_drawOff_108 : decode cX6_drawOff 108 = .ok (.putfield 60, 3) := by decide +kernel
theorem dX6_drawOff_111 : decode cX6_drawOff 111 = .ok (.aload_n 0, 1) := by decide +kernel
theorem dX6_drawOff_112 : decode cX6_drawOff 112 = .ok (.dup, 1) := by decide +kernel
theorem dX6_drawOff_113 : decode cX6_drawOff 113 = .ok (.getfield 63, 3) := by decide +kernel
theorem dX6_drawOff_116 : decode cX6_drawOff 116 = .ok (.iload_n 1, 1) := by decide +kernel
theorem dX6_drawOff_117 : decode cX6_drawOff 117 = .ok (.isub, 1) := by decide +kernel
theorem dX6_drawOff_118 : decode cX6_drawOff 118 = .ok (.putfield 63, 3) := by decide +kernel
theorem dX6_drawOff_121 : decode cX6_drawOff 121 = .ok (.aload_n 0, 1) := by decide +kernel
theorem dX6_drawOff_122 : decode cX6_drawOff 122 = .ok (.getfield 63, 3) := by decide +kernel
theorem dX6_drawOff_125 : decode cX6_drawOff 125 = .ok (.ireturn, 1) := by decide +kernel
theorem dX6_changeAir_0 : decode cX6_changeAir 0 = .ok (.aload_n 0, 1) := by decide +kernel
theorem dX6_changeAir_1 : decode cX6_changeAir 1 = .ok (.getfield 24, 3) := by decide +kernel
theorem dX6_changeAir_4 : decode cX6_changeAir 4 = .ok (.istore_n 2, 1) := by decide +kernel
theorem dX6_changeAir_5 : decode cX6_changeAir 5 = .ok (.aload_n 0, 1) := by decide +kernel
theorem dX6_changeAir_6 : decode cX6_changeAir 6 = .ok (.iload_n 1, 1) := by decide +kernel
theorem dX6_changeAir_7 : decode cX6_changeAir 7 = .ok (.putfield 24, 3) := by decide +kernel
theorem dX6_changeAir_10 : decode cX6_changeAir 10 = .ok (.aload_n 0, 1) := by decide +kernel
theorem dX6_changeAir_11 : decode cX6_changeAir 11 = .ok (.invokevirtual 89, 3) := by decide +kernel
theorem dX6_changeAir_14 : decode cX6_changeAir 14 = .ok (.ifCond .ne 7, 3) := by decide +kernel
theorem dX6_changeAir_17 : decode cX6_changeAir 17 = .ok (.aload_n 0, 1) := by decide +kernel
theorem dX6_changeAir_18 : decode cX6_changeAir 18 = .ok (.invokevirtual 115, 3) := by decide +kernel
theorem dX6_changeAir_21 : decode cX6_changeAir 21 = .ok (.iload_n 2, 1) := by decide +kernel
theorem dX6_changeAir_22 : decode cX6_changeAir 22 = .ok (.ireturn, 1) := by decide +kernel
theorem dX6_passHours_0 : decode cX6_passHours 0 = .ok (.aload_n 0, 1) := by decide +kernel
theorem dX6_passHours_1 : decode cX6_passHours 1 = .ok (.getfield 76, 3) := by decide +kernel
theorem dX6_passHours_4 : decode cX6_passHours 4 = .ok (.iload_n 1, 1) := by decide +kernel
theorem dX6_passHours_5 : decode cX6_passHours 5 = .ok (.iadd, 1) := by decide +kernel
theorem dX6_passHours_6 : decode cX6_passHours 6 = .ok (.ldc 118, 2) := by decide +kernel
theorem dX6_passHours_8 : decode cX6_passHours 8 = .ok (.if_icmp .le 5, 3) := by decide +kernel
theorem dX6_passHours_11 : decode cX6_passHours 11 = .ok (.iconst (-1), 1) := by decide +kernel
theorem dX6_passHours_12 : decode cX6_passHours 12 = .ok (.ireturn, 1) := by decide +kernel
theorem dX6_passHours_13 : decode cX6_passHours 13 = .ok (.iconst 0, 1) := by decide +kernel
theorem dX6_passHours_14 : decode cX6_passHours 14 = .ok (.istore_n 2, 1) := by decide +kernel
theorem dX6_passHours_15 : decode cX6_passHours 15 = .ok (.iload_n 2, 1) := by decide +kernel
theorem dX6_passHours_16 : decode cX6_passHours 16 = .ok (.iload_n 1, 1) := by decide +kernel
theorem dX6_passHours_17 : decode cX6_passHours 17 = .ok (.if_icmp .ge 38, 3) := by decide +kernel
theorem dX6_passHours_20 : decode cX6_passHours 20 = .ok (.aload_n 0, 1) := by decide +kernel
theorem dX6_passHours_21 : decode cX6_passHours 21 = .ok (.dup, 1) := by decide +kernel
theorem dX6_passHours_22 : decode cX6_passHours 22 = .ok (.getfield 76, 3) := by decide +kernel
theorem dX6_passHours_25 : decode cX6_passHours 25 = .ok (.iconst 1, 1) := by decide +kernel
theorem dX6_passHours_26 : decode cX6_passHours 26 = .ok (.iadd, 1) := by decide +kernel
theorem dX6_passHours_27 : decode cX6_passHours 27 = .ok (.putfield 76, 3) := by decide +kernel
theorem dX6_passHours_30 : decode cX6_passHours 30 = .ok (.aload_n 0, 1) := by decide +kernel
theorem dX6_passHours_31 : decode cX6_passHours 31 = .ok (.invokevirtual 89, 3) := by decide +kernel
theorem dX6_passHours_34 : decode cX6_passHours 34 = .ok (.ifCond .ne 15, 3) := by decide +kernel
theorem dX6_passHours_37 : decode cX6_passHours 37 = .ok (.aload_n 0, 1) := by decide +kernel
theorem dX6_passHours_38 : decode cX6_passHours 38 = .ok (.invokevirtual 119, 3) := by decide +kernel
theorem dX6_passHours_41 : decode cX6_passHours 41 = .ok (.aload_n 0, 1) := by decide +kernel
theorem dX6_passHours_42 : decode cX6_passHours 42 = .ok (.invokevirtual 122, 3) := by decide +kernel
theorem dX6_passHours_45 : decode cX6_passHours 45 = .ok (.aload_n 0, 1) := by decide +kernel
theorem dX6_passHours_46 : decode cX6_passHours 46 = .ok (.invokevirtual 106, 3) := by decide +kernel
theorem dX6_passHours_49 : decode cX6_passHours 49 = .ok (.iinc 2 1, 3) := by decide +kernel
theorem dX6_passHours_52 : decode cX6_passHours 52 = .ok (.goto (-37), 3) := by decide +kernel
theorem dX6_passHours_55 : decode cX6_passHours 55 = .ok (.aload_n 0, 1) := by decide +kernel
theorem dX6_passHours_56 : decode cX6_passHours 56 = .ok (.getfield 76, 3) := by decide +kernel
theorem dX6_passHours_59 : decode cX6_passHours 59 = .ok (.ireturn, 1) := by decide +kernel
theorem dX6_mixHeat_0 : decode cX6_mixHeat 0 = .ok (.iconst 0, 1) := by decide +kernel
theorem dX6_mixHeat_1 : decode cX6_mixHeat 1 = .ok (.istore_n 1, 1) := by decide +kernel
theorem dX6_mixHeat_2 : decode cX6_mixHeat 2 = .ok (.iload_n 1, 1) := by decide +kernel
theorem dX6_mixHeat_3 : decode cX6_mixHeat 3 = .ok (.iconst 1, 1) := by decide +kernel
theorem dX6_mixHeat_4 : decode cX6_mixHeat 4 = .ok (.iadd, 1) := by decide +kernel
theorem dX6_mixHeat_5 : decode cX6_mixHeat 5 = .ok (.aload_n 0, 1) := by decide +kernel
theorem dX6_mixHeat_6 : decode cX6_mixHeat 6 = .ok (.getfield 60, 3) := by decide +kernel
theorem dX6_mixHeat_9 : decode cX6_mixHeat 9 = .ok (.if_icmp .ge 50, 3) := by decide +kernel
theorem dX6_mixHeat_12 : decode cX6_mixHeat 12 = .ok (.aload_n 0, 1) := by decide +kernel
theorem dX6_mixHeat_13 : decode cX6_mixHeat 13 = .ok (.getfield 21, 3) := by decide +kernel
theorem dX6_mixHeat_16 : decode cX6_mixHeat 16 = .ok (.iload_n 1, 1) := by decide +kernel
theorem dX6_mixHeat_17 : decode cX6_mixHeat 17 = .ok (.iconst 1, 1) := by decide +kernel
theorem dX6_mixHeat_18 : decode cX6_mixHeat 18 = .ok (.iadd, 1) := by decide +kernel
theorem dX6_mixHeat_19 : decode cX6_mixHeat 19 = .ok (.iaload, 1) := by decide +kernel
theorem dX6_mixHeat_20 : decode cX6_mixHeat 20 = .ok (.aload_n 0, 1) := by decide +kernel
theorem dX6_mixHeat_21 : decode cX6_mixHeat 21 = .ok (.getfield 21, 3) := by decide +kernel
theorem dX6_mixHeat_24 : decode cX6_mixHeat 24 = .ok (.iload_n 1, 1) := by decide +kernel
theorem dX6_mixHeat_25 : decode cX6_mixHeat 25 = .ok (.iaload, 1) := by decide +kernel
theorem dX6_mixHeat_26 : decode cX6_mixHeat 26 = .ok (.isub, 1) := by decide +kernel
theorem dX6_mixHeat_27 : decode cX6_mixHeat 27 = .ok (.bipush 8, 2) := by decide +kernel
theorem dX6_mixHeat_29 : decode cX6_mixHeat 29 = .ok (.idiv, 1) := by decide +kernel
theorem dX6_mixHeat_30 : decode cX6_mixHeat 30 = .ok (.istore_n 2, 1) := by decide +kernel
theorem dX6_mixHeat_31 : decode cX6_mixHeat 31 = .ok (.aload_n 0, 1) := by decide +kernel
theorem dX6_mixHeat_32 : decode cX6_mixHeat 32 = .ok (.getfield 21, 3) := by decide +kernel
theorem dX6_mixHeat_35 : decode cX6_mixHeat 35 = .ok (.iload_n 1, 1) := by decide +kernel
theorem dX6_mixHeat_36 : decode cX6_mixHeat 36 = .ok (.iconst 1, 1) := by decide +kernel
theorem dX6_mixHeat_37 : decode cX6_mixHeat 37 = .ok (.iadd, 1) := by decide +kernel
theorem dX6_mixHeat_38 : decode cX6_mixHeat 38 = .ok (.dup2, 1) := by decide +kernel
theorem dX6_mixHeat_39 : decode cX6_mixHeat 39 = .ok (.iaload, 1) := by decide +kernel
theorem dX6_mixHeat_40 : decode cX6_mixHeat 40 = .ok (.iload_n 2, 1) := by decide +kernel
theorem dX6_mixHeat_41 : decode cX6_mixHeat 41 = .ok (.isub, 1) := by decide +kernel
theorem dX6_mixHeat_42 : decode cX6_mixHeat 42 = .ok (.iastore, 1) := by decide +kernel
theorem dX6_mixHeat_43 : decode cX6_mixHeat 43 = .ok (.aload_n 0, 1) := by decide +kernel
theorem dX6_mixHeat_44 : decode cX6_mixHeat 44 = .ok (.getfield 21, 3) := by decide +kernel
theorem dX6_mixHeat_47 : decode cX6_mixHeat 47 = .ok (.iload_n 1, 1) := by decide +kernel
theorem dX6_mixHeat_48 : decode cX6_mixHeat 48 = .ok (.dup2, 1) := by decide +kernel
theorem dX6_mixHeat_49 : decode cX6_mixHeat 49 = .ok (.iaload, 1) := by decide +kernel
theorem dX6_mixHeat_50 : decode cX6_mixHeat 50 = .ok (.iload_n 2, 1) := by decide +kernel
theorem dX6_mixHeat_51 : decode cX6_mixHeat 51 = .ok (.iadd, 1) := by decide +kernel
theorem dX6_mixHeat_52 : decode cX6_mixHeat 52 = .ok (.iastore, 1) := by decide +kernel
theorem dX6_mixHeat_53 : decode cX6_mixHeat 53 = .ok (.iinc 1 1, 3) := by decide +kernel
theorem dX6_mixHeat_56 : decode cX6_mixHeat 56 = .ok (.goto (-54), 3) := by decide +kernel
theorem dX6_mixHeat_59 : decode cX6_mixHeat 59 = .ok (.aload_n 0, 1) := by decide +kernel
theorem dX6_mixHeat_60 : decode cX6_mixHeat 60 = .ok (.getfield 60, 3) := by decide +kernel
theorem dX6_mixHeat_63 : decode cX6_mixHeat 63 = .ok (.ifCond .le 33, 3) := by decide +kernel
theorem dX6_mixHeat_66 : decode cX6_mixHeat 66 = .ok (.aload_n 0, 1) := by decide +kernel
theorem dX6_mixHeat_67 : decode cX6_mixHeat 67 = .ok (.getfield 60, 3) := by decide +kernel
theorem dX6_mixHeat_70 : decode cX6_mixHeat 70 = .ok (.iconst 1, 1) := by decide +kernel
theorem dX6_mixHeat_71 : decode cX6_mixHeat 71 = .ok (.isub, 1) := by decide +kernel
theorem dX6_mixHeat_72 : decode cX6_mixHeat 72 = .ok (.istore_n 1, 1) := by decide +kernel
theorem dX6_mixHeat_73 : decode cX6_mixHeat 73 = .ok (.aload_n 0, 1) := by decide +kernel
theorem dX6_mixHeat_74 : decode cX6_mixHeat 74 = .ok (.getfield 21, 3) := by decide +kernel
theorem dX6_mixHeat_77 : decode cX6_mixHeat 77 = .ok (.iload_n 1, 1) := by decide +kernel
theorem dX6_mixHeat_78 : decode cX6_mixHeat 78 = .ok (.dup2, 1) := by decide +kernel
theorem dX6_mixHeat_79 : decode cX6_mixHeat 79 = .ok (.iaload, 1) := by decide +kernel
theorem dX6_mixHeat_80 : decode cX6_mixHeat 80 = .ok (.aload_n 0, 1) := by decide +kernel
theorem dX6_mixHeat_81 : decode cX6_mixHeat 81 = .ok (.getfield 24, 3) := by decide +kernel
theorem dX6_mixHeat_84 : decode cX6_mixHeat 84 = .ok (.aload_n 0, 1) := by decide +kernel
theorem dX6_mixHeat_85 : decode cX6_mixHeat 85 = .ok (.getfield 21, 3) := by decide +kernel
theorem dX6_mixHeat_88 : decode cX6_mixHeat 88 = .ok (.iload_n 1, 1) := by decide +kernel
theorem dX6_mixHeat_89 : decode cX6_mixHeat 89 = .ok (.iaload, 1) := by decide +kernel
theorem dX6_mixHeat_90 : decode cX6_mixHeat 90 = .ok (.isub, 1) := by decide +kernel
theorem dX6_mixHeat_91 : decode cX6_mixHeat 91 = .ok (.bipush 16, 2) := by decide +kernel
theorem dX6_mixHeat_93 : decode cX6_mixHeat 93 = .ok (.idiv, 1) := by decide +kernel
theorem dX6_mixHeat_94 : decode cX6_mixHeat 94 = .ok (.iadd, 1) := by decide +kernel
theorem dX6_mixHeat_95 : decode cX6_mixHeat 95 = .ok (.iastore, 1) := by decide +kernel
theorem dX6_mixHeat_96 : decode cX6_mixHeat 96 = .ok (.return_, 1) := by decide +kernel
theorem dX6_workGas_0 : decode cX6_workGas 0 = .ok (.iconst 0, 1) := by decide +kernel
theorem dX6_workGas_1 : decode cX6_workGas 1 = .ok (.istore_n 1, 1) := by decide +kernel
theorem dX6_workGas_2 : decode cX6_workGas 2 = .ok (.iload_n 1, 1) := by decide +kernel
theorem dX6_workGas_3 : decode cX6_workGas 3 = .ok (.iconst 1, 1) := by decide +kernel
theorem dX6_workGas_4 : decode cX6_workGas 4 = .ok (.iadd, 1) := by decide +kernel
theorem dX6_workGas_5 : decode cX6_workGas 5 = .ok (.aload_n 0, 1) := by decide +kernel
theorem dX6_workGas_6 : decode cX6_workGas 6 = .ok (.getfield 60, 3) := by decide +kernel
theorem dX6_workGas_9 : decode cX6_workGas 9 = .ok (.if_icmp .ge 41, 3) := by decide +kernel
theorem dX6_workGas_12 : decode cX6_workGas 12 = .ok (.aload_n 0, 1) := by decide +kernel
theorem dX6_workGas_13 : decode cX6_workGas 13 = .ok (.getfield 21, 3) := by decide +kernel
theorem dX6_workGas_16 : decode cX6_workGas 16 = .ok (.iload_n 1, 1) := by decide +kernel
theorem dX6_workGas_17 : decode cX6_workGas 17 = .ok (.iconst 1, 1) := by decide +kernel
theorem dX6_workGas_18 : decode cX6_workGas 18 = .ok (.iadd, 1) := by decide +kernel
theorem dX6_workGas_19 : decode cX6_workGas 19 = .ok (.iaload, 1) := by decide +kernel
theorem dX6_workGas_20 : decode cX6_workGas 20 = .ok (.aload_n 0, 1) := by decide +kernel
theorem dX6_workGas_21 : decode cX6_workGas 21 = .ok (.getfield 21, 3) := by decide +kernel
theorem dX6_workGas_24 : decode cX6_workGas 24 = .ok (.iload_n 1, 1) := by decide +kernel
theorem dX6_workGas_25 : decode cX6_workGas 25 = .ok (.iaload, 1) := by decide +kernel
theorem dX6_workGas_26 : decode cX6_workGas 26 = .ok (.isub, 1) := by decide +kernel
theorem dX6_workGas_27 : decode cX6_workGas 27 = .ok (.aload_n 0, 1) := by decide +kernel
theorem dX6_workGas_28 : decode cX6_workGas 28 = .ok (.getfield 51, 3) := by decide +kernel
theorem dX6_workGas_31 : decode cX6_workGas 31 = .ok (.if_icmp .lt 13, 3) := by decide +kernel
theorem dX6_workGas_34 : decode cX6_workGas 34 = .ok (.aload_n 0, 1) := by decide +kernel
theorem dX6_workGas_35 : decode cX6_workGas 35 = .ok (.dup, 1) := by decide +kernel
theorem dX6_workGas_36 : decode cX6_workGas 36 = .ok (.getfield 66, 3) := by decide +kernel
theorem dX6_workGas_39 : decode cX6_workGas 39 = .ok (.iconst 2, 1) := by decide +kernel
theorem dX6_workGas_40 : decode cX6_workGas 40 = .ok (.iadd, 1) := by decide +kernel
theorem dX6_workGas_41 : decode cX6_workGas 41 = .ok (.putfield 66, 3) := by decide +kernel
theorem dX6_workGas_44 : decode cX6_workGas 44 = .ok (.iinc 1 1, 3) := by decide +kernel
theorem dX6_workGas_47 : decode cX6_workGas 47 = .ok (.goto (-45), 3) := by decide +kernel
theorem dX6_workGas_50 : decode cX6_workGas 50 = .ok (.aload_n 0, 1) := by decide +kernel
theorem dX6_workGas_51 : decode cX6_workGas 51 = .ok (.sipush 9999, 3) := by decide +kernel
theorem dX6_workGas_54 : decode cX6_workGas 54 = .ok (.iconst 0, 1) := by decide +kernel
theorem dX6_workGas_55 : decode cX6_workGas 55 = .ok (.aload_n 0, 1) := by decide +kernel
theorem dX6_workGas_56 : decode cX6_workGas 56 = .ok (.getfield 66, 3) := by decide +kernel
theorem dX6_workGas_59 : decode cX6_workGas 59 = .ok (.aload_n 0, 1) := by decide +kernel
theorem dX6_workGas_60 : decode cX6_workGas 60 = .ok (.getfield 48, 3) := by decide +kernel
theorem dX6_workGas_63 : decode cX6_workGas 63 = .ok (.isub, 1) := by decide +kernel
theorem dX6_workGas_64 : decode cX6_workGas 64 = .ok (.invokestatic 125, 3) := by decide +kernel
theorem dX6_workGas_67 : decode cX6_workGas 67 = .ok (.invokestatic 109, 3) := by decide +kernel
theorem dX6_workGas_70 : decode cX6_workGas 70 = .ok (.putfield 66, 3) := by decide +kernel
theorem dX6_workGas_73 : decode cX6_workGas 73 = .ok (.return_, 1) := by decide +kernel
theorem dX6_bearOrBurst_0 : decode cX6_bearOrBurst 0 = .ok (.aload_n 0, 1) := by decide +kernel
theorem dX6_bearOrBurst_1 : decode cX6_bearOrBurst 1 = .ok (.invokevirtual 115, 3) := by decide +kernel
theorem dX6_bearOrBurst_4 : decode cX6_bearOrBurst 4 = .ok (.aload_n 0, 1) := by decide +kernel
theorem dX6_bearOrBurst_5 : decode cX6_bearOrBurst 5 = .ok (.invokevirtual 89, 3) := by decide +kernel
theorem dX6_bearOrBurst_8 : decode cX6_bearOrBurst 8 = .ok (.ifCond .eq 4, 3) := by decide +kernel
theorem dX6_bearOrBurst_11 : decode cX6_bearOrBurst 11 = .ok (.return_, 1) := by decide +kernel
theorem dX6_bearOrBurst_12 : decode cX6_bearOrBurst 12 = .ok (.iconst 0, 1) := by decide +kernel
theorem dX6_bearOrBurst_13 : decode cX6_bearOrBurst 13 = .ok (.istore_n 1, 1) := by decide +kernel
theorem dX6_bearOrBurst_14 : decode cX6_bearOrBurst 14 = .ok (.iload_n 1, 1) := by decide +kernel
theorem dX6_bearOrBurst_15 : decode cX6_bearOrBurst 15 = .ok (.aload_n 0, 1) := by decide +kernel
theorem dX6_bearOrBurst_16 : decode cX6_bearOrBurst 16 = .ok (.getfield 54, 3) := by decide +kernel
theorem dX6_bearOrBurst_19 : decode cX6_bearOrBurst 19 = .ok (.if_icmp .ge 40, 3) := by decide +kernel
theorem dX6_bearOrBurst_22 : decode cX6_bearOrBurst 22 = .ok (.aload_n 0, 1) := by decide +kernel
theorem dX6_bearOrBurst_23 : decode cX6_bearOrBurst 23 = .ok (.getfield 11, 3) := by decide +kernel
theorem dX6_bearOrBurst_26 : decode cX6_bearOrBurst 26 = .ok (.iload_n 1, 1) := by decide +kernel
theorem dX6_bearOrBurst_27 : decode cX6_bearOrBurst 27 = .ok (.aaload, 1) := by decide +kernel
theorem dX6_bearOrBurst_28 : decode cX6_bearOrBurst 28 = .ok (.aload_n 0, 1) := by decide +kernel
theorem dX6_bearOrBurst_29 : decode cX6_bearOrBurst 29 = .ok (.getfield 11, 3) := by decide +kernel
theorem dX6_bearOrBurst_32 : decode cX6_bearOrBurst 32 = .ok (.iload_n 1, 1) := by decide +kernel
theorem dX6_bearOrBurst_33 : decode cX6_bearOrBurst 33 = .ok (.aaload, 1) := by decide +kernel
theorem dX6_bearOrBurst_34 : decode cX6_bearOrBurst 34 = .ok (.getfield 100, 3) := by decide +kernel
theorem dX6_bearOrBurst_37 : decode cX6_bearOrBurst 37 = .ok (.aload_n 0, 1) := by decide +kernel
theorem dX6_bearOrBurst_38 : decode cX6_bearOrBurst 38 = .ok (.aload_n 0, 1) := by decide +kernel
theorem dX6_bearOrBurst_39 : decode cX6_bearOrBurst 39 = .ok (.getfield 11, 3) := by decide +kernel
theorem dX6_bearOrBurst_42 : decode cX6_bearOrBurst 42 = .ok (.iload_n 1, 1) := by decide +kernel
theorem dX6_bearOrBurst_43 : decode cX6_bearOrBurst 43 = .ok (.aaload, 1) := by decide +kernel
theorem dX6_bearOrBurst_44 : decode cX6_bearOrBurst 44 = .ok (.invokevirtual 96, 3) := by decide +kernel
theorem dX6_bearOrBurst_47 : decode cX6_bearOrBurst 47 = .ok (.invokestatic 125, 3) := by decide +kernel
theorem dX6_bearOrBurst_50 : decode cX6_bearOrBurst 50 = .ok (.putfield 100, 3) := by decide +kernel
theorem dX6_bearOrBurst_53 : decode cX6_bearOrBurst 53 = .ok (.iinc 1 1, 3) := by decide +kernel
theorem dX6_bearOrBurst_56 : decode cX6_bearOrBurst 56 = .ok (.goto (-42), 3) := by decide +kernel
theorem dX6_bearOrBurst_59 : decode cX6_bearOrBurst 59 = .ok (.return_, 1) := by decide +kernel
theorem dX6_seekBurst_0 : decode cX6_seekBurst 0 = .ok (.iconst 0, 1) := by decide +kernel
theorem dX6_seekBurst_1 : decode cX6_seekBurst 1 = .ok (.istore_n 1, 1) := by decide +kernel
theorem dX6_seekBurst_2 : decode cX6_seekBurst 2 = .ok (.iload_n 1, 1) := by decide +kernel
theorem dX6_seekBurst_3 : decode cX6_seekBurst 3 = .ok (.aload_n 0, 1) := by decide +kernel
theorem dX6_seekBurst_4 : decode cX6_seekBurst 4 = .ok (.getfield 54, 3) := by decide +kernel
theorem dX6_seekBurst_7 : decode cX6_seekBurst 7 = .ok (.if_icmp .ge 52, 3) := by decide +kernel
theorem dX6_seekBurst_10 : decode cX6_seekBurst 10 = .ok (.aload_n 0, 1) := by decide +kernel
theorem dX6_seekBurst_11 : decode cX6_seekBurst 11 = .ok (.invokevirtual 89, 3) := by decide +kernel
theorem dX6_seekBurst_14 : decode cX6_seekBurst 14 = .ok (.ifCond .ne 45, 3) := by decide +kernel
theorem dX6_seekBurst_17 : decode cX6_seekBurst 17 = .ok (.aload_n 0, 1) := by decide +kernel
theorem dX6_seekBurst_18 : decode cX6_seekBurst 18 = .ok (.aload_n 0, 1) := by decide +kernel
theorem dX6_seekBurst_19 : decode cX6_seekBurst 19 = .ok (.getfield 11, 3) := by decide +kernel
theorem dX6_seekBurst_22 : decode cX6_seekBurst 22 = .ok (.iload_n 1, 1) := by decide +kernel
theorem dX6_seekBurst_23 : decode cX6_seekBurst 23 = .ok (.aaload, 1) := by decide +kernel
theorem dX6_seekBurst_24 : decode cX6_seekBurst 24 = .ok (.invokevirtual 96, 3) := by decide +kernel
theorem dX6_seekBurst_27 : decode cX6_seekBurst 27 = .ok (.aload_n 0, 1) := by decide +kernel
theorem dX6_seekBurst_28 : decode cX6_seekBurst 28 = .ok (.aload_n 0, 1) := by decide +kernel
theorem dX6_seekBurst_29 : decode cX6_seekBurst 29 = .ok (.getfield 11, 3) := by decide +kernel
theorem dX6_seekBurst_32 : decode cX6_seekBurst 32 = .ok (.iload_n 1, 1) := by decide +kernel
theorem dX6_seekBurst_33 : decode cX6_seekBurst 33 = .ok (.aaload, 1) := by decide +kernel
theorem dX6_seekBurst_34 : decode cX6_seekBurst 34 = .ok (.invokevirtual 128, 3) := by decide +kernel
theorem dX6_seekBurst_37 : decode cX6_seekBurst 37 = .ok (.if_icmp .le 16, 3) := by decide +kernel
theorem dX6_seekBurst_40 : decode cX6_seekBurst 40 = .ok (.aload_n 0, 1) := by decide +kernel
theorem dX6_seekBurst_41 : decode cX6_seekBurst 41 = .ok (.iload_n 1, 1) := by decide +kernel
theorem dX6_seekBurst_42 : decode cX6_seekBurst 42 = .ok (.putfield 28, 3) := by decide +kernel
theorem dX6_seekBurst_45 : decode cX6_seekBurst 45 = .ok (.aload_n 0, 1) := by decide +kernel
theorem dX6_seekBurst_46 : decode cX6_seekBurst 46 = .ok (.aload_n 0, 1) := by decide +kernel
theorem dX6_seekBurst_47 : decode cX6_seekBurst 47 = .ok (.getfield 76, 3) := by decide +kernel
theorem dX6_seekBurst_50 : decode cX6_seekBurst 50 = .ok (.putfield 31, 3) := by decide +kernel
theorem dX6_seekBurst_53 : decode cX6_seekBurst 53 = .ok (.iinc 1 1, 3) := by decide +kernel
theorem dX6_seekBurst_56 : decode cX6_seekBurst 56 = .ok (.goto (-54), 3) := by decide +kernel
theorem dX6_seekBurst_59 : decode cX6_seekBurst 59 = .ok (.return_, 1) := by decide +kernel
theorem dX6_loadOf_0 : decode cX6_loadOf 0 = .ok (.iconst 0, 1) := by decide +kernel
theorem dX6_loadOf_1 : decode cX6_loadOf 1 = .ok (.aload_n 0, 1) := by decide +kernel
theorem dX6_loadOf_2 : decode cX6_loadOf 2 = .ok (.getfield 63, 3) := by decide +kernel
theorem dX6_loadOf_5 : decode cX6_loadOf 5 = .ok (.aload_n 1, 1) := by decide +kernel
theorem dX6_loadOf_6 : decode cX6_loadOf 6 = .ok (.getfield 93, 3) := by decide +kernel
theorem dX6_loadOf_9 : decode cX6_loadOf 9 = .ok (.isub, 1) := by decide +kernel
theorem dX6_loadOf_10 : decode cX6_loadOf 10 = .ok (.invokestatic 125, 3) := by decide +kernel
theorem dX6_loadOf_13 : decode cX6_loadOf 13 = .ok (.aload_n 0, 1) := by decide +kernel
theorem dX6_loadOf_14 : decode cX6_loadOf 14 = .ok (.getfield 42, 3) := by decide +kernel
theorem dX6_loadOf_17 : decode cX6_loadOf 17 = .ok (.imul, 1) := by decide +kernel
theorem dX6_loadOf_18 : decode cX6_loadOf 18 = .ok (.aload_n 0, 1) := by decide +kernel
theorem dX6_loadOf_19 : decode cX6_loadOf 19 = .ok (.getfield 66, 3) := by decide +kernel
theorem dX6_loadOf_22 : decode cX6_loadOf 22 = .ok (.iadd, 1) := by decide +kernel
theorem dX6_loadOf_23 : decode cX6_loadOf 23 = .ok (.aload_n 0, 1) := by decide +kernel
theorem dX6_loadOf_24 : decode cX6_loadOf 24 = .ok (.getfield 39, 3) := by decide +kernel
theorem dX6_loadOf_27 : decode cX6_loadOf 27 = .ok (.imul, 1) := by decide +kernel
theorem dX6_loadOf_28 : decode cX6_loadOf 28 = .ok (.ireturn, 1) := by decide +kernel
theorem dX6_fullLoadOf_0 : decode cX6_fullLoadOf 0 = .ok (.aload_n 0, 1) := by decide +kernel
theorem dX6_fullLoadOf_1 : decode cX6_fullLoadOf 1 = .ok (.getfield 57, 3) := by decide +kernel
theorem dX6_fullLoadOf_4 : decode cX6_fullLoadOf 4 = .ok (.aload_n 1, 1) := by decide +kernel
theorem dX6_fullLoadOf_5 : decode cX6_fullLoadOf 5 = .ok (.getfield 93, 3) := by decide +kernel
theorem dX6_fullLoadOf_8 : decode cX6_fullLoadOf 8 = .ok (.isub, 1) := by decide +kernel
theorem dX6_fullLoadOf_9 : decode cX6_fullLoadOf 9 = .ok (.aload_n 0, 1) := by decide +kernel
theorem dX6_fullLoadOf_10 : decode cX6_fullLoadOf 10 = .ok (.getfield 42, 3) := by decide +kernel
theorem dX6_fullLoadOf_13 : decode cX6_fullLoadOf 13 = .ok (.imul, 1) := by decide +kernel
theorem dX6_fullLoadOf_14 : decode cX6_fullLoadOf 14 = .ok (.aload_n 0, 1) := by decide +kernel
theorem dX6_fullLoadOf_15 : decode cX6_fullLoadOf 15 = .ok (.getfield 39, 3) := by decide +kernel
theorem dX6_fullLoadOf_18 : decode cX6_fullLoadOf 18 = .ok (.imul, 1) := by decide +kernel
theorem dX6_fullLoadOf_19 : decode cX6_fullLoadOf 19 = .ok (.ireturn, 1) := by decide +kernel
theorem dX6_steelOf_0 : decode cX6_steelOf 0 = .ok (.iconst 0, 1) := by decide +kernel
theorem dX6_steelOf_1 : decode cX6_steelOf 1 = .ok (.istore_n 2, 1) := by decide +kernel
theorem dX6_steelOf_2 : decode cX6_steelOf 2 = .ok (.iconst 0, 1) := by decide +kernel
theorem dX6_steelOf_3 : decode cX6_steelOf 3 = .ok (.istore_n 3, 1) := by decide +kernel
theorem dX6_steelOf_4 : decode cX6_steelOf 4 = .ok (.iload_n 3, 1) := by decide +kernel
theorem dX6_steelOf_5 : decode cX6_steelOf 5 = .ok (.aload_n 0, 1) := by decide +kernel
theorem dX6_steelOf_6 : decode cX6_steelOf 6 = .ok (.getfield 60, 3) := by decide +kernel
theorem dX6_steelOf_9 : decode cX6_steelOf 9 = .ok (.if_icmp .ge 40, 3) := by decide +kernel
theorem dX6_steelOf_12 : decode cX6_steelOf 12 = .ok (.iload_n 2, 1) := by decide +kernel
theorem dX6_steelOf_13 : decode cX6_steelOf 13 = .ok (.aload_n 0, 1) := by decide +kernel
theorem dX6_steelOf_14 : decode cX6_steelOf 14 = .ok (.getfield 17, 3) := by decide +kernel
theorem dX6_steelOf_17 : decode cX6_steelOf 17 = .ok (.iload_n 3, 1) := by decide +kernel
theorem dX6_steelOf_18 : decode cX6_steelOf 18 = .ok (.iaload, 1) := by decide +kernel
theorem dX6_steelOf_19 : decode cX6_steelOf 19 = .ok (.iadd, 1) := by decide +kernel
theorem dX6_steelOf_20 : decode cX6_steelOf 20 = .ok (.istore_n 2, 1) := by decide +kernel
theorem dX6_steelOf_21 : decode cX6_steelOf 21 = .ok (.iload_n 2, 1) := by decide +kernel
theorem dX6_steelOf_22 : decode cX6_steelOf 22 = .ok (.aload_n 1, 1) := by decide +kernel
theorem dX6_steelOf_23 : decode cX6_steelOf 23 = .ok (.getfield 93, 3) := by decide +kernel
theorem dX6_steelOf_26 : decode cX6_steelOf 26 = .ok (.if_icmp .le 17, 3) := by decide +kernel
theorem dX6_steelOf_29 : decode cX6_steelOf 29 = .ok (.aload_n 0, 1) := by decide +kernel
theorem dX6_steelOf_30 : decode cX6_steelOf 30 = .ok (.getfield 21, 3) := by decide +kernel
theorem dX6_steelOf_33 : decode cX6_steelOf 33 = .ok (.iload_n 3, 1) := by decide +kernel
theorem dX6_steelOf_34 : decode cX6_steelOf 34 = .ok (.iaload, 1) := by decide +kernel
theorem dX6_steelOf_35 : decode cX6_steelOf 35 = .ok (.aload_n 0, 1) := by decide +kernel
theorem dX6_steelOf_36 : decode cX6_steelOf 36 = .ok (.getfield 24, 3) := by decide +kernel
theorem dX6_steelOf_39 : decode cX6_steelOf 39 = .ok (.iadd, 1) := by decide +kernel
theorem dX6_steelOf_40 : decode cX6_steelOf 40 = .ok (.iconst 2, 1) := by decide +kernel
theorem dX6_steelOf_41 : decode cX6_steelOf 41 = .ok (.idiv, 1) := by decide +kernel
theorem dX6_steelOf_42 : decode cX6_steelOf 42 = .ok (.ireturn, 1) := by decide +kernel
theorem dX6_steelOf_43 : decode cX6_steelOf 43 = .ok (.iinc 3 1, 3) := by decide +kernel
theorem dX6_steelOf_46 : decode cX6_steelOf 46 = .ok (.goto (-42), 3) := by decide +kernel
theorem dX6_steelOf_49 : decode cX6_steelOf 49 = .ok (.aload_n 0, 1) := by decide +kernel
theorem dX6_steelOf_50 : decode cX6_steelOf 50 = .ok (.getfield 24, 3) := by decide +kernel
theorem dX6_steelOf_53 : decode cX6_steelOf 53 = .ok (.ireturn, 1) := by decide +kernel
theorem dX6_plateOf_0 : decode cX6_plateOf 0 = .ok (.iload_n 2, 1) := by decide +kernel
theorem dX6_plateOf_1 : decode cX6_plateOf 1 = .ok (.aload_n 1, 1) := by decide +kernel
theorem dX6_plateOf_2 : decode cX6_plateOf 2 = .ok (.getfield 131, 3) := by decide +kernel
theorem dX6_plateOf_5 : decode cX6_plateOf 5 = .ok (.imul, 1) := by decide +kernel
theorem dX6_plateOf_6 : decode cX6_plateOf 6 = .ok (.bipush 10, 2) := by decide +kernel
theorem dX6_plateOf_8 : decode cX6_plateOf 8 = .ok (.aload_n 1, 1) := by decide +kernel
theorem dX6_plateOf_9 : decode cX6_plateOf 9 = .ok (.getfield 134, 3) := by decide +kernel
theorem dX6_plateOf_12 : decode cX6_plateOf 12 = .ok (.isub, 1) := by decide +kernel
theorem dX6_plateOf_13 : decode cX6_plateOf 13 = .ok (.imul, 1) := by decide +kernel
theorem dX6_plateOf_14 : decode cX6_plateOf 14 = .ok (.bipush 10, 2) := by decide +kernel
theorem dX6_plateOf_16 : decode cX6_plateOf 16 = .ok (.idiv, 1) := by decide +kernel
theorem dX6_plateOf_17 : decode cX6_plateOf 17 = .ok (.istore_n 3, 1) := by decide +kernel
theorem dX6_plateOf_18 : decode cX6_plateOf 18 = .ok (.aload_n 0, 1) := by decide +kernel
theorem dX6_plateOf_19 : decode cX6_plateOf 19 = .ok (.aload_n 1, 1) := by decide +kernel
theorem dX6_plateOf_20 : decode cX6_plateOf 20 = .ok (.invokevirtual 137, 3) := by decide +kernel
theorem dX6_plateOf_23 : decode cX6_plateOf 23 = .ok (.aload_n 1, 1) := by decide +kernel
theorem dX6_plateOf_24 : decode cX6_plateOf 24 = .ok (.getfield 140, 3) := by decide +kernel
theorem dX6_plateOf_27 : decode cX6_plateOf 27 = .ok (.if_icmp .ge 7, 3) := by decide +kernel
theorem dX6_plateOf_30 : decode cX6_plateOf 30 = .ok (.iload_n 3, 1) := by decide +kernel
theorem dX6_plateOf_31 : decode cX6_plateOf 31 = .ok (.iconst 2, 1) := by decide +kernel
theorem dX6_plateOf_32 : decode cX6_plateOf 32 = .ok (.idiv, 1) := by decide +kernel
theorem dX6_plateOf_33 : decode cX6_plateOf 33 = .ok (.istore_n 3, 1) := by decide +kernel
theorem dX6_plateOf_34 : decode cX6_plateOf 34 = .ok (.iconst 0, 1) := by decide +kernel
theorem dX6_plateOf_35 : decode cX6_plateOf 35 = .ok (.iload_n 3, 1) := by decide +kernel
theorem dX6_plateOf_36 : decode cX6_plateOf 36 = .ok (.aload_n 0, 1) := by decide +kernel
theorem dX6_plateOf_37 : decode cX6_plateOf 37 = .ok (.getfield 45, 3) := by decide +kernel
theorem dX6_plateOf_40 : decode cX6_plateOf 40 = .ok (.aload_n 0, 1) := by decide +kernel
theorem dX6_plateOf_41 : decode cX6_plateOf 41 = .ok (.getfield 69, 3) := by decide +kernel
theorem dX6_plateOf_44 : decode cX6_plateOf 44 = .ok (.imul, 1) := by decide +kernel
theorem dX6_plateOf_45 : decode cX6_plateOf 45 = .ok (.isub, 1) := by decide +kernel
theorem dX6_plateOf_46 : decode cX6_plateOf 46 = .ok (.invokestatic 125, 3) := by decide +kernel
theorem dX6_plateOf_49 : decode cX6_plateOf 49 = .ok (.ireturn, 1) := by decide +kernel
theorem dX6_bearsOf_0 : decode cX6_bearsOf 0 = .ok (.aload_n 0, 1) := by decide +kernel
theorem dX6_bearsOf_1 : decode cX6_bearsOf 1 = .ok (.aload_n 1, 1) := by decide +kernel
theorem dX6_bearsOf_2 : decode cX6_bearsOf 2 = .ok (.aload_n 1, 1) := by decide +kernel
theorem dX6_bearsOf_3 : decode cX6_bearsOf 3 = .ok (.getfield 143, 3) := by decide +kernel
theorem dX6_bearsOf_6 : decode cX6_bearsOf 6 = .ok (.invokevirtual 146, 3) := by decide +kernel
theorem dX6_bearsOf_9 : decode cX6_bearsOf 9 = .ok (.aload_n 1, 1) := by decide +kernel
theorem dX6_bearsOf_10 : decode cX6_bearsOf 10 = .ok (.getfield 150, 3) := by decide +kernel
theorem dX6_bearsOf_13 : decode cX6_bearsOf 13 = .ok (.invokestatic 109, 3) := by decide +kernel
theorem dX6_bearsOf_16 : decode cX6_bearsOf 16 = .ok (.ireturn, 1) := by decide +kernel
theorem dX6_number_0 : decode cX6_number 0 = .ok (.iload_n 1, 1) := by decide +kernel
theorem dX6_number_1 : decode cX6_number 1 = .ok (.tableswitch 96 0 8 #[51, 56, 61, 66, 71, 76, 81, 86, 91], 51) := by decide +kernel
theorem dX6_number_52 : decode cX6_number 52 = .ok (.aload_n 0, 1) := by decide +kernel
theorem dX6_number_53 : decode cX6_number 53 = .ok (.getfield 76, 3) := by decide +kernel
theorem dX6_number_56 : decode cX6_number 56 = .ok (.ireturn, 1) := by decide +kernel
theorem dX6_number_57 : decode cX6_number 57 = .ok (.aload_n 0, 1) := by decide +kernel
theorem dX6_number_58 : decode cX6_number 58 = .ok (.getfield 54, 3) := by decide +kernel
theorem dX6_number_61 : decode cX6_number 61 = .ok (.ireturn, 1) := by decide +kernel
theorem dX6_number_62 : decode cX6_number 62 = .ok (.aload_n 0, 1) := by decide +kernel
theorem dX6_number_63 : decode cX6_number 63 = .ok (.getfield 60, 3) := by decide +kernel
theorem dX6_number_66 : decode cX6_number 66 = .ok (.ireturn, 1) := by decide +kernel
theorem dX6_number_67 : decode cX6_number 67 = .ok (.aload_n 0, 1) := by decide +kernel
theorem dX6_number_68 : decode cX6_number 68 = .ok (.getfield 63, 3) := by decide +kernel
theorem dX6_number_71 : decode cX6_number 71 = .ok (.ireturn, 1) := by decide +kernel
theorem dX6_number_72 : decode cX6_number 72 = .ok (.aload_n 0, 1) := by decide +kernel
theorem dX6_number_73 : decode cX6_number 73 = .ok (.getfield 66, 3) := by decide +kernel
theorem dX6_number_76 : decode cX6_number 76 = .ok (.ireturn, 1) := by decide +kernel
theorem dX6_number_77 : decode cX6_number 77 = .ok (.aload_n 0, 1) := by decide +kernel
theorem dX6_number_78 : decode cX6_number 78 = .ok (.getfield 24, 3) := by decide +kernel
theorem dX6_number_81 : decode cX6_number 81 = .ok (.ireturn, 1) := by decide +kernel
theorem dX6_number_82 : decode cX6_number 82 = .ok (.aload_n 0, 1) := by decide +kernel
theorem dX6_number_83 : decode cX6_number 83 = .ok (.getfield 69, 3) := by decide +kernel
theorem dX6_number_86 : decode cX6_number 86 = .ok (.ireturn, 1) := by decide +kernel
theorem dX6_number_87 : decode cX6_number 87 = .ok (.aload_n 0, 1) := by decide +kernel
theorem dX6_number_88 : decode cX6_number 88 = .ok (.getfield 28, 3) := by decide +kernel
theorem dX6_number_91 : decode cX6_number 91 = .ok (.ireturn, 1) := by decide +kernel
theorem dX6_number_92 : decode cX6_number 92 = .ok (.aload_n 0, 1) := by decide +kernel
theorem dX6_number_93 : decode cX6_number 93 = .ok (.getfield 31, 3) := by decide +kernel
theorem dX6_number_96 : decode cX6_number 96 = .ok (.ireturn, 1) := by decide +kernel
theorem dX6_number_97 : decode cX6_number 97 = .ok (.sipush (-1000), 3) := by decide +kernel
theorem dX6_number_100 : decode cX6_number 100 = .ok (.ireturn, 1) := by decide +kernel
theorem dX6_ofLayer_0 : decode cX6_ofLayer 0 = .ok (.iload_n 1, 1) := by decide +kernel
theorem dX6_ofLayer_1 : decode cX6_ofLayer 1 = .ok (.ifCond .lt 20, 3) := by decide +kernel
theorem dX6_ofLayer_4 : decode cX6_ofLayer 4 = .ok (.iload_n 1, 1) := by decide +kernel
theorem dX6_ofLayer_5 : decode cX6_ofLayer 5 = .ok (.aload_n 0, 1) := by decide +kernel
theorem dX6_ofLayer_6 : decode cX6_ofLayer 6 = .ok (.getfield 60, 3) := by decide +kernel
theorem dX6_ofLayer_9 : decode cX6_ofLayer 9 = .ok (.if_icmp .ge 12, 3) := by decide +kernel
theorem dX6_ofLayer_12 : decode cX6_ofLayer 12 = .ok (.iload_n 2, 1) := by decide +kernel
theorem dX6_ofLayer_13 : decode cX6_ofLayer 13 = .ok (.ifCond .lt 8, 3) := by decide +kernel
theorem dX6_ofLayer_16 : decode cX6_ofLayer 16 = .ok (.iload_n 2, 1) := by decide +kernel
theorem dX6_ofLayer_17 : decode cX6_ofLayer 17 = .ok (.iconst 1, 1) := by decide +kernel
theorem dX6_ofLayer_18 : decode cX6_ofLayer 18 = .ok (.if_icmp .le 7, 3) := by decide +kernel
theorem dX6_ofLayer_21 : decode cX6_ofLayer 21 = .ok (.sipush (-1000), 3) := by decide +kernel
theorem dX6_ofLayer_24 : decode cX6_ofLayer 24 = .ok (.ireturn, 1) := by decide +kernel
theorem dX6_ofLayer_25 : decode cX6_ofLayer 25 = .ok (.iload_n 2, 1) := by decide +kernel
theorem dX6_ofLayer_26 : decode cX6_ofLayer 26 = .ok (.ifCond .ne 12, 3) := by decide +kernel
theorem dX6_ofLayer_29 : decode cX6_ofLayer 29 = .ok (.aload_n 0, 1) := by decide +kernel
theorem dX6_ofLayer_30 : decode cX6_ofLayer 30 = .ok (.getfield 17, 3) := by decide +kernel
theorem dX6_ofLayer_33 : decode cX6_ofLayer 33 = .ok (.iload_n 1, 1) := by decide +kernel
theorem dX6_ofLayer_34 : decode cX6_ofLayer 34 = .ok (.iaload, 1) := by decide +kernel
theorem dX6_ofLayer_35 : decode cX6_ofLayer 35 = .ok (.goto 9, 3) := by decide +kernel
theorem dX6_ofLayer_38 : decode cX6_ofLayer 38 = .ok (.aload_n 0, 1) := by decide +kernel
theorem dX6_ofLayer_39 : decode cX6_ofLayer 39 = .ok (.getfield 21, 3) := by decide +kernel
theorem dX6_ofLayer_42 : decode cX6_ofLayer 42 = .ok (.iload_n 1, 1) := by decide +kernel
theorem dX6_ofLayer_43 : decode cX6_ofLayer 43 = .ok (.iaload, 1) := by decide +kernel
theorem dX6_ofLayer_44 : decode cX6_ofLayer 44 = .ok (.ireturn, 1) := by decide +kernel
theorem dX6_ofRing_0 : decode cX6_ofRing 0 = .ok (.aload_n 0, 1) := by decide +kernel
theorem dX6_ofRing_1 : decode cX6_ofRing 1 = .ok (.iload_n 1, 1) := by decide +kernel
theorem dX6_ofRing_2 : decode cX6_ofRing 2 = .ok (.invokevirtual 153, 3) := by decide +kernel
theorem dX6_ofRing_5 : decode cX6_ofRing 5 = .ok (.ifCond .ne 7, 3) := by decide +kernel
theorem dX6_ofRing_8 : decode cX6_ofRing 8 = .ok (.sipush (-1000), 3) := by decide +kernel
theorem dX6_ofRing_11 : decode cX6_ofRing 11 = .ok (.ireturn, 1) := by decide +kernel
theorem dX6_ofRing_12 : decode cX6_ofRing 12 = .ok (.aload_n 0, 1) := by decide +kernel
theorem dX6_ofRing_13 : decode cX6_ofRing 13 = .ok (.getfield 11, 3) := by decide +kernel
theorem dX6_ofRing_16 : decode cX6_ofRing 16 = .ok (.iload_n 1, 1) := by decide +kernel
theorem dX6_ofRing_17 : decode cX6_ofRing 17 = .ok (.aaload, 1) := by decide +kernel
theorem dX6_ofRing_18 : decode cX6_ofRing 18 = .ok (.astore_n 3, 1) := by decide +kernel
theorem dX6_ofRing_19 : decode cX6_ofRing 19 = .ok (.iload_n 2, 1) := by decide +kernel
theorem dX6_ofRing_20 : decode cX6_ofRing 20 = .ok (.tableswitch 91 0 5 #[40, 46, 52, 58, 68, 73], 40) := by decide +kernel
theorem dX6_ofRing_60 : decode cX6_ofRing 60 = .ok (.aload_n 0, 1) := by decide +kernel
theorem dX6_ofRing_61 : decode cX6_ofRing 61 = .ok (.aload_n 3, 1) := by decide +kernel
theorem dX6_ofRing_62 : decode cX6_ofRing 62 = .ok (.invokevirtual 96, 3) := by decide +kernel
theorem dX6_ofRing_65 : decode cX6_ofRing 65 = .ok (.ireturn, 1) := by decide +kernel
theorem dX6_ofRing_66 : decode cX6_ofRing 66 = .ok (.aload_n 0, 1) := by decide +kernel
theorem dX6_ofRing_67 : decode cX6_ofRing 67 = .ok (.aload_n 3, 1) := by decide +kernel
theorem dX6_ofRing_68 : decode cX6_ofRing 68 = .ok (.invokevirtual 128, 3) := by decide +kernel
theorem dX6_ofRing_71 : decode cX6_ofRing 71 = .ok (.ireturn, 1) := by decide +kernel
theorem dX6_ofRing_72 : decode cX6_ofRing 72 = .ok (.aload_n 0, 1) := by decide +kernel
theorem dX6_ofRing_73 : decode cX6_ofRing 73 = .ok (.aload_n 3, 1) := by decide +kernel
theorem dX6_ofRing_74 : decode cX6_ofRing 74 = .ok (.invokevirtual 137, 3) := by decide +kernel
theorem dX6_ofRing_77 : decode cX6_ofRing 77 = .ok (.ireturn, 1) := by decide +kernel
theorem dX6_ofRing_78 : decode cX6_ofRing 78 = .ok (.aload_n 0, 1) := by decide +kernel
theorem dX6_ofRing_79 : decode cX6_ofRing 79 = .ok (.aload_n 3, 1) := by decide +kernel
theorem dX6_ofRing_80 : decode cX6_ofRing 80 = .ok (.aload_n 3, 1) := by decide +kernel
theorem dX6_ofRing_81 : decode cX6_ofRing 81 = .ok (.getfield 143, 3) := by decide +kernel
theorem dX6_ofRing_84 : decode cX6_ofRing 84 = .ok (.invokevirtual 146, 3) := by decide +kernel
theorem dX6_ofRing_87 : decode cX6_ofRing 87 = .ok (.ireturn, 1) := by decide +kernel
theorem dX6_ofRing_88 : decode cX6_ofRing 88 = .ok (.aload_n 3, 1) := by decide +kernel
theorem dX6_ofRing_89 : decode cX6_ofRing 89 = .ok (.getfield 100, 3) := by decide +kernel
theorem dX6_ofRing_92 : decode cX6_ofRing 92 = .ok (.ireturn, 1) := by decide +kernel
theorem dX6_ofRing_93 : decode cX6_ofRing 93 = .ok (.iload_n 1, 1) := by decide +kernel
theorem dX6_ofRing_94 : decode cX6_ofRing 94 = .ok (.aload_n 0, 1) := by decide +kernel
theorem dX6_ofRing_95 : decode cX6_ofRing 95 = .ok (.getfield 28, 3) := by decide +kernel
theorem dX6_ofRing_98 : decode cX6_ofRing 98 = .ok (.if_icmp .ne 11, 3) := by decide +kernel
theorem dX6_ofRing_101 : decode cX6_ofRing 101 = .ok (.aload_n 0, 1) := by decide +kernel
theorem dX6_ofRing_102 : decode cX6_ofRing 102 = .ok (.aload_n 3, 1) := by decide +kernel
theorem dX6_ofRing_103 : decode cX6_ofRing 103 = .ok (.invokevirtual 96, 3) := by decide +kernel
theorem dX6_ofRing_106 : decode cX6_ofRing 106 = .ok (.goto 4, 3) := by decide +kernel
theorem dX6_ofRing_109 : decode cX6_ofRing 109 = .ok (.iconst (-1), 1) := by decide +kernel
theorem dX6_ofRing_110 : decode cX6_ofRing 110 = .ok (.ireturn, 1) := by decide +kernel
theorem dX6_ofRing_111 : decode cX6_ofRing 111 = .ok (.sipush (-1000), 3) := by decide +kernel
theorem dX6_ofRing_114 : decode cX6_ofRing 114 = .ok (.ireturn, 1) := by decide +kernel
theorem dX6_nearestRing_0 : decode cX6_nearestRing 0 = .ok (.iconst (-1), 1) := by decide +kernel
theorem dX6_nearestRing_1 : decode cX6_nearestRing 1 = .ok (.istore_n 1, 1) := by decide +kernel
theorem dX6_nearestRing_2 : decode cX6_nearestRing 2 = .ok (.iconst 0, 1) := by decide +kernel
theorem dX6_nearestRing_3 : decode cX6_nearestRing 3 = .ok (.istore_n 2, 1) := by decide +kernel
theorem dX6_nearestRing_4 : decode cX6_nearestRing 4 = .ok (.iload_n 2, 1) := by decide +kernel
theorem dX6_nearestRing_5 : decode cX6_nearestRing 5 = .ok (.aload_n 0, 1) := by decide +kernel
theorem dX6_nearestRing_6 : decode cX6_nearestRing 6 = .ok (.getfield 54, 3) := by decide +kernel
theorem dX6_nearestRing_9 : decode cX6_nearestRing 9 = .ok (.if_icmp .ge 35, 3) := by decide +kernel
theorem dX6_nearestRing_12 : decode cX6_nearestRing 12 = .ok (.iload_n 1, 1) := by decide +kernel
theorem dX6_nearestRing_13 : decode cX6_nearestRing 13 = .ok (.iconst (-1), 1) := by decide +kernel
theorem dX6_nearestRing_14 : decode cX6_nearestRing 14 = .ok (.if_icmp .eq 22, 3) := by decide +kernel
theorem dX6_nearestRing_17 : decode cX6_nearestRing 17 = .ok (.aload_n 0, 1) := by decide +kernel
theorem dX6_nearestRing_18 : decode cX6_nearestRing 18 = .ok (.aload_n 0, 1) := by decide +kernel
theorem dX6_nearestRing_19 : decode cX6_nearestRing 19 = .ok (.getfield 11, 3) := by decide +kernel
theorem dX6_nearestRing_22 : decode cX6_nearestRing 22 = .ok (.iload_n 2, 1) := by decide +kernel
theorem dX6_nearestRing_23 : decode cX6_nearestRing 23 = .ok (.aaload, 1) := by decide +kernel
theorem dX6_nearestRing_24 : decode cX6_nearestRing 24 = .ok (.aload_n 0, 1) := by decide +kernel
theorem dX6_nearestRing_25 : decode cX6_nearestRing 25 = .ok (.getfield 11, 3) := by decide +kernel
theorem dX6_nearestRing_28 : decode cX6_nearestRing 28 = .ok (.iload_n 1, 1) := by decide +kernel
theorem dX6_nearestRing_29 : decode cX6_nearestRing 29 = .ok (.aaload, 1) := by decide +kernel
theorem dX6_nearestRing_30 : decode cX6_nearestRing 30 = .ok (.invokevirtual 157, 3) := by decide +kernel
theorem dX6_nearestRing_33 : decode cX6_nearestRing 33 = .ok (.ifCond .eq 5, 3) := by decide +kernel
theorem dX6_nearestRing_36 : decode cX6_nearestRing 36 = .ok (.iload_n 2, 1) := by decide +kernel
theorem dX6_nearestRing_37 : decode cX6_nearestRing 37 = .ok (.istore_n 1, 1) := by decide +kernel
theorem dX6_nearestRing_38 : decode cX6_nearestRing 38 = .ok (.iinc 2 1, 3) := by decide +kernel
theorem dX6_nearestRing_41 : decode cX6_nearestRing 41 = .ok (.goto (-37), 3) := by decide +kernel
theorem dX6_nearestRing_44 : decode cX6_nearestRing 44 = .ok (.iload_n 1, 1) := by decide +kernel
theorem dX6_nearestRing_45 : decode cX6_nearestRing 45 = .ok (.ireturn, 1) := by decide +kernel
theorem dX6_isNearer_0 : decode cX6_isNearer 0 = .ok (.aload_n 0, 1) := by decide +kernel
theorem dX6_isNearer_1 : decode cX6_isNearer 1 = .ok (.aload_n 1, 1) := by decide +kernel
theorem dX6_isNearer_2 : decode cX6_isNearer 2 = .ok (.invokevirtual 96, 3) := by decide +kernel
theorem dX6_isNearer_5 : decode cX6_isNearer 5 = .ok (.i2l, 1) := by decide +kernel
theorem dX6_isNearer_6 : decode cX6_isNearer 6 = .ok (.lstore_n 3, 1) := by decide +kernel
theorem dX6_isNearer_7 : decode cX6_isNearer 7 = .ok (.aload_n 0, 1) := by decide +kernel
theorem dX6_isNearer_8 : decode cX6_isNearer 8 = .ok (.aload_n 1, 1) := by decide +kernel
theorem dX6_isNearer_9 : decode cX6_isNearer 9 = .ok (.invokevirtual 128, 3) := by decide +kernel
theorem dX6_isNearer_12 : decode cX6_isNearer 12 = .ok (.i2l, 1) := by decide +kernel
theorem dX6_isNearer_13 : decode cX6_isNearer 13 = .ok (.lstore 5, 2) := by decide +kernel
theorem dX6_isNearer_15 : decode cX6_isNearer 15 = .ok (.aload_n 0, 1) := by decide +kernel
theorem dX6_isNearer_16 : decode cX6_isNearer 16 = .ok (.aload_n 2, 1) := by decide +kernel
theorem dX6_isNearer_17 : decode cX6_isNearer 17 = .ok (.invokevirtual 96, 3) := by decide +kernel
theorem dX6_isNearer_20 : decode cX6_isNearer 20 = .ok (.i2l, 1) := by decide +kernel
theorem dX6_isNearer_21 : decode cX6_isNearer 21 = .ok (.lstore 7, 2) := by decide +kernel
theorem dX6_isNearer_23 : decode cX6_isNearer 23 = .ok (.aload_n 0, 1) := by decide +kernel
theorem dX6_isNearer_24 : decode cX6_isNearer 24 = .ok (.aload_n 2, 1) := by decide +kernel
theorem dX6_isNearer_25 : decode cX6_isNearer 25 = .ok (.invokevirtual 128, 3) := by decide +kernel
theorem dX6_isNearer_28 : decode cX6_isNearer 28 = .ok (.i2l, 1) := by decide +kernel
theorem dX6_isNearer_29 : decode cX6_isNearer 29 = .ok (.lstore 9, 2) := by decide +kernel
theorem dX6_isNearer_31 : decode cX6_isNearer 31 = .ok (.lload 5, 2) := by decide +kernel
theorem dX6_isNearer_33 : decode cX6_isNearer 33 = .ok (.lconst 0, 1) := by decide +kernel
theorem dX6_isNearer_34 : decode cX6_isNearer 34 = .ok (.lcmp, 1) := by decide +kernel
theorem dX6_isNearer_35 : decode cX6_isNearer 35 = .ok (.ifCond .ne 23, 3) := by decide +kernel
theorem dX6_isNearer_38 : decode cX6_isNearer 38 = .ok (.lload 9, 2) := by decide +kernel
theorem dX6_isNearer_40 : decode cX6_isNearer 40 = .ok (.lconst 0, 1) := by decide +kernel
theorem dX6_isNearer_41 : decode cX6_isNearer 41 = .ok (.lcmp, 1) := by decide +kernel
theorem dX6_isNearer_42 : decode cX6_isNearer 42 = .ok (.ifCond .ne 16, 3) := by decide +kernel
theorem dX6_isNearer_45 : decode cX6_isNearer 45 = .ok (.lload_n 3, 1) := by decide +kernel
theorem dX6_isNearer_46 : decode cX6_isNearer 46 = .ok (.lload 7, 2) := by decide +kernel
theorem dX6_isNearer_48 : decode cX6_isNearer 48 = .ok (.lcmp, 1) := by decide +kernel
theorem dX6_isNearer_49 : decode cX6_isNearer 49 = .ok (.ifCond .le 7, 3) := by decide +kernel
theorem dX6_isNearer_52 : decode cX6_isNearer 52 = .ok (.iconst 1, 1) := by decide +kernel
theorem dX6_isNearer_53 : decode cX6_isNearer 53 = .ok (.goto 4, 3) := by decide +kernel
theorem dX6_isNearer_56 : decode cX6_isNearer 56 = .ok (.iconst 0, 1) := by decide +kernel
theorem dX6_isNearer_57 : decode cX6_isNearer 57 = .ok (.ireturn, 1) := by decide +kernel
theorem dX6_isNearer_58 : decode cX6_isNearer 58 = .ok (.lload 5, 2) := by decide +kernel
theorem dX6_isNearer_60 : decode cX6_isNearer 60 = .ok (.lconst 0, 1) := by decide +kernel
theorem dX6_isNearer_61 : decode cX6_isNearer 61 = .ok (.lcmp, 1) := by decide +kernel
theorem dX6_isNearer_62 : decode cX6_isNearer 62 = .ok (.ifCond .eq 10, 3) := by decide +kernel
theorem dX6_isNearer_65 : decode cX6_isNearer 65 = .ok (.lload 9, 2) := by decide +kernel
theorem dX6_isNearer_67 : decode cX6_isNearer 67 = .ok (.lconst 0, 1) := by decide +kernel
theorem dX6_isNearer_68 : decode cX6_isNearer 68 = .ok (.lcmp, 1) := by decide +kernel
theorem dX6_isNearer_69 : decode cX6_isNearer 69 = .ok (.ifCond .ne 16, 3) := by decide +kernel
theorem dX6_isNearer_72 : decode cX6_isNearer 72 = .ok (.lload 5, 2) := by decide +kernel
theorem dX6_isNearer_74 : decode cX6_isNearer 74 = .ok (.lconst 0, 1) := by decide +kernel
theorem dX6_isNearer_75 : decode cX6_isNearer 75 = .ok (.lcmp, 1) := by decide +kernel
theorem dX6_isNearer_76 : decode cX6_isNearer 76 = .ok (.ifCond .ne 7, 3) := by decide +kernel
theorem dX6_isNearer_79 : decode cX6_isNearer 79 = .ok (.iconst 1, 1) := by decide +kernel
theorem dX6_isNearer_80 : decode cX6_isNearer 80 = .ok (.goto 4, 3) := by decide +kernel
theorem dX6_isNearer_83 : decode cX6_isNearer 83 = .ok (.iconst 0, 1) := by decide +kernel
theorem dX6_isNearer_84 : decode cX6_isNearer 84 = .ok (.ireturn, 1) := by decide +kernel
theorem dX6_isNearer_85 : decode cX6_isNearer 85 = .ok (.lload_n 3, 1) := by decide +kernel
theorem dX6_isNearer_86 : decode cX6_isNearer 86 = .ok (.lload 9, 2) := by decide +kernel
theorem dX6_isNearer_88 : decode cX6_isNearer 88 = .ok (.lmul, 1) := by decide +kernel
theorem dX6_isNearer_89 : decode cX6_isNearer 89 = .ok (.lload 7, 2) := by decide +kernel
theorem dX6_isNearer_91 : decode cX6_isNearer 91 = .ok (.lload 5, 2) := by decide +kernel
theorem dX6_isNearer_93 : decode cX6_isNearer 93 = .ok (.lmul, 1) := by decide +kernel
theorem dX6_isNearer_94 : decode cX6_isNearer 94 = .ok (.lcmp, 1) := by decide +kernel
theorem dX6_isNearer_95 : decode cX6_isNearer 95 = .ok (.ifCond .le 7, 3) := by decide +kernel
theorem dX6_isNearer_98 : decode cX6_isNearer 98 = .ok (.iconst 1, 1) := by decide +kernel
theorem dX6_isNearer_99 : decode cX6_isNearer 99 = .ok (.goto 4, 3) := by decide +kernel
theorem dX6_isNearer_102 : decode cX6_isNearer 102 = .ok (.iconst 0, 1) := by decide +kernel
theorem dX6_isNearer_103 : decode cX6_isNearer 103 = .ok (.ireturn, 1) := by decide +kernel
theorem dX6_tooWeakFor_0 : decode cX6_tooWeakFor 0 = .ok (.aload_n 0, 1) := by decide +kernel
theorem dX6_tooWeakFor_1 : decode cX6_tooWeakFor 1 = .ok (.getfield 54, 3) := by decide +kernel
theorem dX6_tooWeakFor_4 : decode cX6_tooWeakFor 4 = .ok (.ifCond .ne 5, 3) := by decide +kernel
theorem dX6_tooWeakFor_7 : decode cX6_tooWeakFor 7 = .ok (.iconst (-1), 1) := by decide +kernel
theorem dX6_tooWeakFor_8 : decode cX6_tooWeakFor 8 = .ok (.ireturn, 1) := by decide +kernel
theorem dX6_tooWeakFor_9 : decode cX6_tooWeakFor 9 = .ok (.iconst 0, 1) := by decide +kernel
theorem dX6_tooWeakFor_10 : decode cX6_tooWeakFor 10 = .ok (.istore_n 3, 1) := by decide +kernel
theorem dX6_tooWeakFor_11 : decode cX6_tooWeakFor 11 = .ok (.iconst 0, 1) := by decide +kernel
theorem dX6_tooWeakFor_12 : decode cX6_tooWeakFor 12 = .ok (.istore 4, 2) := by decide +kernel
theorem dX6_tooWeakFor_14 : decode cX6_tooWeakFor 14 = .ok (.iload 4, 2) := by decide +kernel
theorem dX6_tooWeakFor_16 : decode cX6_tooWeakFor 16 = .ok (.aload_n 0, 1) := by decide +kernel
theorem dX6_tooWeakFor_17 : decode cX6_tooWeakFor 17 = .ok (.getfield 54, 3) := by decide +kernel
theorem dX6_tooWeakFor_20 : decode cX6_tooWeakFor 20 = .ok (.if_icmp .ge 57, 3) := by decide +kernel
theorem dX6_tooWeakFor_23 : decode cX6_tooWeakFor 23 = .ok (.iconst 0, 1) := by decide +kernel
theorem dX6_tooWeakFor_24 : decode cX6_tooWeakFor 24 = .ok (.iload_n 1, 1) := by decide +kernel
theorem dX6_tooWeakFor_25 : decode cX6_tooWeakFor 25 = .ok (.aload_n 0, 1) := by decide +kernel
theorem dX6_tooWeakFor_26 : decode cX6_tooWeakFor 26 = .ok (.getfield 11, 3) := by decide +kernel
theorem dX6_tooWeakFor_29 : decode cX6_tooWeakFor 29 = .ok (.iload 4, 2) := by decide +kernel
theorem dX6_tooWeakFor_31 : decode cX6_tooWeakFor 31 = .ok (.aaload, 1) := by decide +kernel
theorem dX6_tooWeakFor_32 : decode cX6_tooWeakFor 32 = .ok (.getfield 93, 3) := by decide +kernel
theorem dX6_tooWeakFor_35 : decode cX6_tooWeakFor 35 = .ok (.isub, 1) := by decide +kernel
theorem dX6_tooWeakFor_36 : decode cX6_tooWeakFor 36 = .ok (.invokestatic 125, 3) := by decide +kernel
theorem dX6_tooWeakFor_39 : decode cX6_tooWeakFor 39 = .ok (.iload_n 2, 1) := by decide +kernel
theorem dX6_tooWeakFor_40 : decode cX6_tooWeakFor 40 = .ok (.imul, 1) := by decide +kernel
theorem dX6_tooWeakFor_41 : decode cX6_tooWeakFor 41 = .ok (.aload_n 0, 1) := by decide +kernel
theorem dX6_tooWeakFor_42 : decode cX6_tooWeakFor 42 = .ok (.getfield 39, 3) := by decide +kernel
theorem dX6_tooWeakFor_45 : decode cX6_tooWeakFor 45 = .ok (.imul, 1) := by decide +kernel
theorem dX6_tooWeakFor_46 : decode cX6_tooWeakFor 46 = .ok (.istore 5, 2) := by decide +kernel
theorem dX6_tooWeakFor_48 : decode cX6_tooWeakFor 48 = .ok (.iload 5, 2) := by decide +kernel
theorem dX6_tooWeakFor_50 : decode cX6_tooWeakFor 50 = .ok (.aload_n 0, 1) := by decide +kernel
theorem dX6_tooWeakFor_51 : decode cX6_tooWeakFor 51 = .ok (.aload_n 0, 1) := by decide +kernel
theorem dX6_tooWeakFor_52 : decode cX6_tooWeakFor 52 = .ok (.getfield 11, 3) := by decide +kernel
theorem dX6_tooWeakFor_55 : decode cX6_tooWeakFor 55 = .ok (.iload 4, 2) := by decide +kernel
theorem dX6_tooWeakFor_57 : decode cX6_tooWeakFor 57 = .ok (.aaload, 1) := by decide +kernel
theorem dX6_tooWeakFor_58 : decode cX6_tooWeakFor 58 = .ok (.invokevirtual 128, 3) := by decide +kernel
theorem dX6_tooWeakFor_61 : decode cX6_tooWeakFor 61 = .ok (.if_icmp .le 10, 3) := by decide +kernel
theorem dX6_tooWeakFor_64 : decode cX6_tooWeakFor 64 = .ok (.iload_n 3, 1) := by decide +kernel
theorem dX6_tooWeakFor_65 : decode cX6_tooWeakFor 65 = .ok (.iconst 1, 1) := by decide +kernel
theorem dX6_tooWeakFor_66 : decode cX6_tooWeakFor 66 = .ok (.iload 4, 2) := by decide +kernel
theorem dX6_tooWeakFor_68 : decode cX6_tooWeakFor 68 = .ok (.ishl, 1) := by decide +kernel
theorem dX6_tooWeakFor_69 : decode cX6_tooWeakFor 69 = .ok (.ior, 1) := by decide +kernel
theorem dX6_tooWeakFor_70 : decode cX6_tooWeakFor 70 = .ok (.istore_n 3, 1) := by decide +kernel
theorem dX6_tooWeakFor_71 : decode cX6_tooWeakFor 71 = .ok (.iinc 4 1, 3) := by decide +kernel
theorem dX6_tooWeakFor_74 : decode cX6_tooWeakFor 74 = .ok (.goto (-60), 3) := by decide +kernel
theorem dX6_tooWeakFor_77 : decode cX6_tooWeakFor 77 = .ok (.iload_n 3, 1) := by decide +kernel
theorem dX6_tooWeakFor_78 : decode cX6_tooWeakFor 78 = .ok (.ireturn, 1) := by decide +kernel
theorem dX6_feetNeeded_0 : decode cX6_feetNeeded 0 = .ok (.aload_n 0, 1) := by decide +kernel
theorem dX6_feetNeeded_1 : decode cX6_feetNeeded 1 = .ok (.iload_n 1, 1) := by decide +kernel
theorem dX6_feetNeeded_2 : decode cX6_feetNeeded 2 = .ok (.invokevirtual 153, 3) := by decide +kernel
theorem dX6_feetNeeded_5 : decode cX6_feetNeeded 5 = .ok (.ifCond .eq 8, 3) := by decide +kernel
theorem dX6_feetNeeded_8 : decode cX6_feetNeeded 8 = .ok (.iload_n 2, 1) := by decide +kernel
theorem dX6_feetNeeded_9 : decode cX6_feetNeeded 9 = .ok (.iconst 1, 1) := by decide +kernel
theorem dX6_feetNeeded_10 : decode cX6_feetNeeded 10 = .ok (.if_icmp .ge 5, 3) := by decide +kernel
theorem dX6_feetNeeded_13 : decode cX6_feetNeeded 13 = .ok (.iconst (-1), 1) := by decide +kernel
theorem dX6_feetNeeded_14 : decode cX6_feetNeeded 14 = .ok (.ireturn, 1) := by decide +kernel
theorem dX6_feetNeeded_15 : decode cX6_feetNeeded 15 = .ok (.aload_n 0, 1) := by decide +kernel
theorem dX6_feetNeeded_16 : decode cX6_feetNeeded 16 = .ok (.getfield 11, 3) := by decide +kernel
theorem dX6_feetNeeded_19 : decode cX6_feetNeeded 19 = .ok (.iload_n 1, 1) := by decide +kernel
theorem dX6_feetNeeded_20 : decode cX6_feetNeeded 20 = .ok (.aaload, 1) := by decide +kernel
theorem dX6_feetNeeded_21 : decode cX6_feetNeeded 21 = .ok (.getfield 93, 3) := by decide +kernel
theorem dX6_feetNeeded_24 : decode cX6_feetNeeded 24 = .ok (.istore_n 3, 1) := by decide +kernel
theorem dX6_feetNeeded_25 : decode cX6_feetNeeded 25 = .ok (.aload_n 0, 1) := by decide +kernel
theorem dX6_feetNeeded_26 : decode cX6_feetNeeded 26 = .ok (.getfield 57, 3) := by decide +kernel
theorem dX6_feetNeeded_29 : decode cX6_feetNeeded 29 = .ok (.iload_n 3, 1) := by decide +kernel
theorem dX6_feetNeeded_30 : decode cX6_feetNeeded 30 = .ok (.isub, 1) := by decide +kernel
theorem dX6_feetNeeded_31 : decode cX6_feetNeeded 31 = .ok (.aload_n 0, 1) := by decide +kernel
theorem dX6_feetNeeded_32 : decode cX6_feetNeeded 32 = .ok (.getfield 42, 3) := by decide +kernel
theorem dX6_feetNeeded_35 : decode cX6_feetNeeded 35 = .ok (.imul, 1) := by decide +kernel
theorem dX6_feetNeeded_36 : decode cX6_feetNeeded 36 = .ok (.istore 4, 2) := by decide +kernel
theorem dX6_feetNeeded_38 : decode cX6_feetNeeded 38 = .ok (.iload_n 3, 1) := by decide +kernel
theorem dX6_feetNeeded_39 : decode cX6_feetNeeded 39 = .ok (.iload 4, 2) := by decide +kernel
theorem dX6_feetNeeded_41 : decode cX6_feetNeeded 41 = .ok (.iload_n 2, 1) := by decide +kernel
theorem dX6_feetNeeded_42 : decode cX6_feetNeeded 42 = .ok (.iadd, 1) := by decide +kernel
theorem dX6_feetNeeded_43 : decode cX6_feetNeeded 43 = .ok (.iconst 1, 1) := by decide +kernel
theorem dX6_feetNeeded_44 : decode cX6_feetNeeded 44 = .ok (.isub, 1) := by decide +kernel
theorem dX6_feetNeeded_45 : decode cX6_feetNeeded 45 = .ok (.iload_n 2, 1) := by decide +kernel
theorem dX6_feetNeeded_46 : decode cX6_feetNeeded 46 = .ok (.idiv, 1) := by decide +kernel
theorem dX6_feetNeeded_47 : decode cX6_feetNeeded 47 = .ok (.iadd, 1) := by decide +kernel
theorem dX6_feetNeeded_48 : decode cX6_feetNeeded 48 = .ok (.istore 5, 2) := by decide +kernel
theorem dX6_feetNeeded_50 : decode cX6_feetNeeded 50 = .ok (.iload 5, 2) := by decide +kernel
theorem dX6_feetNeeded_52 : decode cX6_feetNeeded 52 = .ok (.aload_n 0, 1) := by decide +kernel
theorem dX6_feetNeeded_53 : decode cX6_feetNeeded 53 = .ok (.getfield 57, 3) := by decide +kernel
theorem dX6_feetNeeded_56 : decode cX6_feetNeeded 56 = .ok (.if_icmp .gt 8, 3) := by decide +kernel
theorem dX6_feetNeeded_59 : decode cX6_feetNeeded 59 = .ok (.iload 5, 2) := by decide +kernel
theorem dX6_feetNeeded_61 : decode cX6_feetNeeded 61 = .ok (.goto 5, 3) := by decide +kernel
theorem dX6_feetNeeded_64 : decode cX6_feetNeeded 64 = .ok (.bipush (-2), 2) := by decide +kernel
theorem dX6_feetNeeded_66 : decode cX6_feetNeeded 66 = .ok (.ireturn, 1) := by decide +kernel
theorem dX6_coinsNeeded_0 : decode cX6_coinsNeeded 0 = .ok (.aload_n 0, 1) := by decide +kernel
theorem dX6_coinsNeeded_1 : decode cX6_coinsNeeded 1 = .ok (.getfield 54, 3) := by decide +kernel
theorem dX6_coinsNeeded_4 : decode cX6_coinsNeeded 4 = .ok (.ifCond .ne 5, 3) := by decide +kernel
theorem dX6_coinsNeeded_7 : decode cX6_coinsNeeded 7 = .ok (.iconst (-1), 1) := by decide +kernel
theorem dX6_coinsNeeded_8 : decode cX6_coinsNeeded 8 = .ok (.ireturn, 1) := by decide +kernel
theorem dX6_coinsNeeded_9 : decode cX6_coinsNeeded 9 = .ok (.iconst 0, 1) := by decide +kernel
theorem dX6_coinsNeeded_10 : decode cX6_coinsNeeded 10 = .ok (.istore_n 1, 1) := by decide +kernel
theorem dX6_coinsNeeded_11 : decode cX6_coinsNeeded 11 = .ok (.iconst 0, 1) := by decide +kernel
theorem dX6_coinsNeeded_12 : decode cX6_coinsNeeded 12 = .ok (.istore_n 2, 1) := by decide +kernel
theorem dX6_coinsNeeded_13 : decode cX6_coinsNeeded 13 = .ok (.iload_n 2, 1) := by decide +kernel
theorem dX6_coinsNeeded_14 : decode cX6_coinsNeeded 14 = .ok (.aload_n 0, 1) := by decide +kernel
theorem dX6_coinsNeeded_15 : decode cX6_coinsNeeded 15 = .ok (.getfield 54, 3) := by decide +kernel
theorem dX6_coinsNeeded_18 : decode cX6_coinsNeeded 18 = .ok (.if_icmp .ge 43, 3) := by decide +kernel
theorem dX6_coinsNeeded_21 : decode cX6_coinsNeeded 21 = .ok (.aload_n 0, 1) := by decide +kernel
theorem dX6_coinsNeeded_22 : decode cX6_coinsNeeded 22 = .ok (.aload_n 0, 1) := by decide +kernel
theorem dX6_coinsNeeded_23 : decode cX6_coinsNeeded 23 = .ok (.getfield 11, 3) := by decide +kernel
theorem dX6_coinsNeeded_26 : decode cX6_coinsNeeded 26 = .ok (.iload_n 2, 1) := by decide +kernel
theorem dX6_coinsNeeded_27 : decode cX6_coinsNeeded 27 = .ok (.aaload, 1) := by decide +kernel
theorem dX6_coinsNeeded_28 : decode cX6_coinsNeeded 28 = .ok (.invokevirtual 161, 3) := by decide +kernel
theorem dX6_coinsNeeded_31 : decode cX6_coinsNeeded 31 = .ok (.istore_n 3, 1) := by decide +kernel
theorem dX6_coinsNeeded_32 : decode cX6_coinsNeeded 32 = .ok (.iload_n 3, 1) := by decide +kernel
theorem dX6_coinsNeeded_33 : decode cX6_coinsNeeded 33 = .ok (.bipush (-2), 2) := by decide +kernel
theorem dX6_coinsNeeded_35 : decode cX6_coinsNeeded 35 = .ok (.if_icmp .ne 6, 3) := by decide +kernel
theorem dX6_coinsNeeded_38 : decode cX6_coinsNeeded 38 = .ok (.bipush (-2), 2) := by decide +kernel
theorem dX6_coinsNeeded_40 : decode cX6_coinsNeeded 40 = .ok (.ireturn, 1) := by decide +kernel
theorem dX6_coinsNeeded_41 : decode cX6_coinsNeeded 41 = .ok (.iload_n 1, 1) := by decide +kernel
theorem dX6_coinsNeeded_42 : decode cX6_coinsNeeded 42 = .ok (.iload_n 3, 1) := by decide +kernel
theorem dX6_coinsNeeded_43 : decode cX6_coinsNeeded 43 = .ok (.aload_n 0, 1) := by decide +kernel
theorem dX6_coinsNeeded_44 : decode cX6_coinsNeeded 44 = .ok (.getfield 11, 3) := by decide +kernel
theorem dX6_coinsNeeded_47 : decode cX6_coinsNeeded 47 = .ok (.iload_n 2, 1) := by decide +kernel
theorem dX6_coinsNeeded_48 : decode cX6_coinsNeeded 48 = .ok (.aaload, 1) := by decide +kernel
theorem dX6_coinsNeeded_49 : decode cX6_coinsNeeded 49 = .ok (.getfield 164, 3) := by decide +kernel
theorem dX6_coinsNeeded_52 : decode cX6_coinsNeeded 52 = .ok (.imul, 1) := by decide +kernel
theorem dX6_coinsNeeded_53 : decode cX6_coinsNeeded 53 = .ok (.iadd, 1) := by decide +kernel
theorem dX6_coinsNeeded_54 : decode cX6_coinsNeeded 54 = .ok (.istore_n 1, 1) := by decide +kernel
theorem dX6_coinsNeeded_55 : decode cX6_coinsNeeded 55 = .ok (.iinc 2 1, 3) := by decide +kernel
theorem dX6_coinsNeeded_58 : decode cX6_coinsNeeded 58 = .ok (.goto (-45), 3) := by decide +kernel
theorem dX6_coinsNeeded_61 : decode cX6_coinsNeeded 61 = .ok (.iload_n 1, 1) := by decide +kernel
theorem dX6_coinsNeeded_62 : decode cX6_coinsNeeded 62 = .ok (.ireturn, 1) := by decide +kernel
theorem dX6_thicknessNeeded_0 : decode cX6_thicknessNeeded 0 = .ok (.aload_n 0, 1) := by decide +kernel
theorem dX6_thicknessNeeded_1 : decode cX6_thicknessNeeded 1 = .ok (.iload_n 1, 1) := by decide +kernel
theorem dX6_thicknessNeeded_2 : decode cX6_thicknessNeeded 2 = .ok (.invokevirtual 153, 3) := by decide +kernel
theorem dX6_thicknessNeeded_5 : decode cX6_thicknessNeeded 5 = .ok (.ifCond .ne 5, 3) := by decide +kernel
theorem dX6_thicknessNeeded_8 : decode cX6_thicknessNeeded 8 = .ok (.iconst (-1), 1) := by decide +kernel
theorem dX6_thicknessNeeded_9 : decode cX6_thicknessNeeded 9 = .ok (.ireturn, 1) := by decide +kernel
theorem dX6_thicknessNeeded_10 : decode cX6_thicknessNeeded 10 = .ok (.aload_n 0, 1) := by decide +kernel
theorem dX6_thicknessNeeded_11 : decode cX6_thicknessNeeded 11 = .ok (.invokevirtual 167, 3) := by decide +kernel
theorem dX6_thicknessNeeded_14 : decode cX6_thicknessNeeded 14 = .ok (.bipush (-2), 2) := by decide +kernel
theorem dX6_thicknessNeeded_16 : decode cX6_thicknessNeeded 16 = .ok (.if_icmp .ne 8, 3) := by decide +kernel
theorem dX6_thicknessNeeded_19 : decode cX6_thicknessNeeded 19 = .ok (.bipush (-2), 2) := by decide +kernel
theorem dX6_thicknessNeeded_21 : decode cX6_thicknessNeeded 21 = .ok (.goto 13, 3) := by decide +kernel
theorem dX6_thicknessNeeded_24 : decode cX6_thicknessNeeded 24 = .ok (.aload_n 0, 1) := by decide +kernel
theorem dX6_thicknessNeeded_25 : decode cX6_thicknessNeeded 25 = .ok (.aload_n 0, 1) := by decide +kernel
theorem dX6_thicknessNeeded_26 : decode cX6_thicknessNeeded 26 = .ok (.getfield 11, 3) := by decide +kernel
theorem dX6_thicknessNeeded_29 : decode cX6_thicknessNeeded 29 = .ok (.iload_n 1, 1) := by decide +kernel
theorem dX6_thicknessNeeded_30 : decode cX6_thicknessNeeded 30 = .ok (.aaload, 1) := by decide +kernel
theorem dX6_thicknessNeeded_31 : decode cX6_thicknessNeeded 31 = .ok (.invokevirtual 161, 3) := by decide +kernel
theorem dX6_thicknessNeeded_34 : decode cX6_thicknessNeeded 34 = .ok (.ireturn, 1) := by decide +kernel
theorem dX6_leastThicker_0 : decode cX6_leastThicker 0 = .ok (.aload_n 0, 1) := by decide +kernel
theorem dX6_leastThicker_1 : decode cX6_leastThicker 1 = .ok (.aload_n 1, 1) := by decide +kernel
theorem dX6_leastThicker_2 : decode cX6_leastThicker 2 = .ok (.invokevirtual 171, 3) := by decide +kernel
theorem dX6_leastThicker_5 : decode cX6_leastThicker 5 = .ok (.istore_n 2, 1) := by decide +kernel
theorem dX6_leastThicker_6 : decode cX6_leastThicker 6 = .ok (.iload_n 2, 1) := by decide +kernel
theorem dX6_leastThicker_7 : decode cX6_leastThicker 7 = .ok (.aload_n 1, 1) := by decide +kernel
theorem dX6_leastThicker_8 : decode cX6_leastThicker 8 = .ok (.getfield 150, 3) := by decide +kernel
theorem dX6_leastThicker_11 : decode cX6_leastThicker 11 = .ok (.if_icmp .gt 15, 3) := by decide +kernel
theorem dX6_leastThicker_14 : decode cX6_leastThicker 14 = .ok (.iload_n 2, 1) := by decide +kernel
theorem dX6_leastThicker_15 : decode cX6_leastThicker 15 = .ok (.aload_n 0, 1) := by decide +kernel
theorem dX6_leastThicker_16 : decode cX6_leastThicker 16 = .ok (.aload_n 1, 1) := by decide +kernel
theorem dX6_leastThicker_17 : decode cX6_leastThicker 17 = .ok (.sipush 999, 3) := by decide +kernel
theorem dX6_leastThicker_20 : decode cX6_leastThicker 20 = .ok (.invokevirtual 146, 3) := by decide +kernel
theorem dX6_leastThicker_23 : decode cX6_leastThicker 23 = .ok (.if_icmp .le 6, 3) := by decide +kernel
theorem dX6_leastThicker_26 : decode cX6_leastThicker 26 = .ok (.bipush (-2), 2) := by decide +kernel
theorem dX6_leastThicker_28 : decode cX6_leastThicker 28 = .ok (.ireturn, 1) := by decide +kernel
theorem dX6_leastThicker_29 : decode cX6_leastThicker 29 = .ok (.aload_n 1, 1) := by decide +kernel
theorem dX6_leastThicker_30 : decode cX6_leastThicker 30 = .ok (.getfield 143, 3) := by decide +kernel
theorem dX6_leastThicker_33 : decode cX6_leastThicker 33 = .ok (.istore_n 3, 1) := by decide +kernel
theorem dX6_leastThicker_34 : decode cX6_leastThicker 34 = .ok (.sipush 999, 3) := by decide +kernel
theorem dX6_leastThicker_37 : decode cX6_leastThicker 37 = .ok (.istore 4, 2) := by decide +kernel
theorem dX6_leastThicker_39 : decode cX6_leastThicker 39 = .ok (.iconst 0, 1) := by decide +kernel
theorem dX6_leastThicker_40 : decode cX6_leastThicker 40 = .ok (.istore 5, 2) := by decide +kernel
theorem dX6_leastThicker_42 : decode cX6_leastThicker 42 = .ok (.iload 5, 2) := by decide +kernel
theorem dX6_leastThicker_44 : decode cX6_leastThicker 44 = .ok (.bipush 10, 2) := by decide +kernel
theorem dX6_leastThicker_46 : decode cX6_leastThicker 46 = .ok (.if_icmp .ge 46, 3) := by decide +kernel
theorem dX6_leastThicker_49 : decode cX6_leastThicker 49 = .ok (.iload_n 3, 1) := by decide +kernel
theorem dX6_leastThicker_50 : decode cX6_leastThicker 50 = .ok (.iload 4, 2) := by decide +kernel
theorem dX6_leastThicker_52 : decode cX6_leastThicker 52 = .ok (.if_icmp .ge 40, 3) := by decide +kernel
theorem dX6_leastThicker_55 : decode cX6_leastThicker 55 = .ok (.iload_n 3, 1) := by decide +kernel
theorem dX6_leastThicker_56 : decode cX6_leastThicker 56 = .ok (.iload 4, 2) := by decide +kernel
theorem dX6_leastThicker_58 : decode cX6_leastThicker 58 = .ok (.iadd, 1) := by decide +kernel
theorem dX6_leastThicker_59 : decode cX6_leastThicker 59 = .ok (.iconst 2, 1) := by decide +kernel
theorem dX6_leastThicker_60 : decode cX6_leastThicker 60 = .ok (.idiv, 1) := by decide +kernel
theorem dX6_leastThicker_61 : decode cX6_leastThicker 61 = .ok (.istore 6, 2) := by decide +kernel
theorem dX6_leastThicker_63 : decode cX6_leastThicker 63 = .ok (.iload_n 2, 1) := by decide +kernel
theorem dX6_leastThicker_64 : decode cX6_leastThicker 64 = .ok (.aload_n 0, 1) := by decide +kernel
theorem dX6_leastThicker_65 : decode cX6_leastThicker 65 = .ok (.aload_n 1, 1) := by decide +kernel
theorem dX6_leastThicker_66 : decode cX6_leastThicker 66 = .ok (.iload 6, 2) := by decide +kernel
theorem dX6_leastThicker_68 : decode cX6_leastThicker 68 = .ok (.invokevirtual 146, 3) := by decide +kernel
theorem dX6_leastThicker_71 : decode cX6_leastThicker 71 = .ok (.if_icmp .le 11, 3) := by decide +kernel
theorem dX6_leastThicker_74 : decode cX6_leastThicker 74 = .ok (.iload 6, 2) := by decide +kernel
theorem dX6_leastThicker_76 : decode cX6_leastThicker 76 = .ok (.iconst 1, 1) := by decide +kernel
theorem dX6_leastThicker_77 : decode cX6_leastThicker 77 = .ok (.iadd, 1) := by decide +kernel
theorem dX6_leastThicker_78 : decode cX6_leastThicker 78 = .ok (.istore_n 3, 1) := by decide +kernel
theorem dX6_leastThicker_79 : decode cX6_leastThicker 79 = .ok (.goto 7, 3) := by decide +kernel
theorem dX6_leastThicker_82 : decode cX6_leastThicker 82 = .ok (.iload 6, 2) := by decide +kernel
theorem dX6_leastThicker_84 : decode cX6_leastThicker 84 = .ok (.istore 4, 2) := by decide +kernel
theorem dX6_leastThicker_86 : decode cX6_leastThicker 86 = .ok (.iinc 5 1, 3) := by decide +kernel
theorem dX6_leastThicker_89 : decode cX6_leastThicker 89 = .ok (.goto (-47), 3) := by decide +kernel
theorem dX6_leastThicker_92 : decode cX6_leastThicker 92 = .ok (.iload_n 3, 1) := by decide +kernel
theorem dX6_leastThicker_93 : decode cX6_leastThicker 93 = .ok (.aload_n 1, 1) := by decide +kernel
theorem dX6_leastThicker_94 : decode cX6_leastThicker 94 = .ok (.getfield 143, 3) := by decide +kernel
theorem dX6_leastThicker_97 : decode cX6_leastThicker 97 = .ok (.isub, 1) := by decide +kernel
theorem dX6_leastThicker_98 : decode cX6_leastThicker 98 = .ok (.ireturn, 1) := by decide +kernel
theorem dX6_tellWords_0 : decode cX6_tellWords 0 = .ok (.aload_n 0, 1) := by decide +kernel
theorem dX6_tellWords_1 : decode cX6_tellWords 1 = .ok (.iload_n 1, 1) := by decide +kernel
theorem dX6_tellWords_2 : decode cX6_tellWords 2 = .ok (.invokevirtual 153, 3) := by decide +kernel
theorem dX6_tellWords_5 : decode cX6_tellWords 5 = .ok (.ifCond .eq 10, 3) := by decide +kernel
theorem dX6_tellWords_8 : decode cX6_tellWords 8 = .ok (.aload_n 2, 1) := by decide +kernel
theorem dX6_tellWords_9 : decode cX6_tellWords 9 = .ok (.arraylength, 1) := by decide +kernel
theorem dX6_tellWords_10 : decode cX6_tellWords 10 = .ok (.bipush 13, 2) := by decide +kernel
theorem dX6_tellWords_12 : decode cX6_tellWords 12 = .ok (.if_icmp .ge 4, 3) := by decide +kernel
theorem dX6_tellWords_15 : decode cX6_tellWords 15 = .ok (.return_, 1) := by decide +kernel
theorem dX6_tellWords_16 : decode cX6_tellWords 16 = .ok (.aload_n 0, 1) := by decide +kernel
theorem dX6_tellWords_17 : decode cX6_tellWords 17 = .ok (.getfield 11, 3) := by decide +kernel
theorem dX6_tellWords_20 : decode cX6_tellWords 20 = .ok (.iload_n 1, 1) := by decide +kernel
theorem dX6_tellWords_21 : decode cX6_tellWords 21 = .ok (.aaload, 1) := by decide +kernel
theorem dX6_tellWords_22 : decode cX6_tellWords 22 = .ok (.astore_n 3, 1) := by decide +kernel
theorem dX6_tellWords_23 : decode cX6_tellWords 23 = .ok (.aload_n 2, 1) := by decide +kernel
theorem dX6_tellWords_24 : decode cX6_tellWords 24 = .ok (.iconst 0, 1) := by decide +kernel
theorem dX6_tellWords_25 : decode cX6_tellWords 25 = .ok (.aload_n 0, 1) := by decide +kernel
theorem dX6_tellWords_26 : decode cX6_tellWords 26 = .ok (.getfield 76, 3) := by decide +kernel
theorem dX6_tellWords_29 : decode cX6_tellWords 29 = .ok (.iastore, 1) := by decide +kernel
theorem dX6_tellWords_30 : decode cX6_tellWords 30 = .ok (.aload_n 2, 1) := by decide +kernel
theorem dX6_tellWords_31 : decode cX6_tellWords 31 = .ok (.iconst 1, 1) := by decide +kernel
theorem dX6_tellWords_32 : decode cX6_tellWords 32 = .ok (.aload_n 0, 1) := by decide +kernel
theorem dX6_tellWords_33 : decode cX6_tellWords 33 = .ok (.getfield 63, 3) := by decide +kernel
theorem dX6_tellWords_36 : decode cX6_tellWords 36 = .ok (.iastore, 1) := by decide +kernel
theorem dX6_tellWords_37 : decode cX6_tellWords 37 = .ok (.aload_n 2, 1) := by decide +kernel
theorem dX6_tellWords_38 : decode cX6_tellWords 38 = .ok (.iconst 2, 1) := by decide +kernel
theorem dX6_tellWords_39 : decode cX6_tellWords 39 = .ok (.aload_n 0, 1) := by decide +kernel
theorem dX6_tellWords_40 : decode cX6_tellWords 40 = .ok (.getfield 66, 3) := by decide +kernel
theorem dX6_tellWords_43 : decode cX6_tellWords 43 = .ok (.iastore, 1) := by decide +kernel
theorem dX6_tellWords_44 : decode cX6_tellWords 44 = .ok (.aload_n 2, 1) := by decide +kernel
theorem dX6_tellWords_45 : decode cX6_tellWords 45 = .ok (.iconst 3, 1) := by decide +kernel
theorem dX6_tellWords_46 : decode cX6_tellWords 46 = .ok (.aload_n 0, 1) := by decide +kernel
theorem dX6_tellWords_47 : decode cX6_tellWords 47 = .ok (.getfield 24, 3) := by decide +kernel
theorem dX6_tellWords_50 : decode cX6_tellWords 50 = .ok (.iastore, 1) := by decide +kernel
theorem dX6_tellWords_51 : decode cX6_tellWords 51 = .ok (.aload_n 2, 1) := by decide +kernel
theorem dX6_tellWords_52 : decode cX6_tellWords 52 = .ok (.iconst 4, 1) := by decide +kernel
theorem dX6_tellWords_53 : decode cX6_tellWords 53 = .ok (.aload_n 0, 1) := by decide +kernel
theorem dX6_tellWords_54 : decode cX6_tellWords 54 = .ok (.getfield 69, 3) := by decide +kernel
theorem dX6_tellWords_57 : decode cX6_tellWords 57 = .ok (.iastore, 1) := by decide +kernel
theorem dX6_tellWords_58 : decode cX6_tellWords 58 = .ok (.aload_n 2, 1) := by decide +kernel
theorem dX6_tellWords_59 : decode cX6_tellWords 59 = .ok (.iconst 5, 1) := by decide +kernel
theorem dX6_tellWords_60 : decode cX6_tellWords 60 = .ok (.aload_n 0, 1) := by decide +kernel
theorem dX6_tellWords_61 : decode cX6_tellWords 61 = .ok (.getfield 60, 3) := by decide +kernel
theorem dX6_tellWords_64 : decode cX6_tellWords 64 = .ok (.iastore, 1) := by decide +kernel
theorem dX6_tellWords_65 : decode cX6_tellWords 65 = .ok (.aload_n 2, 1) := by decide +kernel
theorem dX6_tellWords_66 : decode cX6_tellWords 66 = .ok (.bipush 6, 2) := by decide +kernel
theorem dX6_tellWords_68 : decode cX6_tellWords 68 = .ok (.aload_n 0, 1) := by decide +kernel
theorem dX6_tellWords_69 : decode cX6_tellWords 69 = .ok (.aload_n 3, 1) := by decide +kernel
theorem dX6_tellWords_70 : decode cX6_tellWords 70 = .ok (.invokevirtual 96, 3) := by decide +kernel
theorem dX6_tellWords_73 : decode cX6_tellWords 73 = .ok (.iastore, 1) := by decide +kernel
theorem dX6_tellWords_74 : decode cX6_tellWords 74 = .ok (.aload_n 2, 1) := by decide +kernel
theorem dX6_tellWords_75 : decode cX6_tellWords 75 = .ok (.bipush 7, 2) := by decide +kernel
theorem dX6_tellWords_77 : decode cX6_tellWords 77 = .ok (.aload_n 0, 1) := by decide +kernel
theorem dX6_tellWords_78 : decode cX6_tellWords 78 = .ok (.aload_n 3, 1) := by decide +kernel
theorem dX6_tellWords_79 : decode cX6_tellWords 79 = .ok (.invokevirtual 128, 3) := by decide +kernel
theorem dX6_tellWords_82 : decode cX6_tellWords 82 = .ok (.iastore, 1) := by decide +kernel
theorem dX6_tellWords_83 : decode cX6_tellWords 83 = .ok (.aload_n 2, 1) := by decide +kernel
theorem dX6_tellWords_84 : decode cX6_tellWords 84 = .ok (.bipush 8, 2) := by decide +kernel
theorem dX6_tellWords_86 : decode cX6_tellWords 86 = .ok (.aload_n 0, 1) := by decide +kernel
theorem dX6_tellWords_87 : decode cX6_tellWords 87 = .ok (.aload_n 3, 1) := by decide +kernel
theorem dX6_tellWords_88 : decode cX6_tellWords 88 = .ok (.invokevirtual 137, 3) := by decide +kernel
theorem dX6_tellWords_91 : decode cX6_tellWords 91 = .ok (.iastore, 1) := by decide +kernel
theorem dX6_tellWords_92 : decode cX6_tellWords 92 = .ok (.aload_n 2, 1) := by decide +kernel
theorem dX6_tellWords_93 : decode cX6_tellWords 93 = .ok (.bipush 9, 2) := by decide +kernel
theorem dX6_tellWords_95 : decode cX6_tellWords 95 = .ok (.aload_n 3, 1) := by decide +kernel
theorem dX6_tellWords_96 : decode cX6_tellWords 96 = .ok (.getfield 176, 3) := by decide +kernel
theorem dX6_tellWords_99 : decode cX6_tellWords 99 = .ok (.iastore, 1) := by decide +kernel
theorem dX6_tellWords_100 : decode cX6_tellWords 100 = .ok (.aload_n 2, 1) := by decide +kernel
theorem dX6_tellWords_101 : decode cX6_tellWords 101 = .ok (.bipush 10, 2) := by decide +kernel
theorem dX6_tellWords_103 : decode cX6_tellWords 103 = .ok (.aload_n 3, 1) := by decide +kernel
theorem dX6_tellWords_104 : decode cX6_tellWords 104 = .ok (.getfield 143, 3) := by decide +kernel
theorem dX6_tellWords_107 : decode cX6_tellWords 107 = .ok (.iastore, 1) := by decide +kernel
theorem dX6_tellWords_108 : decode cX6_tellWords 108 = .ok (.aload_n 2, 1) := by decide +kernel
theorem dX6_tellWords_109 : decode cX6_tellWords 109 = .ok (.bipush 11, 2) := by decide +kernel
theorem dX6_tellWords_111 : decode cX6_tellWords 111 = .ok (.iload_n 1, 1) := by decide +kernel
theorem dX6_tellWords_112 : decode cX6_tellWords 112 = .ok (.iastore, 1) := by decide +kernel
theorem dX6_tellWords_113 : decode cX6_tellWords 113 = .ok (.aload_n 2, 1) := by decide +kernel
theorem dX6_tellWords_114 : decode cX6_tellWords 114 = .ok (.bipush 12, 2) := by decide +kernel
theorem dX6_tellWords_116 : decode cX6_tellWords 116 = .ok (.aload_n 0, 1) := by decide +kernel
theorem dX6_tellWords_117 : decode cX6_tellWords 117 = .ok (.invokevirtual 89, 3) := by decide +kernel
theorem dX6_tellWords_120 : decode cX6_tellWords 120 = .ok (.ifCond .eq 7, 3) := by decide +kernel
theorem dX6_tellWords_123 : decode cX6_tellWords 123 = .ok (.iconst 1, 1) := by decide +kernel
theorem dX6_tellWords_124 : decode cX6_tellWords 124 = .ok (.goto 4, 3) := by decide +kernel
theorem dX6_tellWords_127 : decode cX6_tellWords 127 = .ok (.iconst 0, 1) := by decide +kernel
theorem dX6_tellWords_128 : decode cX6_tellWords 128 = .ok (.iastore, 1) := by decide +kernel
theorem dX6_tellWords_129 : decode cX6_tellWords 129 = .ok (.return_, 1) := by decide +kernel
theorem dX7_init_0 : decode cX7_init 0 = .ok (.aload_n 0, 1) := by decide +kernel
theorem dX7_init_1 : decode cX7_init 1 = .ok (.invokespecial 3, 3) := by decide +kernel
theorem dX7_init_4 : decode cX7_init 4 = .ok (.aload_n 0, 1) := by decide +kernel
theorem dX7_init_5 : decode cX7_init 5 = .ok (.sipush 400, 3) := by decide +kernel
theorem dX7_init_8 : decode cX7_init 8 = .ok (.newarray .int, 2) := by decide +kernel
theorem dX7_init_10 : decode cX7_init 10 = .ok (.putfield 11, 3) := by decide +kernel
theorem dX7_init_13 : decode cX7_init 13 = .ok (.aload_n 0, 1) := by decide +kernel
theorem dX7_init_14 : decode cX7_init 14 = .ok (.sipush 401, 3) := by decide +kernel
theorem dX7_init_17 : decode cX7_init 17 = .ok (.newarray .int, 2) := by decide +kernel
theorem dX7_init_19 : decode cX7_init 19 = .ok (.putfield 15, 3) := by decide +kernel
theorem dX7_init_22 : decode cX7_init 22 = .ok (.aload_n 0, 1) := by decide +kernel
theorem dX7_init_23 : decode cX7_init 23 = .ok (.sipush 401, 3) := by decide +kernel
theorem dX7_init_26 : decode cX7_init 26 = .ok (.newarray .int, 2) := by decide +kernel
theorem dX7_init_28 : decode cX7_init 28 = .ok (.putfield 18, 3) := by decide +kernel
theorem dX7_init_31 : decode cX7_init 31 = .ok (.aload_n 0, 1) := by decide +kernel
theorem dX7_init_32 : decode cX7_init 32 = .ok (.sipush 401, 3) := by decide +kernel
theorem dX7_init_35 : decode cX7_init 35 = .ok (.newarray .int, 2) := by decide +kernel
theorem dX7_init_37 : decode cX7_init 37 = .ok (.putfield 21, 3) := by decide +kernel
theorem dX7_init_40 : decode cX7_init 40 = .ok (.return_, 1) := by decide +kernel
theorem dX7_hasRoom_0 : decode cX7_hasRoom 0 = .ok (.aload_n 0, 1) := by decide +kernel
theorem dX7_hasRoom_1 : decode cX7_hasRoom 1 = .ok (.getfield 24, 3) := by decide +kernel
theorem dX7_hasRoom_4 : decode cX7_hasRoom 4 = .ok (.bipush 20, 2) := by decide +kernel
theorem dX7_hasRoom_6 : decode cX7_hasRoom 6 = .ok (.iadd, 1) := by decide +kernel
theorem dX7_hasRoom_7 : decode cX7_hasRoom 7 = .ok (.sipush 400, 3) := by decide +kernel
theorem dX7_hasRoom_10 : decode cX7_hasRoom 10 = .ok (.if_icmp .gt 7, 3) := by decide +kernel
theorem dX7_hasRoom_13 : decode cX7_hasRoom 13 = .ok (.iconst 1, 1) := by decide +kernel
theorem dX7_hasRoom_14 : decode cX7_hasRoom 14 = .ok (.goto 4, 3) := by decide +kernel
theorem dX7_hasRoom_17 : decode cX7_hasRoom 17 = .ok (.iconst 0, 1) := by decide +kernel
theorem dX7_hasRoom_18 : decode cX7_hasRoom 18 = .ok (.ireturn, 1) := by decide +kernel
theorem dX7_take_0 : decode cX7_take 0 = .ok (.bipush 24, 2) := by decide +kernel
theorem dX7_take_2 : decode cX7_take 2 = .ok (.istore_n 2, 1) := by decide +kernel
theorem dX7_take_3 : decode cX7_take 3 = .ok (.iload_n 2, 1) := by decide +kernel
theorem dX7_take_4 : decode cX7_take 4 = .ok (.ifCond .lt 45, 3) := by decide +kernel
theorem dX7_take_7 : decode cX7_take 7 = .ok (.aload_n 0, 1) := by decide +kernel
theorem dX7_take_8 : decode cX7_take 8 = .ok (.getfield 24, 3) := by decide +kernel
theorem dX7_take_11 : decode cX7_take 11 = .ok (.sipush 400, 3) := by decide +kernel
theorem dX7_take_14 : decode cX7_take 14 = .ok (.if_icmp .ge 35, 3) := by decide +kernel
theorem dX7_take_17 : decode cX7_take 17 = .ok (.aload_n 0, 1) := by decide +kernel
theorem dX7_take_18 : decode cX7_take 18 = .ok (.getfield 11, 3) := by decide +kernel
theorem dX7_take_21 : decode cX7_take 21 = .ok (.aload_n 0, 1) := by decide +kernel
theorem dX7_take_22 : decode cX7_take 22 = .ok (.getfield 24, 3) := by decide +kernel
theorem dX7_take_25 : decode cX7_take 25 = .ok (.iload_n 1, 1) := by decide +kernel
theorem dX7_take_26 : decode cX7_take 26 = .ok (.iload_n 2, 1) := by decide +kernel
theorem dX7_take_27 : decode cX7_take 27 = .ok (.ishr, 1) := by decide +kernel
theorem dX7_take_28 : decode cX7_take 28 = .ok (.sipush 255, 3) := by decide +kernel
theorem dX7_take_31 : decode cX7_take 31 = .ok (.iand, 1) := by decide +kernel
theorem dX7_take_32 : decode cX7_take 32 = .ok (.iastore, 1) := by decide +kernel
theorem dX7_take_33 : decode cX7_take 33 = .ok (.aload_n 0, 1) := by decide +kernel
theorem dX7_take_34 : decode cX7_take 34 = .ok (.dup, 1) := by decide +kernel
theorem dX7_take_35 : decode cX7_take 35 = .ok (.getfield 24, 3) := by decide +kernel
theorem dX7_take_38 : decode cX7_take 38 = .ok (.iconst 1, 1) := by decide +kernel
theorem dX7_take_39 : decode cX7_take 39 = .ok (.iadd, 1) := by decide +kernel
theorem dX7_take_40 : decode cX7_take 40 = .ok (.putfield 24, 3) := by decide +kernel
theorem dX7_take_43 : decode cX7_take 43 = .ok (.iinc 2 (-8), 3) := by decide +kernel
theorem dX7_take_46 : decode cX7_take 46 = .ok (.goto (-43), 3) := by decide +kernel
theorem dX7_take_49 : decode cX7_take 49 = .ok (.return_, 1) := by decide +kernel
theorem dX7_cut_0 : decode cX7_cut 0 = .ok (.iload_n 1, 1) := by decide +kernel
theorem dX7_cut_1 : decode cX7_cut 1 = .ok (.ifCond .lt 11, 3) := by decide +kernel
theorem dX7_cut_4 : decode cX7_cut 4 = .ok (.iload_n 1, 1) := by decide +kernel
theorem dX7_cut_5 : decode cX7_cut 5 = .ok (.aload_n 0, 1) := by decide +kernel
theorem dX7_cut_6 : decode cX7_cut 6 = .ok (.getfield 24, 3) := by decide +kernel
theorem dX7_cut_9 : decode cX7_cut 9 = .ok (.if_icmp .le 5, 3) := by decide +kernel
theorem dX7_cut_12 : decode cX7_cut 12 = .ok (.iconst 0, 1) := by decide +kernel
theorem dX7_cut_13 : decode cX7_cut 13 = .ok (.ireturn, 1) := by decide +kernel
theorem dX7_cut_14 : decode cX7_cut 14 = .ok (.aload_n 0, 1) := by decide +kernel
theorem dX7_cut_15 : decode cX7_cut 15 = .ok (.iload_n 1, 1) := by decide +kernel
theorem dX7_cut_16 : decode cX7_cut 16 = .ok (.putfield 24, 3) := by decide +kernel
theorem dX7_cut_19 : decode cX7_cut 19 = .ok (.iconst 1, 1) := by decide +kernel
theorem dX7_cut_20 : decode cX7_cut 20 = .ok (.ireturn, 1) := by decide +kernel
theorem dX7_scan_0 : decode cX7_scan 0 = .ok (.aload_n 0, 1) := by decide +kernel
theorem dX7_scan_1 : decode cX7_scan 1 = .ok (.iconst 0, 1) := by decide +kernel
theorem dX7_scan_2 : decode cX7_scan 2 = .ok (.putfield 28, 3) := by decide +kernel
theorem dX7_scan_5 : decode cX7_scan 5 = .ok (.iconst 0, 1) := by decide +kernel
theorem dX7_scan_6 : decode cX7_scan 6 = .ok (.istore_n 1, 1) := by decide +kernel
theorem dX7_scan_7 : decode cX7_scan 7 = .ok (.iconst 0, 1) := by decide +kernel
theorem dX7_scan_8 : decode cX7_scan 8 = .ok (.istore_n 2, 1) := by decide +kernel
theorem dX7_scan_9 : decode cX7_scan 9 = .ok (.iload_n 2, 1) := by decide +kernel
theorem dX7_scan_10 : decode cX7_scan 10 = .ok (.aload_n 0, 1) := by decide +kernel
theorem dX7_scan_11 : decode cX7_scan 11 = .ok (.getfield 24, 3) := by decide +kernel
theorem dX7_scan_14 : decode cX7_scan 14 = .ok (.if_icmp .ge 31, 3) := by decide +kernel
theorem dX7_scan_17 : decode cX7_scan 17 = .ok (.iload_n 2, 1) := by decide +kernel
theorem dX7_scan_18 : decode cX7_scan 18 = .ok (.iload_n 1, 1) := by decide +kernel
theorem dX7_scan_19 : decode cX7_scan 19 = .ok (.if_icmp .lt 20, 3) := by decide +kernel
theorem dX7_scan_22 : decode cX7_scan 22 = .ok (.aload_n 0, 1) := by decide +kernel
theorem dX7_scan_23 : decode cX7_scan 23 = .ok (.getfield 11, 3) := by decide +kernel
theorem dX7_scan_26 : decode cX7_scan 26 = .ok (.iload_n 2, 1) := by decide +kernel
theorem dX7_scan_27 : decode cX7_scan 27 = .ok (.iaload, 1) := by decide +kernel
theorem dX7_scan_28 : decode cX7_scan 28 = .ok (.bipush 32, 2) := by decide +kernel
theorem dX7_scan_30 : decode cX7_scan 30 = .ok (.if_icmp .eq 9, 3) := by decide +kernel
theorem dX7_scan_33 : decode cX7_scan 33 = .ok (.aload_n 0, 1) := by decide +kernel
theorem dX7_scan_34 : decode cX7_scan 34 = .ok (.iload_n 2, 1) := by decide +kernel
theorem dX7_scan_35 : decode cX7_scan 35 = .ok (.invokevirtual 31, 3) := by decide +kernel
theorem dX7_scan_38 : decode cX7_scan 38 = .ok (.istore_n 1, 1) := by decide +kernel
theorem dX7_scan_39 : decode cX7_scan 39 = .ok (.iinc 2 1, 3) := by decide +kernel
theorem dX7_scan_42 : decode cX7_scan 42 = .ok (.goto (-33), 3) := by decide +kernel
theorem dX7_scan_45 : decode cX7_scan 45 = .ok (.aload_n 0, 1) := by decide +kernel
theorem dX7_scan_46 : decode cX7_scan 46 = .ok (.iconst 0, 1) := by decide +kernel
theorem dX7_scan_47 : decode cX7_scan 47 = .ok (.aload_n 0, 1) := by decide +kernel
theorem dX7_scan_48 : decode cX7_scan 48 = .ok (.getfield 24, 3) := by decide +kernel
theorem dX7_scan_51 : decode cX7_scan 51 = .ok (.iconst 0, 1) := by decide +kernel
theorem dX7_scan_52 : decode cX7_scan 52 = .ok (.invokevirtual 35, 3) := by decide +kernel
theorem dX7_scan_55 : decode cX7_scan 55 = .ok (.aload_n 0, 1) := by decide +kernel
theorem dX7_scan_56 : decode cX7_scan 56 = .ok (.iconst 0, 1) := by decide +kernel
theorem dX7_scan_57 : decode cX7_scan 57 = .ok (.putfield 24, 3) := by decide +kernel
theorem dX7_scan_60 : decode cX7_scan 60 = .ok (.return_, 1) := by decide +kernel
theorem dX7_scanToken_0 : decode cX7_scanToken 0 = .ok (.aload_n 0, 1) := by decide +kernel
theorem dX7_scanToken_1 : decode cX7_scanToken 1 = .ok (.getfield 11, 3) := by decide +kernel
theorem dX7_scanToken_4 : decode cX7_scanToken 4 = .ok (.iload_n 1, 1) := by decide +kernel
theorem dX7_scanToken_5 : decode cX7_scanToken 5 = .ok (.iaload, 1) := by decide +kernel
theorem dX7_scanToken_6 : decode cX7_scanToken 6 = .ok (.istore_n 2, 1) := by decide +kernel
theorem dX7_scanToken_7 : decode cX7_scanToken 7 = .ok (.iload_n 2, 1) := by decide +kernel
theorem dX7_scanToken_8 : decode cX7_scanToken 8 = .ok (.invokestatic 39, 3) := by decide +kernel
theorem dX7_scanToken_11 : decode cX7_scanToken 11 = .ok (.ifCond .eq 9, 3) := by decide +kernel
theorem dX7_scanToken_14 : decode cX7_scanToken 14 = .ok (.aload_n 0, 1) := by decide +kernel
theorem dX7_scanToken_15 : decode cX7_scanToken 15 = .ok (.iload_n 1, 1) := by decide +kernel
theorem dX7_scanToken_16 : decode cX7_scanToken 16 = .ok (.invokevirtual 43, 3) := by decide +kernel
theorem dX7_scanToken_19 : decode cX7_scanToken 19 = .ok (.ireturn, 1) := by decide +kernel
theorem dX7_scanToken_20 : decode cX7_scanToken 20 = .ok (.iload_n 2, 1) := by decide +kernel
theorem dX7_scanToken_21 : decode cX7_scanToken 21 = .ok (.invokestatic 46, 3) := by decide +kernel
theorem dX7_scanToken_24 : decode cX7_scanToken 24 = .ok (.ifCond .eq 9, 3) := by decide +kernel
theorem dX7_scanToken_27 : decode cX7_scanToken 27 = .ok (.aload_n 0, 1) := by decide +kernel
theorem dX7_scanToken_28 : decode cX7_scanToken 28 = .ok (.iload_n 1, 1) := by decide +kernel
theorem dX7_scanToken_29 : decode cX7_scanToken 29 = .ok (.invokevirtual 49, 3) := by decide +kernel
theorem dX7_scanToken_32 : decode cX7_scanToken 32 = .ok (.ireturn, 1) := by decide +kernel
theorem dX7_scanToken_33 : decode cX7_scanToken 33 = .ok (.iload_n 1, 1) := by decide +kernel
theorem dX7_scanToken_34 : decode cX7_scanToken 34 = .ok (.iconst 1, 1) := by decide +kernel
theorem dX7_scanToken_35 : decode cX7_scanToken 35 = .ok (.iadd, 1) := by decide +kernel
theorem dX7_scanToken_36 : decode cX7_scanToken 36 = .ok (.aload_n 0, 1) := by decide +kernel
theorem dX7_scanToken_37 : decode cX7_scanToken 37 = .ok (.getfield 24, 3) := by decide +kernel
theorem dX7_scanToken_40 : decode cX7_scanToken 40 = .ok (.if_icmp .ge 20, 3) := by decide +kernel
theorem dX7_scanToken_43 : decode cX7_scanToken 43 = .ok (.aload_n 0, 1) := by decide +kernel
theorem dX7_scanToken_44 : decode cX7_scanToken 44 = .ok (.getfield 11, 3) := by decide +kernel
theorem dX7_scanToken_47 : decode cX7_scanToken 47 = .ok (.iload_n 1, 1) := by decide +kernel
theorem dX7_scanToken_48 : decode cX7_scanToken 48 = .ok (.iconst 1, 1) := by decide +kernel
theorem dX7_scanToken_49 : decode cX7_scanToken 49 = .ok (.iadd, 1) := by decide +kernel
theorem dX7_scanToken_50 : decode cX7_scanToken 50 = .ok (.iaload, 1) := by decide +kernel
theorem dX7_scanToken_51 : decode cX7_scanToken 51 = .ok (.bipush 61, 2) := by decide +kernel
theorem dX7_scanToken_53 : decode cX7_scanToken 53 = .ok (.if_icmp .ne 7, 3) := by decide +kernel
theorem dX7_scanToken_56 : decode cX7_scanToken 56 = .ok (.iconst 1, 1) := by decide +kernel
theorem dX7_scanToken_57 : decode cX7_scanToken 57 = .ok (.goto 4, 3) := by decide +kernel
theorem dX7_scanToken_60 : decode cX7_scanToken 60 = .ok (.iconst 0, 1) := by decide +kernel
theorem dX7_scanToken_61 : decode cX7_scanToken 61 = .ok (.istore_n 3, 1) := by decide +kernel
theorem dX7_scanToken_62 : decode cX7_scanToken 62 = .ok (.iload_n 3, 1) := by decide +kernel
theorem dX7_scanToken_63 : decode cX7_scanToken 63 = .ok (.ifCond .eq 38, 3) := by decide +kernel
theorem dX7_scanToken_66 : decode cX7_scanToken 66 = .ok (.iload_n 2, 1) := by decide +kernel
theorem dX7_scanToken_67 : decode cX7_scanToken 67 = .ok (.bipush 60, 2) := by decide +kernel
theorem dX7_scanToken_69 : decode cX7_scanToken 69 = .ok (.if_icmp .eq 9, 3) := by decide +kernel
theorem dX7_scanToken_72 : decode cX7_scanToken 72 = .ok (.iload_n 2, 1) := by decide +kernel
theorem dX7_scanToken_73 : decode cX7_scanToken 73 = .ok (.bipush 62, 2) := by decide +kernel
theorem dX7_scanToken_75 : decode cX7_scanToken 75 = .ok (.if_icmp .ne 26, 3) := by decide +kernel
theorem dX7_scanToken_78 : decode cX7_scanToken 78 = .ok (.aload_n 0, 1) := by decide +kernel
theorem dX7_scanToken_79 : decode cX7_scanToken 79 = .ok (.iload_n 2, 1) := by decide +kernel
theorem dX7_scanToken_80 : decode cX7_scanToken 80 = .ok (.bipush 60, 2) := by decide +kernel
theorem dX7_scanToken_82 : decode cX7_scanToken 82 = .ok (.if_icmp .ne 8, 3) := by decide +kernel
theorem dX7_scanToken_85 : decode cX7_scanToken 85 = .ok (.bipush 10, 2) := by decide +kernel
theorem dX7_scanToken_87 : decode cX7_scanToken 87 = .ok (.goto 5, 3) := by decide +kernel
theorem dX7_scanToken_90 : decode cX7_scanToken 90 = .ok (.bipush 12, 2) := by decide +kernel
theorem dX7_scanToken_92 : decode cX7_scanToken 92 = .ok (.iload_n 1, 1) := by decide +kernel
theorem dX7_scanToken_93 : decode cX7_scanToken 93 = .ok (.iconst 0, 1) := by decide +kernel
theorem dX7_scanToken_94 : decode cX7_scanToken 94 = .ok (.invokevirtual 35, 3) := by decide +kernel
theorem dX7_scanToken_97 : decode cX7_scanToken 97 = .ok (.iload_n 1, 1) := by decide +kernel
theorem dX7_scanToken_98 : decode cX7_scanToken 98 = .ok (.iconst 2, 1) := by decide +kernel
theorem dX7_scanToken_99 : decode cX7_scanToken 99 = .ok (.iadd, 1) := by decide +kernel
theorem dX7_scanToken_100 : decode cX7_scanToken 100 = .ok (.ireturn, 1) := by decide +kernel
theorem dX7_scanToken_101 : decode cX7_scanToken 101 = .ok (.aload_n 0, 1) := by decide +kernel
theorem dX7_scanToken_102 : decode cX7_scanToken 102 = .ok (.iload_n 2, 1) := by decide +kernel
theorem dX7_scanToken_103 : decode cX7_scanToken 103 = .ok (.invokestatic 52, 3) := by decide +kernel
theorem dX7_scanToken_106 : decode cX7_scanToken 106 = .ok (.iload_n 1, 1) := by decide +kernel
theorem dX7_scanToken_107 : decode cX7_scanToken 107 = .ok (.iload_n 2, 1) := by decide +kernel
theorem dX7_scanToken_108 : decode cX7_scanToken 108 = .ok (.bipush 65, 2) := by decide +kernel
theorem dX7_scanToken_110 : decode cX7_scanToken 110 = .ok (.isub, 1) := by decide +kernel
theorem dX7_scanToken_111 : decode cX7_scanToken 111 = .ok (.invokevirtual 35, 3) := by decide +kernel
theorem dX7_scanToken_114 : decode cX7_scanToken 114 = .ok (.iload_n 1, 1) := by decide +kernel
theorem dX7_scanToken_115 : decode cX7_scanToken 115 = .ok (.iconst 1, 1) := by decide +kernel
theorem dX7_scanToken_116 : decode cX7_scanToken 116 = .ok (.iadd, 1) := by decide +kernel
theorem dX7_scanToken_117 : decode cX7_scanToken 117 = .ok (.ireturn, 1) := by decide +kernel
theorem dX7_scanNumber_0 : decode cX7_scanNumber 0 = .ok (.iconst 0, 1) := by decide +kernel
theorem dX7_scanNumber_1 : decode cX7_scanNumber 1 = .ok (.istore_n 2, 1) := by decide +kernel
theorem dX7_scanNumber_2 : decode cX7_scanNumber 2 = .ok (.iload_n 1, 1) := by decide +kernel
theorem dX7_scanNumber_3 : decode cX7_scanNumber 3 = .ok (.istore_n 3, 1) := by decide +kernel
theorem dX7_scanNumber_4 : decode cX7_scanNumber 4 = .ok (.iload_n 3, 1) := by decide +kernel
theorem dX7_scanNumber_5 : decode cX7_scanNumber 5 = .ok (.aload_n 0, 1) := by decide +kernel
theorem dX7_scanNumber_6 : decode cX7_scanNumber 6 = .ok (.getfield 24, 3) := by decide +kernel
theorem dX7_scanNumber_9 : decode cX7_scanNumber 9 = .ok (.if_icmp .ge 43, 3) := by decide +kernel
theorem dX7_scanNumber_12 : decode cX7_scanNumber 12 = .ok (.aload_n 0, 1) := by decide +kernel
theorem dX7_scanNumber_13 : decode cX7_scanNumber 13 = .ok (.getfield 11, 3) := by decide +kernel
theorem dX7_scanNumber_16 : decode cX7_scanNumber 16 = .ok (.iload_n 3, 1) := by decide +kernel
theorem dX7_scanNumber_17 : decode cX7_scanNumber 17 = .ok (.iaload, 1) := by decide +kernel
theorem dX7_scanNumber_18 : decode cX7_scanNumber 18 = .ok (.invokestatic 39, 3) := by decide +kernel
theorem dX7_scanNumber_21 : decode cX7_scanNumber 21 = .ok (.ifCond .eq 31, 3) := by decide +kernel
theorem dX7_scanNumber_24 : decode cX7_scanNumber 24 = .ok (.iload_n 3, 1) := by decide +kernel
theorem dX7_scanNumber_25 : decode cX7_scanNumber 25 = .ok (.iload_n 1, 1) := by decide +kernel
theorem dX7_scanNumber_26 : decode cX7_scanNumber 26 = .ok (.isub, 1) := by decide +kernel
theorem dX7_scanNumber_27 : decode cX7_scanNumber 27 = .ok (.iconst 5, 1) := by decide +kernel
theorem dX7_scanNumber_28 : decode cX7_scanNumber 28 = .ok (.if_icmp .ge 18, 3) := by decide +kernel
theorem dX7_scanNumber_31 : decode cX7_scanNumber 31 = .ok (.iload_n 2, 1) := by decide +kernel
theorem dX7_scanNumber_32 : decode cX7_scanNumber 32 = .ok (.bipush 10, 2) := by decide +kernel
theorem dX7_scanNumber_34 : decode cX7_scanNumber 34 = .ok (.imul, 1) := by decide +kernel
theorem dX7_scanNumber_35 : decode cX7_scanNumber 35 = .ok (.aload_n 0, 1) := by decide +kernel
theorem dX7_scanNumber_36 : decode cX7_scanNumber 36 = .ok (.getfield 11, 3) := by decide +kernel
theorem dX7_scanNumber_39 : decode cX7_scanNumber 39 = .ok (.iload_n 3, 1) := by decide +kernel
theorem dX7_scanNumber_40 : decode cX7_scanNumber 40 = .ok (.iaload, 1) := by decide +kernel
theorem dX7_scanNumber_41 : decode cX7_scanNumber 41 = .ok (.iadd, 1) := by decide +kernel
theorem dX7_scanNumber_42 : decode cX7_scanNumber 42 = .ok (.bipush 48, 2) := by decide +kernel
theorem dX7_scanNumber_44 : decode cX7_scanNumber 44 = .ok (.isub, 1) := by decide +kernel
theorem dX7_scanNumber_45 : decode cX7_scanNumber 45 = .ok (.istore_n 2, 1) := by decide +kernel
theorem dX7_scanNumber_46 : decode cX7_scanNumber 46 = .ok (.iinc 3 1, 3) := by decide +kernel
theorem dX7_scanNumber_49 : decode cX7_scanNumber 49 = .ok (.goto (-45), 3) := by decide +kernel
theorem dX7_scanNumber_52 : decode cX7_scanNumber 52 = .ok (.aload_n 0, 1) := by decide +kernel
theorem dX7_scanNumber_53 : decode cX7_scanNumber 53 = .ok (.iconst 2, 1) := by decide +kernel
theorem dX7_scanNumber_54 : decode cX7_scanNumber 54 = .ok (.iload_n 1, 1) := by decide +kernel
theorem dX7_scanNumber_55 : decode cX7_scanNumber 55 = .ok (.iload_n 3, 1) := by decide +kernel
theorem dX7_scanNumber_56 : decode cX7_scanNumber 56 = .ok (.iload_n 1, 1) := by decide +kernel
theorem dX7_scanNumber_57 : decode cX7_scanNumber 57 = .ok (.isub, 1) := by decide +kernel
theorem dX7_scanNumber_58 : decode cX7_scanNumber 58 = .ok (.iconst 5, 1) := by decide +kernel
theorem dX7_scanNumber_59 : decode cX7_scanNumber 59 = .ok (.if_icmp .le 7, 3) := by decide +kernel
theorem dX7_scanNumber_62 : decode cX7_scanNumber 62 = .ok (.iconst (-1), 1) := by decide +kernel
theorem dX7_scanNumber_63 : decode cX7_scanNumber 63 = .ok (.goto 4, 3) := by decide +kernel
theorem dX7_scanNumber_66 : decode cX7_scanNumber 66 = .ok (.iload_n 2, 1) := by decide +kernel
theorem dX7_scanNumber_67 : decode cX7_scanNumber 67 = .ok (.invokevirtual 35, 3) := by decide +kernel
theorem dX7_scanNumber_70 : decode cX7_scanNumber 70 = .ok (.iload_n 3, 1) := by decide +kernel
theorem dX7_scanNumber_71 : decode cX7_scanNumber 71 = .ok (.ireturn, 1) := by decide +kernel
theorem dX7_scanWord_0 : decode cX7_scanWord 0 = .ok (.iload_n 1, 1) := by decide +kernel
theorem dX7_scanWord_1 : decode cX7_scanWord 1 = .ok (.istore_n 2, 1) := by decide +kernel
theorem dX7_scanWord_2 : decode cX7_scanWord 2 = .ok (.iload_n 2, 1) := by decide +kernel
theorem dX7_scanWord_3 : decode cX7_scanWord 3 = .ok (.aload_n 0, 1) := by decide +kernel
theorem dX7_scanWord_4 : decode cX7_scanWord 4 = .ok (.getfield 24, 3) := by decide +kernel
theorem dX7_scanWord_7 : decode cX7_scanWord 7 = .ok (.if_icmp .ge 21, 3) := by decide +kernel
theorem dX7_scanWord_10 : decode cX7_scanWord 10 = .ok (.aload_n 0, 1) := by decide +kernel
theorem dX7_scanWord_11 : decode cX7_scanWord 11 = .ok (.getfield 11, 3) := by decide +kernel
theorem dX7_scanWord_14 : decode cX7_scanWord 14 = .ok (.iload_n 2, 1) := by decide +kernel
theorem dX7_scanWord_15 : decode cX7_scanWord 15 = .ok (.iaload, 1) := by decide +kernel
theorem dX7_scanWord_16 : decode cX7_scanWord 16 = .ok (.invokestatic 46, 3) := by decide +kernel
theorem dX7_scanWord_19 : decode cX7_scanWord 19 = .ok (.ifCond .eq 9, 3) := by decide +kernel
theorem dX7_scanWord_22 : decode cX7_scanWord 22 = .ok (.iinc 2 1, 3) := by decide +kernel
theorem dX7_scanWord_25 : decode cX7_scanWord 25 = .ok (.goto (-23), 3) := by decide +kernel
theorem dX7_scanWord_28 : decode cX7_scanWord 28 = .ok (.iconst 1, 1) := by decide +kernel
theorem dX7_scanWord_29 : decode cX7_scanWord 29 = .ok (.istore_n 3, 1) := by decide +kernel
theorem dX7_scanWord_30 : decode cX7_scanWord 30 = .ok (.bipush 14, 2) := by decide +kernel
theorem dX7_scanWord_32 : decode cX7_scanWord 32 = .ok (.istore 4, 2) := by decide +kernel
theorem dX7_scanWord_34 : decode cX7_scanWord 34 = .ok (.iload 4, 2) := by decide +kernel
theorem dX7_scanWord_36 : decode cX7_scanWord 36 = .ok (.bipush 36, 2) := by decide +kernel
theorem dX7_scanWord_38 : decode cX7_scanWord 38 = .ok (.if_icmp .ge 26, 3) := by decide +kernel
theorem dX7_scanWord_41 : decode cX7_scanWord 41 = .ok (.aload_n 0, 1) := by decide +kernel
theorem dX7_scanWord_42 : decode cX7_scanWord 42 = .ok (.iload_n 1, 1) := by decide +kernel
theorem dX7_scanWord_43 : decode cX7_scanWord 43 = .ok (.iload_n 2, 1) := by decide +kernel
theorem dX7_scanWord_44 : decode cX7_scanWord 44 = .ok (.iload 4, 2) := by decide +kernel
theorem dX7_scanWord_46 : decode cX7_scanWord 46 = .ok (.invokestatic 55, 3) := by decide +kernel
theorem dX7_scanWord_49 : decode cX7_scanWord 49 = .ok (.invokevirtual 59, 3) := by decide +kernel
theorem dX7_scanWord_52 : decode cX7_scanWord 52 = .ok (.ifCond .eq 6, 3) := by decide +kernel
theorem dX7_scanWord_55 : decode cX7_scanWord 55 = .ok (.iload 4, 2) := by decide +kernel
theorem dX7_scanWord_57 : decode cX7_scanWord 57 = .ok (.istore_n 3, 1) := by decide +kernel
theorem dX7_scanWord_58 : decode cX7_scanWord 58 = .ok (.iinc 4 1, 3) := by decide +kernel
theorem dX7_scanWord_61 : decode cX7_scanWord 61 = .ok (.goto (-27), 3) := by decide +kernel
theorem dX7_scanWord_64 : decode cX7_scanWord 64 = .ok (.aload_n 0, 1) := by decide +kernel
theorem dX7_scanWord_65 : decode cX7_scanWord 65 = .ok (.iload_n 3, 1) := by decide +kernel
theorem dX7_scanWord_66 : decode cX7_scanWord 66 = .ok (.iload_n 1, 1) := by decide +kernel
theorem dX7_scanWord_67 : decode cX7_scanWord 67 = .ok (.iconst 0, 1) := by decide +kernel
theorem dX7_scanWord_68 : decode cX7_scanWord 68 = .ok (.invokevirtual 35, 3) := by decide +kernel
theorem dX7_scanWord_71 : decode cX7_scanWord 71 = .ok (.iload_n 2, 1) := by decide +kernel
theorem dX7_scanWord_72 : decode cX7_scanWord 72 = .ok (.ireturn, 1) := by decide +kernel
theorem dX7_spells_0 : decode cX7_spells 0 = .ok (.iload_n 2, 1) := by decide +kernel
theorem dX7_spells_1 : decode cX7_spells 1 = .ok (.iload_n 1, 1) := by decide +kernel
theorem dX7_spells_2 : decode cX7_spells 2 = .ok (.isub, 1) := by decide +kernel
theorem dX7_spells_3 : decode cX7_spells 3 = .ok (.aload_n 3, 1) := by decide +kernel
theorem dX7_spells_4 : decode cX7_spells 4 = .ok (.invokevirtual 63, 3) := by decide +kernel
theorem dX7_spells_7 : decode cX7_spells 7 = .ok (.if_icmp .eq 5, 3) := by decide +kernel
theorem dX7_spells_10 : decode cX7_spells 10 = .ok (.iconst 0, 1) := by decide +kernel
theorem dX7_spells_11 : decode cX7_spells 11 = .ok (.ireturn, 1) := by decide +kernel
theorem dX7_spells_12 : decode cX7_spells 12 = .ok (.iconst 0, 1) := by decide +kernel
theorem dX7_spells_13 : decode cX7_spells 13 = .ok (.istore 4, 2) := by decide +kernel
theorem dX7_spells_15 : decode cX7_spells 15 = .ok (.iload 4, 2) := by decide +kernel
theorem dX7_spells_17 : decode cX7_spells 17 = .ok (.aload_n 3, 1) := by decide +kernel
theorem dX7_spells_18 : decode cX7_spells 18 = .ok (.invokevirtual 63, 3) := by decide +kernel
theorem dX7_spells_21 : decode cX7_spells 21 = .ok (.if_icmp .ge 29, 3) := by decide +kernel
theorem dX7_spells_24 : decode cX7_spells 24 = .ok (.aload_n 0, 1) := by decide +kernel
theorem dX7_spells_25 : decode cX7_spells 25 = .ok (.getfield 11, 3) := by decide +kernel
theorem dX7_spells_28 : decode cX7_spells 28 = .ok (.iload_n 1, 1) := by decide +kernel
theorem dX7_spells_29 : decode cX7_spells 29 = .ok (.iload 4, 2) := by decide +kernel
theorem dX7_spells_31 : decode cX7_spells 31 = .ok (.iadd, 1) := by decide +kernel
theorem dX7_spells_32 : decode cX7_spells 32 = .ok (.iaload, 1) := by decide +kernel
theorem dX7_spells_33 : decode cX7_spells 33 = .ok (.aload_n 3, 1) := by decide +kernel
theorem dX7_spells_34 : decode cX7_spells 34 = .ok (.iload 4, 2) := by decide +kernel
theorem dX7_spells_36 : decode cX7_spells 36 = .ok (.invokevirtual 68, 3) := by decide +kernel
theorem dX7_spells_39 : decode cX7_spells 39 = .ok (.if_icmp .eq 5, 3) := by decide +kernel
theorem dX7_spells_42 : decode cX7_spells 42 = .ok (.iconst 0, 1) := by decide +kernel
theorem dX7_spells_43 : decode cX7_spells 43 = .ok (.ireturn, 1) := by decide +kernel
theorem dX7_spells_44 : decode cX7_spells 44 = .ok (.iinc 4 1, 3) := by decide +kernel
theorem dX7_spells_47 : decode cX7_spells 47 = .ok (.goto (-32), 3) := by decide +kernel
theorem dX7_spells_50 : decode cX7_spells 50 = .ok (.iconst 1, 1) := by decide +kernel
theorem dX7_spells_51 : decode cX7_spells 51 = .ok (.ireturn, 1) := by decide +kernel
theorem dX7_putToken_0 : decode cX7_putToken 0 = .ok (.aload_n 0, 1) := by decide +kernel
theorem dX7_putToken_1 : decode cX7_putToken 1 = .ok (.getfield 28, 3) := by decide +kernel
theorem dX7_putToken_4 : decode cX7_putToken 4 = .ok (.aload_n 0, 1) := by decide +kernel
theorem dX7_putToken_5 : decode cX7_putToken 5 = .ok (.getfield 15, 3) := by decide +kernel
theorem dX7_putToken_8 : decode cX7_putToken 8 = .ok (.arraylength, 1) := by decide +kernel
theorem dX7_putToken_9 : decode cX7_putToken 9 = .ok (.if_icmp .ge 43, 3) := by decide +kernel
theorem dX7_putToken_12 : decode cX7_putToken 12 = .ok (.aload_n 0, 1) := by decide +kernel
theorem dX7_putToken_13 : decode cX7_putToken 13 = .ok (.getfield 15, 3) := by decide +kernel
theorem dX7_putToken_16 : decode cX7_putToken 16 = .ok (.aload_n 0, 1) := by decide +kernel
theorem dX7_putToken_17 : decode cX7_putToken 17 = .ok (.getfield 28, 3) := by decide +kernel
theorem dX7_putToken_20 : decode cX7_putToken 20 = .ok (.iload_n 1, 1) := by decide +kernel
theorem dX7_putToken_21 : decode cX7_putToken 21 = .ok (.iastore, 1) := by decide +kernel
theorem dX7_putToken_22 : decode cX7_putToken 22 = .ok (.aload_n 0, 1) := by decide +kernel
theorem dX7_putToken_23 : decode cX7_putToken 23 = .ok (.getfield 18, 3) := by decide +kernel
theorem dX7_putToken_26 : decode cX7_putToken 26 = .ok (.aload_n 0, 1) := by decide +kernel
theorem dX7_putToken_27 : decode cX7_putToken 27 = .ok (.getfield 28, 3) := by decide +kernel
theorem dX7_putToken_30 : decode cX7_putToken 30 = .ok (.iload_n 2, 1) := by decide +kernel
theorem dX7_putToken_31 : decode cX7_putToken 31 = .ok (.iastore, 1) := by decide +kernel
theorem dX7_putToken_32 : decode cX7_putToken 32 = .ok (.aload_n 0, 1) := by decide +kernel
theorem dX7_putToken_33 : decode cX7_putToken 33 = .ok (.getfield 21, 3) := by decide +kernel
theorem dX7_putToken_36 : decode cX7_putToken 36 = .ok (.aload_n 0, 1) := by decide +kernel
theorem dX7_putToken_37 : decode cX7_putToken 37 = .ok (.getfield 28, 3) := by decide +kernel
theorem dX7_putToken_40 : decode cX7_putToken 40 = .ok (.iload_n 3, 1) := by decide +kernel
theorem dX7_putToken_41 : decode cX7_putToken 41 = .ok (.iastore, 1) := by decide +kernel
theorem dX7_putToken_42 : decode cX7_putToken 42 = .ok (.aload_n 0, 1) := by decide +kernel
theorem dX7_putToken_43 : decode cX7_putToken 43 = .ok (.dup, 1) := by decide +kernel
theorem dX7_putToken_44 : decode cX7_putToken 44 = .ok (.getfield 28, 3) := by decide +kernel
theorem dX7_putToken_47 : decode cX7_putToken 47 = .ok (.iconst 1, 1) := by decide +kernel
theorem dX7_putToken_48 : decode cX7_putToken 48 = .ok (.iadd, 1) := by decide +kernel
theorem dX7_putToken_49 : decode cX7_putToken 49 = .ok (.putfield 28, 3) := by decide +kernel
theorem dX7_putToken_52 : decode cX7_putToken 52 = .ok (.return_, 1) := by decide +kernel
theorem dX7_isDigit_0 : decode cX7_isDigit 0 = .ok (.iload_n 0, 1) := by decide +kernel
theorem dX7_isDigit_1 : decode cX7_isDigit 1 = .ok (.bipush 48, 2) := by decide +kernel
theorem dX7_isDigit_3 : decode cX7_isDigit 3 = .ok (.if_icmp .lt 13, 3) := by decide +kernel
theorem dX7_isDigit_6 : decode cX7_isDigit 6 = .ok (.iload_n 0, 1) := by decide +kernel
theorem dX7_isDigit_7 : decode cX7_isDigit 7 = .ok (.bipush 57, 2) := by decide +kernel
theorem dX7_isDigit_9 : decode cX7_isDigit 9 = .ok (.if_icmp .gt 7, 3) := by decide +kernel
theorem dX7_isDigit_12 : decode cX7_isDigit 12 = .ok (.iconst 1, 1) := by decide +kernel
theorem dX7_isDigit_13 : decode cX7_isDigit 13 = .ok (.goto 4, 3) := by decide +kernel
theorem dX7_isDigit_16 : decode cX7_isDigit 16 = .ok (.iconst 0, 1) := by decide +kernel
theorem dX7_isDigit_17 : decode cX7_isDigit 17 = .ok (.ireturn, 1) := by decide +kernel
theorem dX7_isSmall_0 : decode cX7_isSmall 0 = .ok (.iload_n 0, 1) := by decide +kernel
theorem dX7_isSmall_1 : decode cX7_isSmall 1 = .ok (.bipush 97, 2) := by decide +kernel
theorem dX7_isSmall_3 : decode cX7_isSmall 3 = .ok (.if_icmp .lt 13, 3) := by decide +kernel
theorem dX7_isSmall_6 : decode cX7_isSmall 6 = .ok (.iload_n 0, 1) := by decide +kernel
theorem dX7_isSmall_7 : decode cX7_isSmall 7 = .ok (.bipush 122, 2) := by decide +kernel
theorem dX7_isSmall_9 : decode cX7_isSmall 9 = .ok (.if_icmp .gt 7, 3) := by decide +kernel
theorem dX7_isSmall_12 : decode cX7_isSmall 12 = .ok (.iconst 1, 1) := by decide +kernel
theorem dX7_isSmall_13 : decode cX7_isSmall 13 = .ok (.goto 4, 3) := by decide +kernel
theorem dX7_isSmall_16 : decode cX7_isSmall 16 = .ok (.iconst 0, 1) := by decide +kernel
theorem dX7_isSmall_17 : decode cX7_isSmall 17 = .ok (.ireturn, 1) := by decide +kernel
theorem dX7_kindOfSign_0 : decode cX7_kindOfSign 0 = .ok (.iload_n 0, 1) := by decide +kernel
theorem dX7_kindOfSign_1 : decode cX7_kindOfSign 1 = .ok (.lookupswitch 97 #[(43, 82), (45, 85), (59, 75), (60, 88), (61, 91), (62, 94), (91, 77), (93, 79)], 75) := by decide +kernel
theorem dX7_kindOfSign_76 : decode cX7_kindOfSign 76 = .ok (.iconst 4, 1) := by decide +kernel
theorem dX7_kindOfSign_77 : decode cX7_kindOfSign 77 = .ok (.ireturn, 1) := by decide +kernel
theorem dX7_kindOfSign_78 : decode cX7_kindOfSign 78 = .ok (.iconst 5, 1) := by decide +kernel
theorem dX7_kindOfSign_79 : decode cX7_kindOfSign 79 = .ok (.ireturn, 1) := by decide +kernel
theorem dX7_kindOfSign_80 : decode cX7_kindOfSign 80 = .ok (.bipush 6, 2) := by decide +kernel
theorem dX7_kindOfSign_82 : decode cX7_kindOfSign 82 = .ok (.ireturn, 1) := by decide +kernel
theorem dX7_kindOfSign_83 : decode cX7_kindOfSign 83 = .ok (.bipush 7, 2) := by decide +kernel
theorem dX7_kindOfSign_85 : decode cX7_kindOfSign 85 = .ok (.ireturn, 1) := by decide +kernel
theorem dX7_kindOfSign_86 : decode cX7_kindOfSign 86 = .ok (.bipush 8, 2) := by decide +kernel
theorem dX7_kindOfSign_88 : decode cX7_kindOfSign 88 = .ok (.ireturn, 1) := by decide +kernel
theorem dX7_kindOfSign_89 : decode cX7_kindOfSign 89 = .ok (.bipush 9, 2) := by decide +kernel
theorem dX7_kindOfSign_91 : decode cX7_kindOfSign 91 = .ok (.ireturn, 1) := by decide +kernel
theorem dX7_kindOfSign_92 : decode cX7_kindOfSign 92 = .ok (.bipush 11, 2) := by decide +kernel
theorem dX7_kindOfSign_94 : decode cX7_kindOfSign 94 = .ok (.ireturn, 1) := by decide +kernel
theorem dX7_kindOfSign_95 : decode cX7_kindOfSign 95 = .ok (.bipush 13, 2) := by decide +kernel
theorem dX7_kindOfSign_97 : decode cX7_kindOfSign 97 = .ok (.ireturn, 1) := by decide +kernel
theorem dX7_kindOfSign_98 : decode cX7_kindOfSign 98 = .ok (.iload_n 0, 1) := by decide +kernel
theorem dX7_kindOfSign_99 : decode cX7_kindOfSign 99 = .ok (.bipush 65, 2) := by decide +kernel
theorem dX7_kindOfSign_101 : decode cX7_kindOfSign 101 = .ok (.if_icmp .lt 13, 3) := by decide +kernel
theorem dX7_kindOfSign_104 : decode cX7_kindOfSign 104 = .ok (.iload_n 0, 1) := by decide +kernel
theorem dX7_kindOfSign_105 : decode cX7_kindOfSign 105 = .ok (.bipush 81, 2) := by decide +kernel
theorem dX7_kindOfSign_107 : decode cX7_kindOfSign 107 = .ok (.if_icmp .ge 7, 3) := by decide +kernel
theorem dX7_kindOfSign_110 : decode cX7_kindOfSign 110 = .ok (.iconst 3, 1) := by decide +kernel
theorem dX7_kindOfSign_111 : decode cX7_kindOfSign 111 = .ok (.goto 4, 3) := by decide +kernel
theorem dX7_kindOfSign_114 : decode cX7_kindOfSign 114 = .ok (.iconst 1, 1) := by decide +kernel
theorem dX7_kindOfSign_115 : decode cX7_kindOfSign 115 = .ok (.ireturn, 1) := by decide +kernel
theorem dX7_wordOf_0 : decode cX7_wordOf 0 = .ok (.iload_n 0, 1) := by decide +kernel
theorem dX7_wordOf_1 : decode cX7_wordOf 1 = .ok (.tableswitch 78 14 22 #[51, 54, 57, 60, 63, 66, 69, 72, 75], 51) := by decide +kernel
theorem dX7_wordOf_52 : decode cX7_wordOf 52 = .ok (.ldc 72, 2) := by decide +kernel
theorem dX7_wordOf_54 : decode cX7_wordOf 54 = .ok (.areturn, 1) := by decide +kernel
theorem dX7_wordOf_55 : decode cX7_wordOf 55 = .ok (.ldc 74, 2) := by decide +kernel
theorem dX7_wordOf_57 : decode cX7_wordOf 57 = .ok (.areturn, 1) := by decide +kernel
theorem dX7_wordOf_58 : decode cX7_wordOf 58 = .ok (.ldc 76, 2) := by decide +kernel
theorem dX7_wordOf_60 : decode cX7_wordOf 60 = .ok (.areturn, 1) := by decide +kernel
theorem dX7_wordOf_61 : decode cX7_wordOf 61 = .ok (.ldc 78, 2) := by decide +kernel
theorem dX7_wordOf_63 : decode cX7_wordOf 63 = .ok (.areturn, 1) := by decide +kernel
theorem dX7_wordOf_64 : decode cX7_wordOf 64 = .ok (.ldc 80, 2) := by decide +kernel
theorem dX7_wordOf_66 : decode cX7_wordOf 66 = .ok (.areturn, 1) := by decide +kernel
theorem dX7_wordOf_67 : decode cX7_wordOf 67 = .ok (.ldc 82, 2) := by decide +kernel
theorem dX7_wordOf_69 : decode cX7_wordOf 69 = .ok (.areturn, 1) := by decide +kernel
theorem dX7_wordOf_70 : decode cX7_wordOf 70 = .ok (.ldc 84, 2) := by decide +kernel
theorem dX7_wordOf_72 : decode cX7_wordOf 72 = .ok (.areturn, 1) := by decide +kernel
theorem dX7_wordOf_73 : decode cX7_wordOf 73 = .ok (.ldc 86, 2) := by decide +kernel
theorem dX7_wordOf_75 : decode cX7_wordOf 75 = .ok (.areturn, 1) := by decide +kernel
theorem dX7_wordOf_76 : decode cX7_wordOf 76 = .ok (.ldc 88, 2) := by decide +kernel
theorem dX7_wordOf_78 : decode cX7_wordOf 78 = .ok (.areturn, 1) := by decide +kernel
theorem dX7_wordOf_79 : decode cX7_wordOf 79 = .ok (.iload_n 0, 1) := by decide +kernel
theorem dX7_wordOf_80 : decode cX7_wordOf 80 = .ok (.bipush 23, 2) := by decide +kernel
theorem dX7_wordOf_82 : decode cX7_wordOf 82 = .ok (.isub, 1) := by decide +kernel
theorem dX7_wordOf_83 : decode cX7_wordOf 83 = .ok (.invokestatic 90, 3) := by decide +kernel
theorem dX7_wordOf_86 : decode cX7_wordOf 86 = .ok (.areturn, 1) := by decide +kernel
theorem dX7_valueWordOf_0 : decode cX7_valueWordOf 0 = .ok (.iload_n 0, 1) := by decide +kernel
theorem dX7_valueWordOf_1 : decode cX7_valueWordOf 1 = .ok (.tableswitch 99 0 11 #[63, 66, 69, 72, 75, 78, 81, 84, 87, 90, 93, 96], 63) := by decide +kernel
theorem dX7_valueWordOf_64 : decode cX7_valueWordOf 64 = .ok (.ldc 93, 2) := by decide +kernel
theorem dX7_valueWordOf_66 : decode cX7_valueWordOf 66 = .ok (.areturn, 1) := by decide +kernel
theorem dX7_valueWordOf_67 : decode cX7_valueWordOf 67 = .ok (.ldc 95, 2) := by decide +kernel
theorem dX7_valueWordOf_69 : decode cX7_valueWordOf 69 = .ok (.areturn, 1) := by decide +kernel
theorem dX7_valueWordOf_70 : decode cX7_valueWordOf 70 = .ok (.ldc 97, 2) := by decide +kernel
theorem dX7_valueWordOf_72 : decode cX7_valueWordOf 72 = .ok (.areturn, 1) := by decide +kernel
theorem dX7_valueWordOf_73 : decode cX7_valueWordOf 73 = .ok (.ldc 99, 2) := by decide +kernel
theorem dX7_valueWordOf_75 : decode cX7_valueWordOf 75 = .ok (.areturn, 1) := by decide +kernel
theorem dX7_valueWordOf_76 : decode cX7_valueWordOf 76 = .ok (.ldc 101, 2) := by decide +kernel
theorem dX7_valueWordOf_78 : decode cX7_valueWordOf 78 = .ok (.areturn, 1) := by decide +kernel
theorem dX7_valueWordOf_79 : decode cX7_valueWordOf 79 = .ok (.ldc 103, 2) := by decide +kernel
theorem dX7_valueWordOf_81 : decode cX7_valueWordOf 81 = .ok (.areturn, 1) := by decide +kernel
theorem dX7_valueWordOf_82 : decode cX7_valueWordOf 82 = .ok (.ldc 105, 2) := by decide +kernel
theorem dX7_valueWordOf_84 : decode cX7_valueWordOf 84 = .ok (.areturn, 1) := by decide +kernel
theorem dX7_valueWordOf_85 : decode cX7_valueWordOf 85 = .ok (.ldc 107, 2) := by decide +kernel
theorem dX7_valueWordOf_87 : decode cX7_valueWordOf 87 = .ok (.areturn, 1) := by decide +kernel
theorem dX7_valueWordOf_88 : decode cX7_valueWordOf 88 = .ok (.ldc 109, 2) := by decide +kernel
theorem dX7_valueWordOf_90 : decode cX7_valueWordOf 90 = .ok (.areturn, 1) := by decide +kernel
theorem dX7_valueWordOf_91 : decode cX7_valueWordOf 91 = .ok (.ldc 111, 2) := by decide +kernel
theorem dX7_valueWordOf_93 : decode cX7_valueWordOf 93 = .ok (.areturn, 1) := by decide +kernel
theorem dX7_valueWordOf_94 : decode cX7_valueWordOf 94 = .ok (.ldc 113, 2) := by decide +kernel
theorem dX7_valueWordOf_96 : decode cX7_valueWordOf 96 = .ok (.areturn, 1) := by decide +kernel
theorem dX7_valueWordOf_97 : decode cX7_valueWordOf 97 = .ok (.ldc 115, 2) := by decide +kernel
theorem dX7_valueWordOf_99 : decode cX7_valueWordOf 99 = .ok (.areturn, 1) := by decide +kernel
theorem dX7_valueWordOf_100 : decode cX7_valueWordOf 100 = .ok (.ldc 117, 2) := by decide +kernel
theorem dX7_valueWordOf_102 : decode cX7_valueWordOf 102 = .ok (.areturn, 1) := by decide +kernel
theorem dX8_init_0 : decode cX8_init 0 = .ok (.aload_n 0, 1) := by decide +kernel
theorem dX8_init_1 : decode cX8_init 1 = .ok (.invokespecial 1, 3) := by decide +kernel
theorem dX8_init_4 : decode cX8_init 4 = .ok (.iconst 0, 1) := by decide +kernel
theorem dX8_init_5 : decode cX8_init 5 = .ok (.iload_n 2, 1) := by decide +kernel
theorem dX8_init_6 : decode cX8_init 6 = .ok (.aload_n 1, 1) := by decide +kernel
theorem dX8_init_7 : decode cX8_init 7 = .ok (.arraylength, 1) := by decide +kernel
theorem dX8_init_8 : decode cX8_init 8 = .ok (.invokestatic 7, 3) := by decide +kernel
theorem dX8_init_11 : decode cX8_init 11 = .ok (.invokestatic 13, 3) := by decide +kernel
theorem dX8_init_14 : decode cX8_init 14 = .ok (.istore_n 3, 1) := by decide +kernel
theorem dX8_init_15 : decode cX8_init 15 = .ok (.aload_n 0, 1) := by decide +kernel
theorem dX8_init_16 : decode cX8_init 16 = .ok (.iload_n 3, 1) := by decide +kernel
theorem dX8_init_17 : decode cX8_init 17 = .ok (.anewarray 16, 3) := by decide +kernel
theorem dX8_init_20 : decode cX8_init 20 = .ok (.putfield 18, 3) := by decide +kernel
theorem dX8_init_23 : decode cX8_init 23 = .ok (.iconst 0, 1) := by decide +kernel
theorem dX8_init_24 : decode cX8_init 24 = .ok (.istore 4, 2) := by decide +kernel
theorem dX8_init_26 : decode cX8_init 26 = .ok (.iload 4, 2) := by decide +kernel
theorem dX8_init_28 : decode cX8_init 28 = .ok (.iload_n 3, 1) := by decide +kernel
theorem dX8_init_29 : decode cX8_init 29 = .ok (.if_icmp .ge 20, 3) := by decide +kernel
theorem dX8_init_32 : decode cX8_init 32 = .ok (.aload_n 0, 1) := by decide +kernel
theorem dX8_init_33 : decode cX8_init 33 = .ok (.getfield 18, 3) := by decide +kernel
theorem dX8_init_36 : decode cX8_init 36 = .ok (.iload 4, 2) := by decide +kernel
theorem dX8_init_38 : decode cX8_init 38 = .ok (.aload_n 1, 1) := by decide +kernel
theorem dX8_init_39 : decode cX8_init 39 = .ok (.iload 4, 2) := by decide +kernel
theorem dX8_init_41 : decode cX8_init 41 = .ok (.aaload, 1) := by decide +kernel
theorem dX8_init_42 : decode cX8_init 42 = .ok (.aastore, 1) := by decide +kernel
theorem dX8_init_43 : decode cX8_init 43 = .ok (.iinc 4 1, 3) := by decide +kernel
theorem dX8_init_46 : decode cX8_init 46 = .ok (.goto (-20), 3) := by decide +kernel
theorem dX8_init_49 : decode cX8_init 49 = .ok (.return_, 1) := by decide +kernel
theorem dX9_init_0 : decode cX9_init 0 = .ok (.aload_n 0, 1) := by decide +kernel
theorem dX9_init_1 : decode cX9_init 1 = .ok (.invokespecial 3, 3) := by decide +kernel
theorem dX9_init_4 : decode cX9_init 4 = .ok (.aload_n 0, 1) := by decide +kernel
theorem dX9_init_5 : decode cX9_init 5 = .ok (.sipush 300, 3) := by decide +kernel
theorem dX9_init_8 : decode cX9_init 8 = .ok (.newarray .int, 2) := by decide +kernel
theorem dX9_init_10 : decode cX9_init 10 = .ok (.putfield 9, 3) := by decide +kernel
theorem dX9_init_13 : decode cX9_init 13 = .ok (.aload_n 0, 1) := by decide +kernel
theorem dX9_init_14 : decode cX9_init 14 = .ok (.sipush 300, 3) := by decide +kernel
theorem dX9_init_17 : decode cX9_init 17 = .ok (.newarray .int, 2) := by decide +kernel
theorem dX9_init_19 : decode cX9_init 19 = .ok (.putfield 15, 3) := by decide +kernel
theorem dX9_init_22 : decode cX9_init 22 = .ok (.aload_n 0, 1) := by decide +kernel
theorem dX9_init_23 : decode cX9_init 23 = .ok (.sipush 300, 3) := by decide +kernel
theorem dX9_init_26 : decode cX9_init 26 = .ok (.newarray .int, 2) := by decide +kernel
theorem dX9_init_28 : decode cX9_init 28 = .ok (.putfield 18, 3) := by decide +kernel
theorem dX9_init_31 : decode cX9_init 31 = .ok (.return_, 1) := by decide +kernel
theorem dX9_copyFrom_0 : decode cX9_copyFrom 0 = .ok (.aload_n 1, 1) := by decide +kernel
theorem dX9_copyFrom_1 : decode cX9_copyFrom 1 = .ok (.getfield 9, 3) := by decide +kernel
theorem dX9_copyFrom_4 : decode cX9_copyFrom 4 = .ok (.iconst 0, 1) := by decide +kernel
theorem dX9_copyFrom_5 : decode cX9_copyFrom 5 = .ok (.aload_n 0, 1) := by decide +kernel
theorem dX9_copyFrom_6 : decode cX9_copyFrom 6 = .ok (.getfield 9, 3) := by decide +kernel
theorem dX9_copyFrom_9 : decode cX9_copyFrom 9 = .ok (.iconst 0, 1) := by decide +kernel
theorem dX9_copyFrom_10 : decode cX9_copyFrom 10 = .ok (.sipush 300, 3) := by decide +kernel
theorem dX9_copyFrom_13 : decode cX9_copyFrom 13 = .ok (.invokestatic 21, 3) := by decide +kernel
theorem dX9_copyFrom_16 : decode cX9_copyFrom 16 = .ok (.aload_n 1, 1) := by decide +kernel
theorem dX9_copyFrom_17 : decode cX9_copyFrom 17 = .ok (.getfield 15, 3) := by decide +kernel
theorem dX9_copyFrom_20 : decode cX9_copyFrom 20 = .ok (.iconst 0, 1) := by decide +kernel
theorem dX9_copyFrom_21 : decode cX9_copyFrom 21 = .ok (.aload_n 0, 1) := by decide +kernel
theorem dX9_copyFrom_22 : decode cX9_copyFrom 22 = .ok (.getfield 15, 3) := by decide +kernel
theorem dX9_copyFrom_25 : decode cX9_copyFrom 25 = .ok (.iconst 0, 1) := by decide +kernel
theorem dX9_copyFrom_26 : decode cX9_copyFrom 26 = .ok (.sipush 300, 3) := by decide +kernel
theorem dX9_copyFrom_29 : decode cX9_copyFrom 29 = .ok (.invokestatic 21, 3) := by decide +kernel
theorem dX9_copyFrom_32 : decode cX9_copyFrom 32 = .ok (.aload_n 1, 1) := by decide +kernel
theorem dX9_copyFrom_33 : decode cX9_copyFrom 33 = .ok (.getfield 18, 3) := by decide +kernel
theorem dX9_copyFrom_36 : decode cX9_copyFrom 36 = .ok (.iconst 0, 1) := by decide +kernel
theorem dX9_copyFrom_37 : decode cX9_copyFrom 37 = .ok (.aload_n 0, 1) := by decide +kernel
theorem dX9_copyFrom_38 : decode cX9_copyFrom 38 = .ok (.getfield 18, 3) := by decide +kernel
theorem dX9_copyFrom_41 : decode cX9_copyFrom 41 = .ok (.iconst 0, 1) := by decide +kernel
theorem dX9_copyFrom_42 : decode cX9_copyFrom 42 = .ok (.sipush 300, 3) := by decide +kernel
theorem dX9_copyFrom_45 : decode cX9_copyFrom 45 = .ok (.invokestatic 21, 3) := by decide +kernel
theorem dX9_copyFrom_48 : decode cX9_copyFrom 48 = .ok (.aload_n 0, 1) := by decide +kernel
theorem dX9_copyFrom_49 : decode cX9_copyFrom 49 = .ok (.aload_n 1, 1) := by decide +kernel
theorem dX9_copyFrom_50 : decode cX9_copyFrom 50 = .ok (.getfield 27, 3) := by decide +kernel
theorem dX9_copyFrom_53 : decode cX9_copyFrom 53 = .ok (.putfield 27, 3) := by decide +kernel
theorem dX9_copyFrom_56 : decode cX9_copyFrom 56 = .ok (.return_, 1) := by decide +kernel
theorem dX9_ask_0 : decode cX9_ask 0 = .ok (.aload_n 0, 1) := by decide +kernel
theorem dX9_ask_1 : decode cX9_ask 1 = .ok (.getfield 27, 3) := by decide +kernel
theorem dX9_ask_4 : decode cX9_ask 4 = .ok (.sipush 300, 3) := by decide +kernel
theorem dX9_ask_7 : decode cX9_ask 7 = .ok (.if_icmp .lt 5, 3) := by decide +kernel
theorem dX9_ask_10 : decode cX9_ask 10 = .ok (.iconst (-1), 1) := by decide +kernel
theorem dX9_ask_11 : decode cX9_ask 11 = .ok (.ireturn, 1) := by decide +kernel
theorem dX9_ask_12 : decode cX9_ask 12 = .ok (.aload_n 0, 1) := by decide +kernel
theorem dX9_ask_13 : decode cX9_ask 13 = .ok (.getfield 9, 3) := by decide +kernel
theorem dX9_ask_16 : decode cX9_ask 16 = .ok (.aload_n 0, 1) := by decide +kernel
theorem dX9_ask_17 : decode cX9_ask 17 = .ok (.getfield 27, 3) := by decide +kernel
theorem dX9_ask_20 : decode cX9_ask 20 = .ok (.iload_n 1, 1) := by decide +kernel
theorem dX9_ask_21 : decode cX9_ask 21 = .ok (.iastore, 1) := by decide +kernel
theorem dX9_ask_22 : decode cX9_ask 22 = .ok (.aload_n 0, 1) := by decide +kernel
theorem dX9_ask_23 : decode cX9_ask 23 = .ok (.getfield 15, 3) := by decide +kernel
theorem dX9_ask_26 : decode cX9_ask 26 = .ok (.aload_n 0, 1) := by decide +kernel
theorem dX9_ask_27 : decode cX9_ask 27 = .ok (.getfield 27, 3) := by decide +kernel
theorem dX9_ask_30 : decode cX9_ask 30 = .ok (.iload_n 2, 1) := by decide +kernel
theorem dX9_ask_31 : decode cX9_ask 31 = .ok (.iastore, 1) := by decide +kernel
theorem dX9_ask_32 : decode cX9_ask 32 = .ok (.aload_n 0, 1) := by decide +kernel
theorem dX9_ask_33 : decode cX9_ask 33 = .ok (.getfield 18, 3) := by decide +kernel
theorem dX9_ask_36 : decode cX9_ask 36 = .ok (.aload_n 0, 1) := by decide +kernel
theorem dX9_ask_37 : decode cX9_ask 37 = .ok (.getfield 27, 3) := by decide +kernel
theorem dX9_ask_40 : decode cX9_ask 40 = .ok (.iload_n 3, 1) := by decide +kernel
theorem dX9_ask_41 : decode cX9_ask 41 = .ok (.iastore, 1) := by decide +kernel
theorem dX9_ask_42 : decode cX9_ask 42 = .ok (.aload_n 0, 1) := by decide +kernel
theorem dX9_ask_43 : decode cX9_ask 43 = .ok (.dup, 1) := by decide +kernel
theorem dX9_ask_44 : decode cX9_ask 44 = .ok (.getfield 27, 3) := by decide +kernel
theorem dX9_ask_47 : decode cX9_ask 47 = .ok (.iconst 1, 1) := by decide +kernel
theorem dX9_ask_48 : decode cX9_ask 48 = .ok (.iadd, 1) := by decide +kernel
theorem dX9_ask_49 : decode cX9_ask 49 = .ok (.putfield 27, 3) := by decide +kernel
theorem dX9_ask_52 : decode cX9_ask 52 = .ok (.aload_n 0, 1) := by decide +kernel
theorem dX9_ask_53 : decode cX9_ask 53 = .ok (.getfield 27, 3) := by decide +kernel
theorem dX9_ask_56 : decode cX9_ask 56 = .ok (.ireturn, 1) := by decide +kernel
theorem dX9_leanOf_0 : decode cX9_leanOf 0 = .ok (.iconst 0, 1) := by decide +kernel
theorem dX9_leanOf_1 : decode cX9_leanOf 1 = .ok (.istore 6, 2) := by decide +kernel
theorem dX9_leanOf_3 : decode cX9_leanOf 3 = .ok (.iconst 0, 1) := by decide +kernel
theorem dX9_leanOf_4 : decode cX9_leanOf 4 = .ok (.istore 7, 2) := by decide +kernel
theorem dX9_leanOf_6 : decode cX9_leanOf 6 = .ok (.iconst 0, 1) := by decide +kernel
theorem dX9_leanOf_7 : decode cX9_leanOf 7 = .ok (.istore 8, 2) := by decide +kernel
theorem dX9_leanOf_9 : decode cX9_leanOf 9 = .ok (.iconst 0, 1) := by decide +kernel
theorem dX9_leanOf_10 : decode cX9_leanOf 10 = .ok (.istore 9, 2) := by decide +kernel
theorem dX9_leanOf_12 : decode cX9_leanOf 12 = .ok (.iconst 0, 1) := by decide +kernel
theorem dX9_leanOf_13 : decode cX9_leanOf 13 = .ok (.istore 10, 2) := by decide +kernel
theorem dX9_leanOf_15 : decode cX9_leanOf 15 = .ok (.iload 10, 2) := by decide +kernel
theorem dX9_leanOf_17 : decode cX9_leanOf 17 = .ok (.aload_n 0, 1) := by decide +kernel
theorem dX9_leanOf_18 : decode cX9_leanOf 18 = .ok (.getfield 27, 3) := by decide +kernel
theorem dX9_leanOf_21 : decode cX9_leanOf 21 = .ok (.if_icmp .ge 81, 3) := by decide +kernel
theorem dX9_leanOf_24 : decode cX9_leanOf 24 = .ok (.aload_n 0, 1) := by decide +kernel
theorem dX9_leanOf_25 : decode cX9_leanOf 25 = .ok (.getfield 9, 3) := by decide +kernel
theorem dX9_leanOf_28 : decode cX9_leanOf 28 = .ok (.iload 10, 2) := by decide +kernel
theorem dX9_leanOf_30 : decode cX9_leanOf 30 = .ok (.iaload, 1) := by decide +kernel
theorem dX9_leanOf_31 : decode cX9_leanOf 31 = .ok (.iload_n 3, 1) := by decide +kernel
theorem dX9_leanOf_32 : decode cX9_leanOf 32 = .ok (.iload 4, 2) := by decide +kernel
theorem dX9_leanOf_34 : decode cX9_leanOf 34 = .ok (.invokestatic 31, 3) := by decide +kernel
theorem dX9_leanOf_37 : decode cX9_leanOf 37 = .ok (.ifCond .eq 59, 3) := by decide +kernel
theorem dX9_leanOf_40 : decode cX9_leanOf 40 = .ok (.aload_n 0, 1) := by decide +kernel
theorem dX9_leanOf_41 : decode cX9_leanOf 41 = .ok (.getfield 15, 3) := by decide +kernel
theorem dX9_leanOf_44 : decode cX9_leanOf 44 = .ok (.iload 10, 2) := by decide +kernel
theorem dX9_leanOf_46 : decode cX9_leanOf 46 = .ok (.iaload, 1) := by decide +kernel
theorem dX9_leanOf_47 : decode cX9_leanOf 47 = .ok (.iload_n 1, 1) := by decide +kernel
theorem dX9_leanOf_48 : decode cX9_leanOf 48 = .ok (.if_icmp .ne 7, 3) := by decide +kernel
theorem dX9_leanOf_51 : decode cX9_leanOf 51 = .ok (.iconst 1, 1) := by decide +kernel
theorem dX9_leanOf_52 : decode cX9_leanOf 52 = .ok (.goto 4, 3) := by decide +kernel
theorem dX9_leanOf_55 : decode cX9_leanOf 55 = .ok (.iconst 0, 1) := by decide +kernel
theorem dX9_leanOf_56 : decode cX9_leanOf 56 = .ok (.istore 11, 2) := by decide +kernel
theorem dX9_leanOf_58 : decode cX9_leanOf 58 = .ok (.aload_n 0, 1) := by decide +kernel
theorem dX9_leanOf_59 : decode cX9_leanOf 59 = .ok (.getfield 18, 3) := by decide +kernel
theorem dX9_leanOf_62 : decode cX9_leanOf 62 = .ok (.iload 10, 2) := by decide +kernel
theorem dX9_leanOf_64 : decode cX9_leanOf 64 = .ok (.iaload, 1) := by decide +kernel
theorem dX9_leanOf_65 : decode cX9_leanOf 65 = .ok (.iload_n 2, 1) := by decide +kernel
theorem dX9_leanOf_66 : decode cX9_leanOf 66 = .ok (.ishr, 1) := by decide +kernel
theorem dX9_leanOf_67 : decode cX9_leanOf 67 = .ok (.iconst 1, 1) := by decide +kernel
theorem dX9_leanOf_68 : decode cX9_leanOf 68 = .ok (.iand, 1) := by decide +kernel
theorem dX9_leanOf_69 : decode cX9_leanOf 69 = .ok (.iconst 1, 1) := by decide +kernel
theorem dX9_leanOf_70 : decode cX9_leanOf 70 = .ok (.if_icmp .ne 16, 3) := by decide +kernel
theorem dX9_leanOf_73 : decode cX9_leanOf 73 = .ok (.iinc 6 1, 3) := by decide +kernel
theorem dX9_leanOf_76 : decode cX9_leanOf 76 = .ok (.iload 7, 2) := by decide +kernel
theorem dX9_leanOf_78 : decode cX9_leanOf 78 = .ok (.iload 11, 2) := by decide +kernel
theorem dX9_leanOf_80 : decode cX9_leanOf 80 = .ok (.iadd, 1) := by decide +kernel
theorem dX9_leanOf_81 : decode cX9_leanOf 81 = .ok (.istore 7, 2) := by decide +kernel
theorem dX9_leanOf_83 : decode cX9_leanOf 83 = .ok (.goto 13, 3) := by decide +kernel
theorem dX9_leanOf_86 : decode cX9_leanOf 86 = .ok (.iinc 8 1, 3) := by decide +kernel
theorem dX9_leanOf_89 : decode cX9_leanOf 89 = .ok (.iload 9, 2) := by decide +kernel
theorem dX9_leanOf_91 : decode cX9_leanOf 91 = .ok (.iload 11, 2) := by decide +kernel
theorem dX9_leanOf_93 : decode cX9_leanOf 93 = .ok (.iadd, 1) := by decide +kernel
theorem dX9_leanOf_94 : decode cX9_leanOf 94 = .ok (.istore 9, 2) := by decide +kernel
theorem dX9_leanOf_96 : decode cX9_leanOf 96 = .ok (.iinc 10 1, 3) := by decide +kernel
theorem dX9_leanOf_99 : decode cX9_leanOf 99 = .ok (.goto (-84), 3) := by decide +kernel
theorem dX9_leanOf_102 : decode cX9_leanOf 102 = .ok (.iload 7, 2) := by decide +kernel
theorem dX9_leanOf_104 : decode cX9_leanOf 104 = .ok (.iload 8, 2) := by decide +kernel
theorem dX9_leanOf_106 : decode cX9_leanOf 106 = .ok (.imul, 1) := by decide +kernel
theorem dX9_leanOf_107 : decode cX9_leanOf 107 = .ok (.iload 9, 2) := by decide +kernel
theorem dX9_leanOf_109 : decode cX9_leanOf 109 = .ok (.iload 6, 2) := by decide +kernel
theorem dX9_leanOf_111 : decode cX9_leanOf 111 = .ok (.imul, 1) := by decide +kernel
theorem dX9_leanOf_112 : decode cX9_leanOf 112 = .ok (.isub, 1) := by decide +kernel
theorem dX9_leanOf_113 : decode cX9_leanOf 113 = .ok (.istore 10, 2) := by decide +kernel
theorem dX9_leanOf_115 : decode cX9_leanOf 115 = .ok (.iload 6, 2) := by decide +kernel
theorem dX9_leanOf_117 : decode cX9_leanOf 117 = .ok (.iload 8, 2) := by decide +kernel
theorem dX9_leanOf_119 : decode cX9_leanOf 119 = .ok (.imul, 1) := by decide +kernel
theorem dX9_leanOf_120 : decode cX9_leanOf 120 = .ok (.istore 11, 2) := by decide +kernel
theorem dX9_leanOf_122 : decode cX9_leanOf 122 = .ok (.iload 10, 2) := by decide +kernel
theorem dX9_leanOf_124 : decode cX9_leanOf 124 = .ok (.invokestatic 35, 3) := by decide +kernel
theorem dX9_leanOf_127 : decode cX9_leanOf 127 = .ok (.iload 11, 2) := by decide +kernel
theorem dX9_leanOf_129 : decode cX9_leanOf 129 = .ok (.invokestatic 41, 3) := by decide +kernel
theorem dX9_leanOf_132 : decode cX9_leanOf 132 = .ok (.istore 12, 2) := by decide +kernel
theorem dX9_leanOf_134 : decode cX9_leanOf 134 = .ok (.iload 11, 2) := by decide +kernel
theorem dX9_leanOf_136 : decode cX9_leanOf 136 = .ok (.ifCond .eq 8, 3) := by decide +kernel
theorem dX9_leanOf_139 : decode cX9_leanOf 139 = .ok (.iload 12, 2) := by decide +kernel
theorem dX9_leanOf_141 : decode cX9_leanOf 141 = .ok (.ifCond .ne 5, 3) := by decide +kernel
theorem dX9_leanOf_144 : decode cX9_leanOf 144 = .ok (.iconst 0, 1) := by decide +kernel
theorem dX9_leanOf_145 : decode cX9_leanOf 145 = .ok (.ireturn, 1) := by decide +kernel
theorem dX9_leanOf_146 : decode cX9_leanOf 146 = .ok (.iload 5, 2) := by decide +kernel
theorem dX9_leanOf_148 : decode cX9_leanOf 148 = .ok (.ifCond .eq 8, 3) := by decide +kernel
theorem dX9_leanOf_151 : decode cX9_leanOf 151 = .ok (.iload 10, 2) := by decide +kernel
theorem dX9_leanOf_153 : decode cX9_leanOf 153 = .ok (.goto 5, 3) := by decide +kernel
theorem dX9_leanOf_156 : decode cX9_leanOf 156 = .ok (.iload 11, 2) := by decide +kernel
theorem dX9_leanOf_158 : decode cX9_leanOf 158 = .ok (.iload 12, 2) := by decide +kernel
theorem dX9_leanOf_160 : decode cX9_leanOf 160 = .ok (.idiv, 1) := by decide +kernel
theorem dX9_leanOf_161 : decode cX9_leanOf 161 = .ok (.ireturn, 1) := by decide +kernel
theorem dX9_commonDivisor_0 : decode cX9_commonDivisor 0 = .ok (.iload_n 0, 1) := by decide +kernel
theorem dX9_commonDivisor_1 : decode cX9_commonDivisor 1 = .ok (.istore_n 2, 1) := by decide +kernel
theorem dX9_commonDivisor_2 : decode cX9_commonDivisor 2 = .ok (.iload_n 1, 1) := by decide +kernel
theorem dX9_commonDivisor_3 : decode cX9_commonDivisor 3 = .ok (.istore_n 3, 1) := by decide +kernel
theorem dX9_commonDivisor_4 : decode cX9_commonDivisor 4 = .ok (.iconst 0, 1) := by decide +kernel
theorem dX9_commonDivisor_5 : decode cX9_commonDivisor 5 = .ok (.istore 4, 2) := by decide +kernel
theorem dX9_commonDivisor_7 : decode cX9_commonDivisor 7 = .ok (.iload 4, 2) := by decide +kernel
theorem dX9_commonDivisor_9 : decode cX9_commonDivisor 9 = .ok (.bipush 100, 2) := by decide +kernel
theorem dX9_commonDivisor_11 : decode cX9_commonDivisor 11 = .ok (.if_icmp .ge 23, 3) := by decide +kernel
theorem dX9_commonDivisor_14 : decode cX9_commonDivisor 14 = .ok (.iload_n 3, 1) := by decide +kernel
theorem dX9_commonDivisor_15 : decode cX9_commonDivisor 15 = .ok (.ifCond .eq 19, 3) := by decide +kernel
theorem dX9_commonDivisor_18 : decode cX9_commonDivisor 18 = .ok (.iload_n 2, 1) := by decide +kernel
theorem dX9_commonDivisor_19 : decode cX9_commonDivisor 19 = .ok (.iload_n 3, 1) := by decide +kernel
theorem dX9_commonDivisor_20 : decode cX9_commonDivisor 20 = .ok (.irem, 1) := by decide +kernel
theorem dX9_commonDivisor_21 : decode cX9_commonDivisor 21 = .ok (.istore 5, 2) := by decide +kernel
theorem dX9_commonDivisor_23 : decode cX9_commonDivisor 23 = .ok (.iload_n 3, 1) := by decide +kernel
theorem dX9_commonDivisor_24 : decode cX9_commonDivisor 24 = .ok (.istore_n 2, 1) := by decide +kernel
theorem dX9_commonDivisor_25 : decode cX9_commonDivisor 25 = .ok (.iload 5, 2) := by decide +kernel
theorem dX9_commonDivisor_27 : decode cX9_commonDivisor 27 = .ok (.istore_n 3, 1) := by decide +kernel
theorem dX9_commonDivisor_28 : decode cX9_commonDivisor 28 = .ok (.iinc 4 1, 3) := by decide +kernel
theorem dX9_commonDivisor_31 : decode cX9_commonDivisor 31 = .ok (.goto (-24), 3) := by decide +kernel
theorem dX9_commonDivisor_34 : decode cX9_commonDivisor 34 = .ok (.iload_n 2, 1) := by decide +kernel
theorem dX9_commonDivisor_35 : decode cX9_commonDivisor 35 = .ok (.ireturn, 1) := by decide +kernel
theorem dX10_init_0 : decode cX10_init 0 = .ok (.aload_n 0, 1) := by decide +kernel
theorem dX10_init_1 : decode cX10_init 1 = .ok (.invokespecial 3, 3) := by decide +kernel
theorem dX10_init_4 : decode cX10_init 4 = .ok (.aload_n 0, 1) := by decide +kernel
theorem dX10_init_5 : decode cX10_init 5 = .ok (.new 9, 3) := by decide +kernel
theorem dX10_init_8 : decode cX10_init 8 = .ok (.dup, 1) := by decide +kernel
theorem dX10_init_9 : decode cX10_init 9 = .ok (.invokespecial 11, 3) := by decide +kernel
theorem dX10_init_12 : decode cX10_init 12 = .ok (.putfield 12, 3) := by decide +kernel
theorem dX10_init_15 : decode cX10_init 15 = .ok (.aload_n 0, 1) := by decide +kernel
theorem dX10_init_16 : decode cX10_init 16 = .ok (.iconst 4, 1) := by decide +kernel
theorem dX10_init_17 : decode cX10_init 17 = .ok (.anewarray 9, 3) := by decide +kernel
theorem dX10_init_20 : decode cX10_init 20 = .ok (.putfield 16, 3) := by decide +kernel
theorem dX10_init_23 : decode cX10_init 23 = .ok (.aload_n 0, 1) := by decide +kernel
theorem dX10_init_24 : decode cX10_init 24 = .ok (.new 20, 3) := by decide +kernel
theorem dX10_init_27 : decode cX10_init 27 = .ok (.dup, 1) := by decide +kernel
theorem dX10_init_28 : decode cX10_init 28 = .ok (.invokespecial 22, 3) := by decide +kernel
theorem dX10_init_31 : decode cX10_init 31 = .ok (.putfield 23, 3) := by decide +kernel
theorem dX10_init_34 : decode cX10_init 34 = .ok (.aload_n 0, 1) := by decide +kernel
theorem dX10_init_35 : decode cX10_init 35 = .ok (.new 27, 3) := by decide +kernel
theorem dX10_init_38 : decode cX10_init 38 = .ok (.dup, 1) := by decide +kernel
theorem dX10_init_39 : decode cX10_init 39 = .ok (.aload_n 0, 1) := by decide +kernel
theorem dX10_init_40 : decode cX10_init 40 = .ok (.getfield 23, 3) := by decide +kernel
theorem dX10_init_43 : decode cX10_init 43 = .ok (.invokespecial 29, 3) := by decide +kernel
theorem dX10_init_46 : decode cX10_init 46 = .ok (.putfield 32, 3) := by decide +kernel
theorem dX10_init_49 : decode cX10_init 49 = .ok (.aload_n 0, 1) := by decide +kernel
theorem dX10_init_50 : decode cX10_init 50 = .ok (.new 36, 3) := by decide +kernel
theorem dX10_init_53 : decode cX10_init 53 = .ok (.dup, 1) := by decide +kernel
theorem dX10_init_54 : decode cX10_init 54 = .ok (.invokespecial 38, 3) := by decide +kernel
theorem dX10_init_57 : decode cX10_init 57 = .ok (.putfield 39, 3) := by decide +kernel
theorem dX10_init_60 : decode cX10_init 60 = .ok (.aload_n 0, 1) := by decide +kernel
theorem dX10_init_61 : decode cX10_init 61 = .ok (.bipush 10, 2) := by decide +kernel
theorem dX10_init_63 : decode cX10_init 63 = .ok (.anewarray 43, 3) := by decide +kernel
theorem dX10_init_66 : decode cX10_init 66 = .ok (.putfield 45, 3) := by decide +kernel
theorem dX10_init_69 : decode cX10_init 69 = .ok (.aload_n 0, 1) := by decide +kernel
theorem dX10_init_70 : decode cX10_init 70 = .ok (.bipush 10, 2) := by decide +kernel
theorem dX10_init_72 : decode cX10_init 72 = .ok (.anewarray 43, 3) := by decide +kernel
theorem dX10_init_75 : decode cX10_init 75 = .ok (.putfield 49, 3) := by decide +kernel
theorem dX10_init_78 : decode cX10_init 78 = .ok (.aload_n 0, 1) := by decide +kernel
theorem dX10_init_79 : decode cX10_init 79 = .ok (.bipush 16, 2) := by decide +kernel
theorem dX10_init_81 : decode cX10_init 81 = .ok (.newarray .int, 2) := by decide +kernel
theorem dX10_init_83 : decode cX10_init 83 = .ok (.putfield 52, 3) := by decide +kernel
theorem dX10_init_86 : decode cX10_init 86 = .ok (.return_, 1) := by decide +kernel
theorem dX10_begin_0 : decode cX10_begin 0 = .ok (.iload_n 1, 1) := by decide +kernel
theorem dX10_begin_1 : decode cX10_begin 1 = .ok (.iconst 1, 1) := by decide +kernel
theorem dX10_begin_2 : decode cX10_begin 2 = .ok (.bipush 99, 2) := by decide +kernel
theorem dX10_begin_4 : decode cX10_begin 4 = .ok (.invokestatic 56, 3) := by decide +kernel
theorem dX10_begin_7 : decode cX10_begin 7 = .ok (.ifCond .eq 17, 3) := by decide +kernel
theorem dX10_begin_10 : decode cX10_begin 10 = .ok (.iload_n 2, 1) := by decide +kernel
theorem dX10_begin_11 : decode cX10_begin 11 = .ok (.iconst 1, 1) := by decide +kernel
theorem dX10_begin_12 : decode cX10_begin 12 = .ok (.bipush 99, 2) := by decide +kernel
theorem dX10_begin_14 : decode cX10_begin 14 = .ok (.invokestatic 56, 3) := by decide +kernel
theorem dX10_begin_17 : decode cX10_begin 17 = .ok (.ifCond .eq 7, 3) := by decide +kernel
theorem dX10_begin_20 : decode cX10_begin 20 = .ok (.iconst 1, 1) := by decide +kernel
theorem dX10_begin_21 : decode cX10_begin 21 = .ok (.goto 4, 3) := by decide +kernel
theorem dX10_begin_24 : decode cX10_begin 24 = .ok (.iconst 0, 1) := by decide +kernel
theorem dX10_begin_25 : decode cX10_begin 25 = .ok (.istore 6, 2) := by decide +kernel
theorem dX10_begin_27 : decode cX10_begin 27 = .ok (.iload_n 3, 1) := by decide +kernel
theorem dX10_begin_28 : decode cX10_begin 28 = .ok (.iconst 0, 1) := by decide +kernel
theorem dX10_begin_29 : decode cX10_begin 29 = .ok (.sipush 999, 3) := by decide +kernel
theorem dX10_begin_32 : decode cX10_begin 32 = .ok (.invokestatic 56, 3) := by decide +kernel
theorem dX10_begin_35 : decode cX10_begin 35 = .ok (.ifCond .eq 30, 3) := by decide +kernel
theorem dX10_begin_38 : decode cX10_begin 38 = .ok (.iload 4, 2) := by decide +kernel
theorem dX10_begin_40 : decode cX10_begin 40 = .ok (.iconst 0, 1) := by decide +kernel
theorem dX10_begin_41 : decode cX10_begin 41 = .ok (.bipush 99, 2) := by decide +kernel
theorem dX10_begin_43 : decode cX10_begin 43 = .ok (.invokestatic 56, 3) := by decide +kernel
theorem dX10_begin_46 : decode cX10_begin 46 = .ok (.ifCond .eq 19, 3) := by decide +kernel
theorem dX10_begin_49 : decode cX10_begin 49 = .ok (.iload 5, 2) := by decide +kernel
theorem dX10_begin_51 : decode cX10_begin 51 = .ok (.iconst 1, 1) := by decide +kernel
theorem dX10_begin_52 : decode cX10_begin 52 = .ok (.sipush 199, 3) := by decide +kernel
theorem dX10_begin_55 : decode cX10_begin 55 = .ok (.invokestatic 56, 3) := by decide +kernel
theorem dX10_begin_58 : decode cX10_begin 58 = .ok (.ifCond .eq 7, 3) := by decide +kernel
theorem dX10_begin_61 : decode cX10_begin 61 = .ok (.iconst 1, 1) := by decide +kernel
theorem dX10_begin_62 : decode cX10_begin 62 = .ok (.goto 4, 3) := by decide +kernel
theorem dX10_begin_65 : decode cX10_begin 65 = .ok (.iconst 0, 1) := by decide +kernel
theorem dX10_begin_66 : decode cX10_begin 66 = .ok (.istore 7, 2) := by decide +kernel
theorem dX10_begin_68 : decode cX10_begin 68 = .ok (.iload 6, 2) := by decide +kernel
theorem dX10_begin_70 : decode cX10_begin 70 = .ok (.ifCond .eq 8, 3) := by decide +kernel
theorem dX10_begin_73 : decode cX10_begin 73 = .ok (.iload 7, 2) := by decide +kernel
theorem dX10_begin_75 : decode cX10_begin 75 = .ok (.ifCond .ne 5, 3) := by decide +kernel
theorem dX10_begin_78 : decode cX10_begin 78 = .ok (.iconst 0, 1) := by decide +kernel
theorem dX10_begin_79 : decode cX10_begin 79 = .ok (.ireturn, 1) := by decide +kernel
theorem dX10_begin_80 : decode cX10_begin 80 = .ok (.aload_n 0, 1) := by decide +kernel
theorem dX10_begin_81 : decode cX10_begin 81 = .ok (.getfield 12, 3) := by decide +kernel
theorem dX10_begin_84 : decode cX10_begin 84 = .ok (.getfield 60, 3) := by decide +kernel
theorem dX10_begin_87 : decode cX10_begin 87 = .ok (.iload_n 1, 1) := by decide +kernel
theorem dX10_begin_88 : decode cX10_begin 88 = .ok (.iload_n 2, 1) := by decide +kernel
theorem dX10_begin_89 : decode cX10_begin 89 = .ok (.iload_n 3, 1) := by decide +kernel
theorem dX10_begin_90 : decode cX10_begin 90 = .ok (.iload 4, 2) := by decide +kernel
theorem dX10_begin_92 : decode cX10_begin 92 = .ok (.iload 5, 2) := by decide +kernel
theorem dX10_begin_94 : decode cX10_begin 94 = .ok (.invokevirtual 64, 3) := by decide +kernel
theorem dX10_begin_97 : decode cX10_begin 97 = .ok (.iconst 1, 1) := by decide +kernel
theorem dX10_begin_98 : decode cX10_begin 98 = .ok (.ireturn, 1) := by decide +kernel
theorem dX10_ring_0 : decode cX10_ring 0 = .ok (.iload_n 1, 1) := by decide +kernel
theorem dX10_ring_1 : decode cX10_ring 1 = .ok (.iconst 1, 1) := by decide +kernel
theorem dX10_ring_2 : decode cX10_ring 2 = .ok (.bipush 20, 2) := by decide +kernel
theorem dX10_ring_4 : decode cX10_ring 4 = .ok (.invokestatic 56, 3) := by decide +kernel
theorem dX10_ring_7 : decode cX10_ring 7 = .ok (.ifCond .eq 29, 3) := by decide +kernel
theorem dX10_ring_10 : decode cX10_ring 10 = .ok (.iload_n 2, 1) := by decide +kernel
theorem dX10_ring_11 : decode cX10_ring 11 = .ok (.iconst 1, 1) := by decide +kernel
theorem dX10_ring_12 : decode cX10_ring 12 = .ok (.sipush 999, 3) := by decide +kernel
theorem dX10_ring_15 : decode cX10_ring 15 = .ok (.invokestatic 56, 3) := by decide +kernel
theorem dX10_ring_18 : decode cX10_ring 18 = .ok (.ifCond .eq 18, 3) := by decide +kernel
theorem dX10_ring_21 : decode cX10_ring 21 = .ok (.iload_n 3, 1) := by decide +kernel
theorem dX10_ring_22 : decode cX10_ring 22 = .ok (.iconst 1, 1) := by decide +kernel
theorem dX10_ring_23 : decode cX10_ring 23 = .ok (.sipush 999, 3) := by decide +kernel
theorem dX10_ring_26 : decode cX10_ring 26 = .ok (.invokestatic 56, 3) := by decide +kernel
theorem dX10_ring_29 : decode cX10_ring 29 = .ok (.ifCond .eq 7, 3) := by decide +kernel
theorem dX10_ring_32 : decode cX10_ring 32 = .ok (.iconst 1, 1) := by decide +kernel
theorem dX10_ring_33 : decode cX10_ring 33 = .ok (.goto 4, 3) := by decide +kernel
theorem dX10_ring_36 : decode cX10_ring 36 = .ok (.iconst 0, 1) := by decide +kernel
theorem dX10_ring_37 : decode cX10_ring 37 = .ok (.istore 9, 2) := by decide +kernel
theorem dX10_ring_39 : decode cX10_ring 39 = .ok (.iload 4, 2) := by decide +kernel
theorem dX10_ring_41 : decode cX10_ring 41 = .ok (.iconst 1, 1) := by decide +kernel
theorem dX10_ring_42 : decode cX10_ring 42 = .ok (.sipush 999, 3) := by decide +kernel
theorem dX10_ring_45 : decode cX10_ring 45 = .ok (.invokestatic 56, 3) := by decide +kernel
theorem dX10_ring_48 : decode cX10_ring 48 = .ok (.ifCond .eq 30, 3) := by decide +kernel
theorem dX10_ring_51 : decode cX10_ring 51 = .ok (.iload 5, 2) := by decide +kernel
theorem dX10_ring_53 : decode cX10_ring 53 = .ok (.bipush (-50), 2) := by decide +kernel
theorem dX10_ring_55 : decode cX10_ring 55 = .ok (.bipush 99, 2) := by decide +kernel
theorem dX10_ring_57 : decode cX10_ring 57 = .ok (.invokestatic 56, 3) := by decide +kernel
theorem dX10_ring_60 : decode cX10_ring 60 = .ok (.ifCond .eq 18, 3) := by decide +kernel
theorem dX10_ring_63 : decode cX10_ring 63 = .ok (.iload 6, 2) := by decide +kernel
theorem dX10_ring_65 : decode cX10_ring 65 = .ok (.iconst 0, 1) := by decide +kernel
theorem dX10_ring_66 : decode cX10_ring 66 = .ok (.bipush 9, 2) := by decide +kernel
theorem dX10_ring_68 : decode cX10_ring 68 = .ok (.invokestatic 56, 3) := by decide +kernel
theorem dX10_ring_71 : decode cX10_ring 71 = .ok (.ifCond .eq 7, 3) := by decide +kernel
theorem dX10_ring_74 : decode cX10_ring 74 = .ok (.iconst 1, 1) := by decide +kernel
theorem dX10_ring_75 : decode cX10_ring 75 = .ok (.goto 4, 3) := by decide +kernel
theorem dX10_ring_78 : decode cX10_ring 78 = .ok (.iconst 0, 1) := by decide +kernel
theorem dX10_ring_79 : decode cX10_ring 79 = .ok (.istore 10, 2) := by decide +kernel
theorem dX10_ring_81 : decode cX10_ring 81 = .ok (.iload 7, 2) := by decide +kernel
theorem dX10_ring_83 : decode cX10_ring 83 = .ok (.iconst 1, 1) := by decide +kernel
theorem dX10_ring_84 : decode cX10_ring 84 = .ok (.ldc 70, 2) := by decide +kernel
theorem dX10_ring_86 : decode cX10_ring 86 = .ok (.invokestatic 56, 3) := by decide +kernel
theorem dX10_ring_89 : decode cX10_ring 89 = .ok (.ifCond .eq 18, 3) := by decide +kernel
theorem dX10_ring_92 : decode cX10_ring 92 = .ok (.iload 8, 2) := by decide +kernel
theorem dX10_ring_94 : decode cX10_ring 94 = .ok (.iconst 1, 1) := by decide +kernel
theorem dX10_ring_95 : decode cX10_ring 95 = .ok (.bipush 99, 2) := by decide +kernel
theorem dX10_ring_97 : decode cX10_ring 97 = .ok (.invokestatic 56, 3) := by decide +kernel
theorem dX10_ring_100 : decode cX10_ring 100 = .ok (.ifCond .eq 7, 3) := by decide +kernel
theorem dX10_ring_103 : decode cX10_ring 103 = .ok (.iconst 1, 1) := by decide +kernel
theorem dX10_ring_104 : decode cX10_ring 104 = .ok (.goto 4, 3) := by decide +kernel
theorem dX10_ring_107 : decode cX10_ring 107 = .ok (.iconst 0, 1) := by decide +kernel
theorem dX10_ring_108 : decode cX10_ring 108 = .ok (.istore 11, 2) := by decide +kernel
theorem dX10_ring_110 : decode cX10_ring 110 = .ok (.iload 9, 2) := by decide +kernel
theorem dX10_ring_112 : decode cX10_ring 112 = .ok (.ifCond .eq 13, 3) := by decide +kernel
theorem dX10_ring_115 : decode cX10_ring 115 = .ok (.iload 10, 2) := by decide +kernel
theorem dX10_ring_117 : decode cX10_ring 117 = .ok (.ifCond .eq 8, 3) := by decide +kernel
theorem dX10_ring_120 : decode cX10_ring 120 = .ok (.iload 11, 2) := by decide +kernel
theorem dX10_ring_122 : decode cX10_ring 122 = .ok (.ifCond .ne 5, 3) := by decide +kernel
theorem dX10_ring_125 : decode cX10_ring 125 = .ok (.iconst (-1), 1) := by decide +kernel
theorem dX10_ring_126 : decode cX10_ring 126 = .ok (.ireturn, 1) := by decide +kernel
theorem dX10_ring_127 : decode cX10_ring 127 = .ok (.aload_n 0, 1) := by decide +kernel
theorem dX10_ring_128 : decode cX10_ring 128 = .ok (.getfield 12, 3) := by decide +kernel
theorem dX10_ring_131 : decode cX10_ring 131 = .ok (.getfield 60, 3) := by decide +kernel
theorem dX10_ring_134 : decode cX10_ring 134 = .ok (.invokevirtual 71, 3) := by decide +kernel
theorem dX10_ring_137 : decode cX10_ring 137 = .ok (.astore 12, 2) := by decide +kernel
theorem dX10_ring_139 : decode cX10_ring 139 = .ok (.aload 12, 2) := by decide +kernel
theorem dX10_ring_141 : decode cX10_ring 141 = .ok (.ifnonnull 5, 3) := by decide +kernel
theorem dX10_ring_144 : decode cX10_ring 144 = .ok (.iconst (-1), 1) := by decide +kernel
theorem dX10_ring_145 : decode cX10_ring 145 = .ok (.ireturn, 1) := by decide +kernel
theorem dX10_ring_146 : decode cX10_ring 146 = .ok (.aload 12, 2) := by decide +kernel
theorem dX10_ring_148 : decode cX10_ring 148 = .ok (.iload_n 1, 1) := by decide +kernel
theorem dX10_ring_149 : decode cX10_ring 149 = .ok (.iload_n 2, 1) := by decide +kernel
theorem dX10_ring_150 : decode cX10_ring 150 = .ok (.iload_n 3, 1) := by decide +kernel
theorem dX10_ring_151 : decode cX10_ring 151 = .ok (.invokevirtual 75, 3) := by decide +kernel
theorem dX10_ring_154 : decode cX10_ring 154 = .ok (.aload 12, 2) := by decide +kernel
theorem dX10_ring_156 : decode cX10_ring 156 = .ok (.iload 4, 2) := by decide +kernel
theorem dX10_ring_158 : decode cX10_ring 158 = .ok (.iload 5, 2) := by decide +kernel
theorem dX10_ring_160 : decode cX10_ring 160 = .ok (.iload 6, 2) := by decide +kernel
theorem dX10_ring_162 : decode cX10_ring 162 = .ok (.invokevirtual 81, 3) := by decide +kernel
theorem dX10_ring_165 : decode cX10_ring 165 = .ok (.aload 12, 2) := by decide +kernel
theorem dX10_ring_167 : decode cX10_ring 167 = .ok (.iload 7, 2) := by decide +kernel
theorem dX10_ring_169 : decode cX10_ring 169 = .ok (.iload 8, 2) := by decide +kernel
theorem dX10_ring_171 : decode cX10_ring 171 = .ok (.invokevirtual 84, 3) := by decide +kernel
theorem dX10_ring_174 : decode cX10_ring 174 = .ok (.aload_n 0, 1) := by decide +kernel
theorem dX10_ring_175 : decode cX10_ring 175 = .ok (.getfield 12, 3) := by decide +kernel
theorem dX10_ring_178 : decode cX10_ring 178 = .ok (.getfield 60, 3) := by decide +kernel
theorem dX10_ring_181 : decode cX10_ring 181 = .ok (.aload 12, 2) := by decide +kernel
theorem dX10_ring_183 : decode cX10_ring 183 = .ok (.invokevirtual 88, 3) := by decide +kernel
theorem dX10_ring_186 : decode cX10_ring 186 = .ok (.ireturn, 1) := by decide +kernel
theorem dX10_pour_0 : decode cX10_pour 0 = .ok (.iload_n 1, 1) := by decide +kernel
theorem dX10_pour_1 : decode cX10_pour 1 = .ok (.iconst 1, 1) := by decide +kernel
theorem dX10_pour_2 : decode cX10_pour 2 = .ok (.bipush 99, 2) := by decide +kernel
theorem dX10_pour_4 : decode cX10_pour 4 = .ok (.invokestatic 56, 3) := by decide +kernel
theorem dX10_pour_7 : decode cX10_pour 7 = .ok (.ifCond .eq 15, 3) := by decide +kernel
theorem dX10_pour_10 : decode cX10_pour 10 = .ok (.iload_n 2, 1) := by decide +kernel
theorem dX10_pour_11 : decode cX10_pour 11 = .ok (.bipush (-50), 2) := by decide +kernel
theorem dX10_pour_13 : decode cX10_pour 13 = .ok (.sipush 199, 3) := by decide +kernel
theorem dX10_pour_16 : decode cX10_pour 16 = .ok (.invokestatic 56, 3) := by decide +kernel
theorem dX10_pour_19 : decode cX10_pour 19 = .ok (.ifCond .ne 5, 3) := by decide +kernel
theorem dX10_pour_22 : decode cX10_pour 22 = .ok (.iconst (-1), 1) := by decide +kernel
theorem dX10_pour_23 : decode cX10_pour 23 = .ok (.ireturn, 1) := by decide +kernel
theorem dX10_pour_24 : decode cX10_pour 24 = .ok (.aload_n 0, 1) := by decide +kernel
theorem dX10_pour_25 : decode cX10_pour 25 = .ok (.getfield 12, 3) := by decide +kernel
theorem dX10_pour_28 : decode cX10_pour 28 = .ok (.getfield 60, 3) := by decide +kernel
theorem dX10_pour_31 : decode cX10_pour 31 = .ok (.iload_n 1, 1) := by decide +kernel
theorem dX10_pour_32 : decode cX10_pour 32 = .ok (.iload_n 2, 1) := by decide +kernel
theorem dX10_pour_33 : decode cX10_pour 33 = .ok (.invokevirtual 92, 3) := by decide +kernel
theorem dX10_pour_36 : decode cX10_pour 36 = .ok (.ireturn, 1) := by decide +kernel
theorem dX10_draw_0 : decode cX10_draw 0 = .ok (.aload_n 0, 1) := by decide +kernel
theorem dX10_draw_1 : decode cX10_draw 1 = .ok (.getfield 12, 3) := by decide +kernel
theorem dX10_draw_4 : decode cX10_draw 4 = .ok (.getfield 60, 3) := by decide +kernel
theorem dX10_draw_7 : decode cX10_draw 7 = .ok (.iload_n 1, 1) := by decide +kernel
theorem dX10_draw_8 : decode cX10_draw 8 = .ok (.invokevirtual 96, 3) := by decide +kernel
theorem dX10_draw_11 : decode cX10_draw 11 = .ok (.ireturn, 1) := by decide +kernel
theorem dX10_air_0 : decode cX10_air 0 = .ok (.iload_n 1, 1) := by decide +kernel
theorem dX10_air_1 : decode cX10_air 1 = .ok (.bipush (-50), 2) := by decide +kernel
theorem dX10_air_3 : decode cX10_air 3 = .ok (.bipush 99, 2) := by decide +kernel
theorem dX10_air_5 : decode cX10_air 5 = .ok (.invokestatic 56, 3) := by decide +kernel
theorem dX10_air_8 : decode cX10_air 8 = .ok (.ifCond .ne 7, 3) := by decide +kernel
theorem dX10_air_11 : decode cX10_air 11 = .ok (.sipush (-1000), 3) := by decide +kernel
theorem dX10_air_14 : decode cX10_air 14 = .ok (.ireturn, 1) := by decide +kernel
theorem dX10_air_15 : decode cX10_air 15 = .ok (.aload_n 0, 1) := by decide +kernel
theorem dX10_air_16 : decode cX10_air 16 = .ok (.getfield 12, 3) := by decide +kernel
theorem dX10_air_19 : decode cX10_air 19 = .ok (.getfield 60, 3) := by decide +kernel
theorem dX10_air_22 : decode cX10_air 22 = .ok (.iload_n 1, 1) := by decide +kernel
theorem dX10_air_23 : decode cX10_air 23 = .ok (.invokevirtual 100, 3) := by decide +kernel
theorem dX10_air_26 : decode cX10_air 26 = .ok (.ireturn, 1) := by decide +kernel
theorem dX10_hours_0 : decode cX10_hours 0 = .ok (.iload_n 1, 1) := by decide +kernel
theorem dX10_hours_1 : decode cX10_hours 1 = .ok (.iconst 0, 1) := by decide +kernel
theorem dX10_hours_2 : decode cX10_hours 2 = .ok (.sipush 500, 3) := by decide +kernel
theorem dX10_hours_5 : decode cX10_hours 5 = .ok (.invokestatic 56, 3) := by decide +kernel
theorem dX10_hours_8 : decode cX10_hours 8 = .ok (.ifCond .ne 5, 3) := by decide +kernel
theorem dX10_hours_11 : decode cX10_hours 11 = .ok (.iconst (-1), 1) := by decide +kernel
theorem dX10_hours_12 : decode cX10_hours 12 = .ok (.ireturn, 1) := by decide +kernel
theorem dX10_hours_13 : decode cX10_hours 13 = .ok (.aload_n 0, 1) := by decide +kernel
theorem dX10_hours_14 : decode cX10_hours 14 = .ok (.getfield 12, 3) := by decide +kernel
theorem dX10_hours_17 : decode cX10_hours 17 = .ok (.getfield 60, 3) := by decide +kernel
theorem dX10_hours_20 : decode cX10_hours 20 = .ok (.iload_n 1, 1) := by decide +kernel
theorem dX10_hours_21 : decode cX10_hours 21 = .ok (.invokevirtual 103, 3) := by decide +kernel
theorem dX10_hours_24 : decode cX10_hours 24 = .ok (.ireturn, 1) := by decide +kernel
theorem dX10_count_0 : decode cX10_count 0 = .ok (.iload_n 1, 1) := by decide +kernel
theorem dX10_count_1 : decode cX10_count 1 = .ok (.tableswitch 60 9 12 #[31, 36, 41, 52], 31) := by decide +kernel
theorem dX10_count_32 : decode cX10_count 32 = .ok (.aload_n 0, 1) := by decide +kernel
theorem dX10_count_33 : decode cX10_count 33 = .ok (.getfield 106, 3) := by decide +kernel
theorem dX10_count_36 : decode cX10_count 36 = .ok (.ireturn, 1) := by decide +kernel
theorem dX10_count_37 : decode cX10_count 37 = .ok (.aload_n 0, 1) := by decide +kernel
theorem dX10_count_38 : decode cX10_count 38 = .ok (.getfield 110, 3) := by decide +kernel
theorem dX10_count_41 : decode cX10_count 41 = .ok (.ireturn, 1) := by decide +kernel
theorem dX10_count_42 : decode cX10_count 42 = .ok (.aload_n 0, 1) := by decide +kernel
theorem dX10_count_43 : decode cX10_count 43 = .ok (.getfield 12, 3) := by decide +kernel
theorem dX10_count_46 : decode cX10_count 46 = .ok (.getfield 113, 3) := by decide +kernel
theorem dX10_count_49 : decode cX10_count 49 = .ok (.getfield 117, 3) := by decide +kernel
theorem dX10_count_52 : decode cX10_count 52 = .ok (.ireturn, 1) := by decide +kernel
theorem dX10_count_53 : decode cX10_count 53 = .ok (.aload_n 0, 1) := by decide +kernel
theorem dX10_count_54 : decode cX10_count 54 = .ok (.getfield 23, 3) := by decide +kernel
theorem dX10_count_57 : decode cX10_count 57 = .ok (.getfield 122, 3) := by decide +kernel
theorem dX10_count_60 : decode cX10_count 60 = .ok (.ireturn, 1) := by decide +kernel
theorem dX10_count_61 : decode cX10_count 61 = .ok (.aload_n 0, 1) := by decide +kernel
theorem dX10_count_62 : decode cX10_count 62 = .ok (.getfield 12, 3) := by decide +kernel
theorem dX10_count_65 : decode cX10_count 65 = .ok (.getfield 60, 3) := by decide +kernel
theorem dX10_count_68 : decode cX10_count 68 = .ok (.iload_n 1, 1) := by decide +kernel
theorem dX10_count_69 : decode cX10_count 69 = .ok (.invokevirtual 125, 3) := by decide +kernel
theorem dX10_count_72 : decode cX10_count 72 = .ok (.ireturn, 1) := by decide +kernel
theorem dX10_layer_0 : decode cX10_layer 0 = .ok (.aload_n 0, 1) := by decide +kernel
theorem dX10_layer_1 : decode cX10_layer 1 = .ok (.getfield 12, 3) := by decide +kernel
theorem dX10_layer_4 : decode cX10_layer 4 = .ok (.getfield 60, 3) := by decide +kernel
theorem dX10_layer_7 : decode cX10_layer 7 = .ok (.iload_n 1, 1) := by decide +kernel
theorem dX10_layer_8 : decode cX10_layer 8 = .ok (.iload_n 2, 1) := by decide +kernel
theorem dX10_layer_9 : decode cX10_layer 9 = .ok (.invokevirtual 128, 3) := by decide +kernel
theorem dX10_layer_12 : decode cX10_layer 12 = .ok (.ireturn, 1) := by decide +kernel
theorem dX10_told_0 : decode cX10_told 0 = .ok (.aload_n 0, 1) := by decide +kernel
theorem dX10_told_1 : decode cX10_told 1 = .ok (.getfield 12, 3) := by decide +kernel
theorem dX10_told_4 : decode cX10_told 4 = .ok (.getfield 60, 3) := by decide +kernel
theorem dX10_told_7 : decode cX10_told 7 = .ok (.iload_n 1, 1) := by decide +kernel
theorem dX10_told_8 : decode cX10_told 8 = .ok (.iload_n 2, 1) := by decide +kernel
theorem dX10_told_9 : decode cX10_told 9 = .ok (.invokevirtual 131, 3) := by decide +kernel
theorem dX10_told_12 : decode cX10_told 12 = .ok (.ireturn, 1) := by decide +kernel
theorem dX10_nearest_0 : decode cX10_nearest 0 = .ok (.aload_n 0, 1) := by decide +kernel
theorem dX10_nearest_1 : decode cX10_nearest 1 = .ok (.getfield 12, 3) := by decide +kernel
theorem dX10_nearest_4 : decode cX10_nearest 4 = .ok (.getfield 60, 3) := by decide +kernel
theorem dX10_nearest_7 : decode cX10_nearest 7 = .ok (.invokevirtual 134, 3) := by decide +kernel
theorem dX10_nearest_10 : decode cX10_nearest 10 = .ok (.ireturn, 1) := by decide +kernel
theorem dX10_feed_0 : decode cX10_feed 0 = .ok (.aload_n 0, 1) := by decide +kernel
theorem dX10_feed_1 : decode cX10_feed 1 = .ok (.getfield 23, 3) := by decide +kernel
theorem dX10_feed_4 : decode cX10_feed 4 = .ok (.invokevirtual 138, 3) := by decide +kernel
theorem dX10_feed_7 : decode cX10_feed 7 = .ok (.ifCond .ne 5, 3) := by decide +kernel
theorem dX10_feed_10 : decode cX10_feed 10 = .ok (.iconst (-1), 1) := by decide +kernel
theorem dX10_feed_11 : decode cX10_feed 11 = .ok (.ireturn, 1) := by decide +kernel
theorem dX10_feed_12 : decode cX10_feed 12 = .ok (.aload_n 0, 1) := by decide +kernel
theorem dX10_feed_13 : decode cX10_feed 13 = .ok (.getfield 23, 3) := by decide +kernel
theorem dX10_feed_16 : decode cX10_feed 16 = .ok (.iload_n 1, 1) := by decide +kernel
theorem dX10_feed_17 : decode cX10_feed 17 = .ok (.invokevirtual 142, 3) := by decide +kernel
theorem dX10_feed_20 : decode cX10_feed 20 = .ok (.aload_n 0, 1) := by decide +kernel
theorem dX10_feed_21 : decode cX10_feed 21 = .ok (.getfield 23, 3) := by decide +kernel
theorem dX10_feed_24 : decode cX10_feed 24 = .ok (.iload_n 2, 1) := by decide +kernel
theorem dX10_feed_25 : decode cX10_feed 25 = .ok (.invokevirtual 142, 3) := by decide +kernel
theorem dX10_feed_28 : decode cX10_feed 28 = .ok (.aload_n 0, 1) := by decide +kernel
theorem dX10_feed_29 : decode cX10_feed 29 = .ok (.getfield 23, 3) := by decide +kernel
theorem dX10_feed_32 : decode cX10_feed 32 = .ok (.iload_n 3, 1) := by decide +kernel
theorem dX10_feed_33 : decode cX10_feed 33 = .ok (.invokevirtual 142, 3) := by decide +kernel
theorem dX10_feed_36 : decode cX10_feed 36 = .ok (.aload_n 0, 1) := by decide +kernel
theorem dX10_feed_37 : decode cX10_feed 37 = .ok (.getfield 23, 3) := by decide +kernel
theorem dX10_feed_40 : decode cX10_feed 40 = .ok (.iload 4, 2) := by decide +kernel
theorem dX10_feed_42 : decode cX10_feed 42 = .ok (.invokevirtual 142, 3) := by decide +kernel
theorem dX10_feed_45 : decode cX10_feed 45 = .ok (.aload_n 0, 1) := by decide +kernel
theorem dX10_feed_46 : decode cX10_feed 46 = .ok (.getfield 23, 3) := by decide +kernel
theorem dX10_feed_49 : decode cX10_feed 49 = .ok (.iload 5, 2) := by decide +kernel
theorem dX10_feed_51 : decode cX10_feed 51 = .ok (.invokevirtual 142, 3) := by decide +kernel
theorem dX10_feed_54 : decode cX10_feed 54 = .ok (.aload_n 0, 1) := by decide +kernel
theorem dX10_feed_55 : decode cX10_feed 55 = .ok (.getfield 23, 3) := by decide +kernel
theorem dX10_feed_58 : decode cX10_feed 58 = .ok (.getfield 122, 3) := by decide +kernel
theorem dX10_feed_61 : decode cX10_feed 61 = .ok (.ireturn, 1) := by decide +kernel
theorem dX10_end_0 : decode cX10_end 0 = .ok (.aload_n 0, 1) := by decide +kernel
theorem dX10_end_1 : decode cX10_end 1 = .ok (.getfield 23, 3) := by decide +kernel
theorem dX10_end_4 : decode cX10_end 4 = .ok (.iload_n 1, 1) := by decide +kernel
theorem dX10_end_5 : decode cX10_end 5 = .ok (.invokevirtual 146, 3) := by decide +kernel
theorem dX10_end_8 : decode cX10_end 8 = .ok (.ifCond .eq 7, 3) := by decide +kernel
theorem dX10_end_11 : decode cX10_end 11 = .ok (.iload_n 1, 1) := by decide +kernel
theorem dX10_end_12 : decode cX10_end 12 = .ok (.goto 4, 3) := by decide +kernel
theorem dX10_end_15 : decode cX10_end 15 = .ok (.iconst (-1), 1) := by decide +kernel
theorem dX10_end_16 : decode cX10_end 16 = .ok (.ireturn, 1) := by decide +kernel
theorem dX10_story_0 : decode cX10_story 0 = .ok (.aload_n 0, 1) := by decide +kernel
theorem dX10_story_1 : decode cX10_story 1 = .ok (.getfield 106, 3) := by decide +kernel
theorem dX10_story_4 : decode cX10_story 4 = .ok (.bipush 10, 2) := by decide +kernel
theorem dX10_story_6 : decode cX10_story 6 = .ok (.if_icmp .lt 5, 3) := by decide +kernel
theorem dX10_story_9 : decode cX10_story 9 = .ok (.iconst (-1), 1) := by decide +kernel
theorem dX10_story_10 : decode cX10_story 10 = .ok (.ireturn, 1) := by decide +kernel
theorem dX10_story_11 : decode cX10_story 11 = .ok (.aload_n 0, 1) := by decide +kernel
theorem dX10_story_12 : decode cX10_story 12 = .ok (.getfield 32, 3) := by decide +kernel
theorem dX10_story_15 : decode cX10_story 15 = .ok (.iconst 0, 1) := by decide +kernel
theorem dX10_story_16 : decode cX10_story 16 = .ok (.invokevirtual 150, 3) := by decide +kernel
theorem dX10_story_19 : decode cX10_story 19 = .ok (.astore_n 1, 1) := by decide +kernel
theorem dX10_story_20 : decode cX10_story 20 = .ok (.aload_n 1, 1) := by decide +kernel
theorem dX10_story_21 : decode cX10_story 21 = .ok (.ifnonnull 14, 3) := by decide +kernel
theorem dX10_story_24 : decode cX10_story 24 = .ok (.bipush (-2), 2) := by decide +kernel
theorem dX10_story_26 : decode cX10_story 26 = .ok (.aload_n 0, 1) := by decide +kernel
theorem dX10_story_27 : decode cX10_story 27 = .ok (.getfield 32, 3) := by decide +kernel
theorem dX10_story_30 : decode cX10_story 30 = .ok (.invokevirtual 154, 3) := by decide +kernel
theorem dX10_story_33 : decode cX10_story 33 = .ok (.isub, 1) := by decide +kernel
theorem dX10_story_34 : decode cX10_story 34 = .ok (.ireturn, 1) := by decide +kernel
theorem dX10_story_35 : decode cX10_story 35 = .ok (.aload_n 0, 1) := by decide +kernel
theorem dX10_story_36 : decode cX10_story 36 = .ok (.getfield 45, 3) := by decide +kernel
theorem dX10_story_39 : decode cX10_story 39 = .ok (.aload_n 0, 1) := by decide +kernel
theorem dX10_story_40 : decode cX10_story 40 = .ok (.getfield 106, 3) := by decide +kernel
theorem dX10_story_43 : decode cX10_story 43 = .ok (.aload_n 1, 1) := by decide +kernel
theorem dX10_story_44 : decode cX10_story 44 = .ok (.aastore, 1) := by decide +kernel
theorem dX10_story_45 : decode cX10_story 45 = .ok (.aload_n 0, 1) := by decide +kernel
theorem dX10_story_46 : decode cX10_story 46 = .ok (.dup, 1) := by decide +kernel
theorem dX10_story_47 : decode cX10_story 47 = .ok (.getfield 106, 3) := by decide +kernel
theorem dX10_story_50 : decode cX10_story 50 = .ok (.iconst 1, 1) := by decide +kernel
theorem dX10_story_51 : decode cX10_story 51 = .ok (.iadd, 1) := by decide +kernel
theorem dX10_story_52 : decode cX10_story 52 = .ok (.putfield 106, 3) := by decide +kernel
theorem dX10_story_55 : decode cX10_story 55 = .ok (.aload_n 0, 1) := by decide +kernel
theorem dX10_story_56 : decode cX10_story 56 = .ok (.getfield 106, 3) := by decide +kernel
theorem dX10_story_59 : decode cX10_story 59 = .ok (.iconst 1, 1) := by decide +kernel
theorem dX10_story_60 : decode cX10_story 60 = .ok (.isub, 1) := by decide +kernel
theorem dX10_story_61 : decode cX10_story 61 = .ok (.ireturn, 1) := by decide +kernel
theorem dX10_rule_0 : decode cX10_rule 0 = .ok (.aload_n 0, 1) := by decide +kernel
theorem dX10_rule_1 : decode cX10_rule 1 = .ok (.getfield 110, 3) := by decide +kernel
theorem dX10_rule_4 : decode cX10_rule 4 = .ok (.bipush 10, 2) := by decide +kernel
theorem dX10_rule_6 : decode cX10_rule 6 = .ok (.if_icmp .lt 5, 3) := by decide +kernel
theorem dX10_rule_9 : decode cX10_rule 9 = .ok (.iconst (-1), 1) := by decide +kernel
theorem dX10_rule_10 : decode cX10_rule 10 = .ok (.ireturn, 1) := by decide +kernel
theorem dX10_rule_11 : decode cX10_rule 11 = .ok (.aload_n 0, 1) := by decide +kernel
theorem dX10_rule_12 : decode cX10_rule 12 = .ok (.getfield 32, 3) := by decide +kernel
theorem dX10_rule_15 : decode cX10_rule 15 = .ok (.iconst 1, 1) := by decide +kernel
theorem dX10_rule_16 : decode cX10_rule 16 = .ok (.invokevirtual 150, 3) := by decide +kernel
theorem dX10_rule_19 : decode cX10_rule 19 = .ok (.astore_n 1, 1) := by decide +kernel
theorem dX10_rule_20 : decode cX10_rule 20 = .ok (.aload_n 1, 1) := by decide +kernel
theorem dX10_rule_21 : decode cX10_rule 21 = .ok (.ifnonnull 14, 3) := by decide +kernel
theorem dX10_rule_24 : decode cX10_rule 24 = .ok (.bipush (-2), 2) := by decide +kernel
theorem dX10_rule_26 : decode cX10_rule 26 = .ok (.aload_n 0, 1) := by decide +kernel
theorem dX10_rule_27 : decode cX10_rule 27 = .ok (.getfield 32, 3) := by decide +kernel
theorem dX10_rule_30 : decode cX10_rule 30 = .ok (.invokevirtual 154, 3) := by decide +kernel
theorem dX10_rule_33 : decode cX10_rule 33 = .ok (.isub, 1) := by decide +kernel
theorem dX10_rule_34 : decode cX10_rule 34 = .ok (.ireturn, 1) := by decide +kernel
theorem dX10_rule_35 : decode cX10_rule 35 = .ok (.aload_n 0, 1) := by decide +kernel
theorem dX10_rule_36 : decode cX10_rule 36 = .ok (.getfield 49, 3) := by decide +kernel
theorem dX10_rule_39 : decode cX10_rule 39 = .ok (.aload_n 0, 1) := by decide +kernel
theorem dX10_rule_40 : decode cX10_rule 40 = .ok (.getfield 110, 3) := by decide +kernel
theorem dX10_rule_43 : decode cX10_rule 43 = .ok (.aload_n 1, 1) := by decide +kernel
theorem dX10_rule_44 : decode cX10_rule 44 = .ok (.aastore, 1) := by decide +kernel
theorem dX10_rule_45 : decode cX10_rule 45 = .ok (.aload_n 0, 1) := by decide +kernel
theorem dX10_rule_46 : decode cX10_rule 46 = .ok (.dup, 1) := by decide +kernel
theorem dX10_rule_47 : decode cX10_rule 47 = .ok (.getfield 110, 3) := by decide +kernel
theorem dX10_rule_50 : decode cX10_rule 50 = .ok (.iconst 1, 1) := by decide +kernel
theorem dX10_rule_51 : decode cX10_rule 51 = .ok (.iadd, 1) := by decide +kernel
theorem dX10_rule_52 : decode cX10_rule 52 = .ok (.putfield 110, 3) := by decide +kernel
theorem dX10_rule_55 : decode cX10_rule 55 = .ok (.aload_n 0, 1) := by decide +kernel
theorem dX10_rule_56 : decode cX10_rule 56 = .ok (.getfield 110, 3) := by decide +kernel
theorem dX10_rule_59 : decode cX10_rule 59 = .ok (.iconst 1, 1) := by decide +kernel
theorem dX10_rule_60 : decode cX10_rule 60 = .ok (.isub, 1) := by decide +kernel
theorem dX10_rule_61 : decode cX10_rule 61 = .ok (.ireturn, 1) := by decide +kernel
theorem dX10_fits_0 : decode cX10_fits 0 = .ok (.aload_n 0, 1) := by decide +kernel
theorem dX10_fits_1 : decode cX10_fits 1 = .ok (.iload_n 1, 1) := by decide +kernel
theorem dX10_fits_2 : decode cX10_fits 2 = .ok (.iload_n 2, 1) := by decide +kernel
theorem dX10_fits_3 : decode cX10_fits 3 = .ok (.invokevirtual 157, 3) := by decide +kernel
theorem dX10_fits_6 : decode cX10_fits 6 = .ok (.ifCond .ne 5, 3) := by decide +kernel
theorem dX10_fits_9 : decode cX10_fits 9 = .ok (.iconst (-1), 1) := by decide +kernel
theorem dX10_fits_10 : decode cX10_fits 10 = .ok (.ireturn, 1) := by decide +kernel
theorem dX10_fits_11 : decode cX10_fits 11 = .ok (.aload_n 0, 1) := by decide +kernel
theorem dX10_fits_12 : decode cX10_fits 12 = .ok (.getfield 39, 3) := by decide +kernel
theorem dX10_fits_15 : decode cX10_fits 15 = .ok (.aload_n 0, 1) := by decide +kernel
theorem dX10_fits_16 : decode cX10_fits 16 = .ok (.getfield 12, 3) := by decide +kernel
theorem dX10_fits_19 : decode cX10_fits 19 = .ok (.getfield 60, 3) := by decide +kernel
theorem dX10_fits_22 : decode cX10_fits 22 = .ok (.iload_n 2, 1) := by decide +kernel
theorem dX10_fits_23 : decode cX10_fits 23 = .ok (.invokevirtual 161, 3) := by decide +kernel
theorem dX10_fits_26 : decode cX10_fits 26 = .ok (.aload_n 0, 1) := by decide +kernel
theorem dX10_fits_27 : decode cX10_fits 27 = .ok (.getfield 39, 3) := by decide +kernel
theorem dX10_fits_30 : decode cX10_fits 30 = .ok (.aload_n 0, 1) := by decide +kernel
theorem dX10_fits_31 : decode cX10_fits 31 = .ok (.getfield 45, 3) := by decide +kernel
theorem dX10_fits_34 : decode cX10_fits 34 = .ok (.iload_n 1, 1) := by decide +kernel
theorem dX10_fits_35 : decode cX10_fits 35 = .ok (.aaload, 1) := by decide +kernel
theorem dX10_fits_36 : decode cX10_fits 36 = .ok (.invokevirtual 165, 3) := by decide +kernel
theorem dX10_fits_39 : decode cX10_fits 39 = .ok (.ifCond .eq 7, 3) := by decide +kernel
theorem dX10_fits_42 : decode cX10_fits 42 = .ok (.iconst 1, 1) := by decide +kernel
theorem dX10_fits_43 : decode cX10_fits 43 = .ok (.goto 4, 3) := by decide +kernel
theorem dX10_fits_46 : decode cX10_fits 46 = .ok (.iconst 0, 1) := by decide +kernel
theorem dX10_fits_47 : decode cX10_fits 47 = .ok (.ireturn, 1) := by decide +kernel
theorem dX10_trace_0 : decode cX10_trace 0 = .ok (.iload_n 1, 1) := by decide +kernel
theorem dX10_trace_1 : decode cX10_trace 1 = .ok (.iconst 0, 1) := by decide +kernel
theorem dX10_trace_2 : decode cX10_trace 2 = .ok (.bipush 15, 2) := by decide +kernel
theorem dX10_trace_4 : decode cX10_trace 4 = .ok (.invokestatic 56, 3) := by decide +kernel
theorem dX10_trace_7 : decode cX10_trace 7 = .ok (.ifCond .eq 12, 3) := by decide +kernel
theorem dX10_trace_10 : decode cX10_trace 10 = .ok (.iload_n 2, 1) := by decide +kernel
theorem dX10_trace_11 : decode cX10_trace 11 = .ok (.iconst (-1), 1) := by decide +kernel
theorem dX10_trace_12 : decode cX10_trace 12 = .ok (.iconst 1, 1) := by decide +kernel
theorem dX10_trace_13 : decode cX10_trace 13 = .ok (.invokestatic 56, 3) := by decide +kernel
theorem dX10_trace_16 : decode cX10_trace 16 = .ok (.ifCond .ne 6, 3) := by decide +kernel
theorem dX10_trace_19 : decode cX10_trace 19 = .ok (.bipush (-2), 2) := by decide +kernel
theorem dX10_trace_21 : decode cX10_trace 21 = .ok (.ireturn, 1) := by decide +kernel
theorem dX10_trace_22 : decode cX10_trace 22 = .ok (.aload_n 0, 1) := by decide +kernel
theorem dX10_trace_23 : decode cX10_trace 23 = .ok (.getfield 12, 3) := by decide +kernel
theorem dX10_trace_26 : decode cX10_trace 26 = .ok (.getfield 169, 3) := by decide +kernel
theorem dX10_trace_29 : decode cX10_trace 29 = .ok (.iload_n 1, 1) := by decide +kernel
theorem dX10_trace_30 : decode cX10_trace 30 = .ok (.iaload, 1) := by decide +kernel
theorem dX10_trace_31 : decode cX10_trace 31 = .ok (.istore_n 3, 1) := by decide +kernel
theorem dX10_trace_32 : decode cX10_trace 32 = .ok (.aload_n 0, 1) := by decide +kernel
theorem dX10_trace_33 : decode cX10_trace 33 = .ok (.getfield 12, 3) := by decide +kernel
theorem dX10_trace_36 : decode cX10_trace 36 = .ok (.getfield 169, 3) := by decide +kernel
theorem dX10_trace_39 : decode cX10_trace 39 = .ok (.iload_n 1, 1) := by decide +kernel
theorem dX10_trace_40 : decode cX10_trace 40 = .ok (.iload_n 2, 1) := by decide +kernel
theorem dX10_trace_41 : decode cX10_trace 41 = .ok (.iastore, 1) := by decide +kernel
theorem dX10_trace_42 : decode cX10_trace 42 = .ok (.iload_n 3, 1) := by decide +kernel
theorem dX10_trace_43 : decode cX10_trace 43 = .ok (.ireturn, 1) := by decide +kernel
theorem dX10_chance_0 : decode cX10_chance 0 = .ok (.aload_n 0, 1) := by decide +kernel
theorem dX10_chance_1 : decode cX10_chance 1 = .ok (.iload_n 1, 1) := by decide +kernel
theorem dX10_chance_2 : decode cX10_chance 2 = .ok (.iload_n 2, 1) := by decide +kernel
theorem dX10_chance_3 : decode cX10_chance 3 = .ok (.invokevirtual 157, 3) := by decide +kernel
theorem dX10_chance_6 : decode cX10_chance 6 = .ok (.ifCond .eq 13, 3) := by decide +kernel
theorem dX10_chance_9 : decode cX10_chance 9 = .ok (.iload_n 3, 1) := by decide +kernel
theorem dX10_chance_10 : decode cX10_chance 10 = .ok (.iconst 0, 1) := by decide +kernel
theorem dX10_chance_11 : decode cX10_chance 11 = .ok (.bipush 15, 2) := by decide +kernel
theorem dX10_chance_13 : decode cX10_chance 13 = .ok (.invokestatic 56, 3) := by decide +kernel
theorem dX10_chance_16 : decode cX10_chance 16 = .ok (.ifCond .ne 5, 3) := by decide +kernel
theorem dX10_chance_19 : decode cX10_chance 19 = .ok (.iconst (-1), 1) := by decide +kernel
theorem dX10_chance_20 : decode cX10_chance 20 = .ok (.ireturn, 1) := by decide +kernel
theorem dX10_chance_21 : decode cX10_chance 21 = .ok (.aload_n 0, 1) := by decide +kernel
theorem dX10_chance_22 : decode cX10_chance 22 = .ok (.getfield 39, 3) := by decide +kernel
theorem dX10_chance_25 : decode cX10_chance 25 = .ok (.aload_n 0, 1) := by decide +kernel
theorem dX10_chance_26 : decode cX10_chance 26 = .ok (.getfield 12, 3) := by decide +kernel
theorem dX10_chance_29 : decode cX10_chance 29 = .ok (.getfield 60, 3) := by decide +kernel
theorem dX10_chance_32 : decode cX10_chance 32 = .ok (.iload_n 2, 1) := by decide +kernel
theorem dX10_chance_33 : decode cX10_chance 33 = .ok (.invokevirtual 161, 3) := by decide +kernel
theorem dX10_chance_36 : decode cX10_chance 36 = .ok (.aload_n 0, 1) := by decide +kernel
theorem dX10_chance_37 : decode cX10_chance 37 = .ok (.getfield 39, 3) := by decide +kernel
theorem dX10_chance_40 : decode cX10_chance 40 = .ok (.aload_n 0, 1) := by decide +kernel
theorem dX10_chance_41 : decode cX10_chance 41 = .ok (.getfield 45, 3) := by decide +kernel
theorem dX10_chance_44 : decode cX10_chance 44 = .ok (.iload_n 1, 1) := by decide +kernel
theorem dX10_chance_45 : decode cX10_chance 45 = .ok (.aaload, 1) := by decide +kernel
theorem dX10_chance_46 : decode cX10_chance 46 = .ok (.iload_n 3, 1) := by decide +kernel
theorem dX10_chance_47 : decode cX10_chance 47 = .ok (.invokevirtual 172, 3) := by decide +kernel
theorem dX10_chance_50 : decode cX10_chance 50 = .ok (.ireturn, 1) := by decide +kernel
theorem dX10_weight_0 : decode cX10_weight 0 = .ok (.aload_n 0, 1) := by decide +kernel
theorem dX10_weight_1 : decode cX10_weight 1 = .ok (.iload_n 1, 1) := by decide +kernel
theorem dX10_weight_2 : decode cX10_weight 2 = .ok (.iload_n 2, 1) := by decide +kernel
theorem dX10_weight_3 : decode cX10_weight 3 = .ok (.invokevirtual 157, 3) := by decide +kernel
theorem dX10_weight_6 : decode cX10_weight 6 = .ok (.ifCond .ne 7, 3) := by decide +kernel
theorem dX10_weight_9 : decode cX10_weight 9 = .ok (.ldc2_w 176, 3) := by decide +kernel
theorem dX10_weight_12 : decode cX10_weight 12 = .ok (.lreturn, 1) := by decide +kernel
theorem dX10_weight_13 : decode cX10_weight 13 = .ok (.aload_n 0, 1) := by decide +kernel
theorem dX10_weight_14 : decode cX10_weight 14 = .ok (.getfield 39, 3) := by decide +kernel
theorem dX10_weight_17 : decode cX10_weight 17 = .ok (.aload_n 0, 1) := by decide +kernel
theorem dX10_weight_18 : decode cX10_weight 18 = .ok (.getfield 12, 3) := by decide +kernel
theorem dX10_weight_21 : decode cX10_weight 21 = .ok (.getfield 60, 3) := by decide +kernel
theorem dX10_weight_24 : decode cX10_weight 24 = .ok (.iload_n 2, 1) := by decide +kernel
theorem dX10_weight_25 : decode cX10_weight 25 = .ok (.invokevirtual 161, 3) := by decide +kernel
theorem dX10_weight_28 : decode cX10_weight 28 = .ok (.aload_n 0, 1) := by decide +kernel
theorem dX10_weight_29 : decode cX10_weight 29 = .ok (.getfield 39, 3) := by decide +kernel
theorem dX10_weight_32 : decode cX10_weight 32 = .ok (.aload_n 0, 1) := by decide +kernel
theorem dX10_weight_33 : decode cX10_weight 33 = .ok (.getfield 45, 3) := by decide +kernel
theorem dX10_weight_36 : decode cX10_weight 36 = .ok (.iload_n 1, 1) := by decide +kernel
theorem dX10_weight_37 : decode cX10_weight 37 = .ok (.aaload, 1) := by decide +kernel
theorem dX10_weight_38 : decode cX10_weight 38 = .ok (.aload_n 0, 1) := by decide +kernel
theorem dX10_weight_39 : decode cX10_weight 39 = .ok (.getfield 12, 3) := by decide +kernel
theorem dX10_weight_42 : decode cX10_weight 42 = .ok (.getfield 169, 3) := by decide +kernel
theorem dX10_weight_45 : decode cX10_weight 45 = .ok (.invokevirtual 178, 3) := by decide +kernel
theorem dX10_weight_48 : decode cX10_weight 48 = .ok (.lreturn, 1) := by decide +kernel
theorem dX10_odds_0 : decode cX10_odds 0 = .ok (.aload_n 0, 1) := by decide +kernel
theorem dX10_odds_1 : decode cX10_odds 1 = .ok (.iload_n 1, 1) := by decide +kernel
theorem dX10_odds_2 : decode cX10_odds 2 = .ok (.iload_n 2, 1) := by decide +kernel
theorem dX10_odds_3 : decode cX10_odds 3 = .ok (.invokevirtual 157, 3) := by decide +kernel
theorem dX10_odds_6 : decode cX10_odds 6 = .ok (.ifCond .ne 5, 3) := by decide +kernel
theorem dX10_odds_9 : decode cX10_odds 9 = .ok (.iconst (-1), 1) := by decide +kernel
theorem dX10_odds_10 : decode cX10_odds 10 = .ok (.ireturn, 1) := by decide +kernel
theorem dX10_odds_11 : decode cX10_odds 11 = .ok (.aload_n 0, 1) := by decide +kernel
theorem dX10_odds_12 : decode cX10_odds 12 = .ok (.getfield 39, 3) := by decide +kernel
theorem dX10_odds_15 : decode cX10_odds 15 = .ok (.aload_n 0, 1) := by decide +kernel
theorem dX10_odds_16 : decode cX10_odds 16 = .ok (.getfield 12, 3) := by decide +kernel
theorem dX10_odds_19 : decode cX10_odds 19 = .ok (.getfield 60, 3) := by decide +kernel
theorem dX10_odds_22 : decode cX10_odds 22 = .ok (.iload_n 2, 1) := by decide +kernel
theorem dX10_odds_23 : decode cX10_odds 23 = .ok (.invokevirtual 161, 3) := by decide +kernel
theorem dX10_odds_26 : decode cX10_odds 26 = .ok (.lconst 0, 1) := by decide +kernel
theorem dX10_odds_27 : decode cX10_odds 27 = .ok (.lstore_n 3, 1) := by decide +kernel
theorem dX10_odds_28 : decode cX10_odds 28 = .ok (.iconst 0, 1) := by decide +kernel
theorem dX10_odds_29 : decode cX10_odds 29 = .ok (.istore 5, 2) := by decide +kernel
theorem dX10_odds_31 : decode cX10_odds 31 = .ok (.iload 5, 2) := by decide +kernel
theorem dX10_odds_33 : decode cX10_odds 33 = .ok (.aload_n 0, 1) := by decide +kernel
theorem dX10_odds_34 : decode cX10_odds 34 = .ok (.getfield 106, 3) := by decide +kernel
theorem dX10_odds_37 : decode cX10_odds 37 = .ok (.if_icmp .ge 33, 3) := by decide +kernel
theorem dX10_odds_40 : decode cX10_odds 40 = .ok (.lload_n 3, 1) := by decide +kernel
theorem dX10_odds_41 : decode cX10_odds 41 = .ok (.aload_n 0, 1) := by decide +kernel
theorem dX10_odds_42 : decode cX10_odds 42 = .ok (.getfield 39, 3) := by decide +kernel
theorem dX10_odds_45 : decode cX10_odds 45 = .ok (.aload_n 0, 1) := by decide +kernel
theorem dX10_odds_46 : decode cX10_odds 46 = .ok (.getfield 45, 3) := by decide +kernel
theorem dX10_odds_49 : decode cX10_odds 49 = .ok (.iload 5, 2) := by decide +kernel
theorem dX10_odds_51 : decode cX10_odds 51 = .ok (.aaload, 1) := by decide +kernel
theorem dX10_odds_52 : decode cX10_odds 52 = .ok (.aload_n 0, 1) := by decide +kernel
theorem dX10_odds_53 : decode cX10_odds 53 = .ok (.getfield 12, 3) := by decide +kernel
theorem dX10_odds_56 : decode cX10_odds 56 = .ok (.getfield 169, 3) := by decide +kernel
theorem dX10_odds_59 : decode cX10_odds 59 = .ok (.invokevirtual 178, 3) := by decide +kernel
theorem dX10_odds_62 : decode cX10_odds 62 = .ok (.ladd, 1) := by decide +kernel
theorem dX10_odds_63 : decode cX10_odds 63 = .ok (.lstore_n 3, 1) := by decide +kernel
theorem dX10_odds_64 : decode cX10_odds 64 = .ok (.iinc 5 1, 3) := by decide +kernel
theorem dX10_odds_67 : decode cX10_odds 67 = .ok (.goto (-36), 3) := by decide +kernel
theorem dX10_odds_70 : decode cX10_odds 70 = .ok (.lload_n 3, 1) := by decide +kernel
theorem dX10_odds_71 : decode cX10_odds 71 = .ok (.lconst 0, 1) := by decide +kernel
theorem dX10_odds_72 : decode cX10_odds 72 = .ok (.lcmp, 1) := by decide +kernel
theorem dX10_odds_73 : decode cX10_odds 73 = .ok (.ifCond .ne 6, 3) := by decide +kernel
theorem dX10_odds_76 : decode cX10_odds 76 = .ok (.bipush (-2), 2) := by decide +kernel
theorem dX10_odds_78 : decode cX10_odds 78 = .ok (.ireturn, 1) := by decide +kernel
theorem dX10_odds_79 : decode cX10_odds 79 = .ok (.aload_n 0, 1) := by decide +kernel
theorem dX10_odds_80 : decode cX10_odds 80 = .ok (.getfield 39, 3) := by decide +kernel
theorem dX10_odds_83 : decode cX10_odds 83 = .ok (.aload_n 0, 1) := by decide +kernel
theorem dX10_odds_84 : decode cX10_odds 84 = .ok (.getfield 45, 3) := by decide +kernel
theorem dX10_odds_87 : decode cX10_odds 87 = .ok (.iload_n 1, 1) := by decide +kernel
theorem dX10_odds_88 : decode cX10_odds 88 = .ok (.aaload, 1) := by decide +kernel
theorem dX10_odds_89 : decode cX10_odds 89 = .ok (.aload_n 0, 1) := by decide +kernel
theorem dX10_odds_90 : decode cX10_odds 90 = .ok (.getfield 12, 3) := by decide +kernel
theorem dX10_odds_93 : decode cX10_odds 93 = .ok (.getfield 169, 3) := by decide +kernel
theorem dX10_odds_96 : decode cX10_odds 96 = .ok (.invokevirtual 178, 3) := by decide +kernel
theorem dX10_odds_99 : decode cX10_odds 99 = .ok (.ldc2_w 182, 3) := by decide +kernel
theorem dX10_odds_102 : decode cX10_odds 102 = .ok (.lmul, 1) := by decide +kernel
theorem dX10_odds_103 : decode cX10_odds 103 = .ok (.lload_n 3, 1) := by decide +kernel
theorem dX10_odds_104 : decode cX10_odds 104 = .ok (.ldiv, 1) := by decide +kernel
theorem dX10_odds_105 : decode cX10_odds 105 = .ok (.l2i, 1) := by decide +kernel
theorem dX10_odds_106 : decode cX10_odds 106 = .ok (.ireturn, 1) := by decide +kernel
theorem dX10_made_0 : decode cX10_made 0 = .ok (.aload_n 0, 1) := by decide +kernel
theorem dX10_made_1 : decode cX10_made 1 = .ok (.iload_n 1, 1) := by decide +kernel
theorem dX10_made_2 : decode cX10_made 2 = .ok (.iload_n 2, 1) := by decide +kernel
theorem dX10_made_3 : decode cX10_made 3 = .ok (.invokevirtual 157, 3) := by decide +kernel
theorem dX10_made_6 : decode cX10_made 6 = .ok (.ifCond .eq 19, 3) := by decide +kernel
theorem dX10_made_9 : decode cX10_made 9 = .ok (.iload_n 3, 1) := by decide +kernel
theorem dX10_made_10 : decode cX10_made 10 = .ok (.ifCond .lt 15, 3) := by decide +kernel
theorem dX10_made_13 : decode cX10_made 13 = .ok (.iload 4, 2) := by decide +kernel
theorem dX10_made_15 : decode cX10_made 15 = .ok (.iconst 1, 1) := by decide +kernel
theorem dX10_made_16 : decode cX10_made 16 = .ok (.sipush 200, 3) := by decide +kernel
theorem dX10_made_19 : decode cX10_made 19 = .ok (.invokestatic 56, 3) := by decide +kernel
theorem dX10_made_22 : decode cX10_made 22 = .ok (.ifCond .ne 5, 3) := by decide +kernel
theorem dX10_made_25 : decode cX10_made 25 = .ok (.iconst (-1), 1) := by decide +kernel
theorem dX10_made_26 : decode cX10_made 26 = .ok (.ireturn, 1) := by decide +kernel
theorem dX10_made_27 : decode cX10_made 27 = .ok (.aload_n 0, 1) := by decide +kernel
theorem dX10_made_28 : decode cX10_made 28 = .ok (.getfield 39, 3) := by decide +kernel
theorem dX10_made_31 : decode cX10_made 31 = .ok (.aload_n 0, 1) := by decide +kernel
theorem dX10_made_32 : decode cX10_made 32 = .ok (.getfield 12, 3) := by decide +kernel
theorem dX10_made_35 : decode cX10_made 35 = .ok (.getfield 60, 3) := by decide +kernel
theorem dX10_made_38 : decode cX10_made 38 = .ok (.iload_n 2, 1) := by decide +kernel
theorem dX10_made_39 : decode cX10_made 39 = .ok (.invokevirtual 161, 3) := by decide +kernel
theorem dX10_made_42 : decode cX10_made 42 = .ok (.iconst 0, 1) := by decide +kernel
theorem dX10_made_43 : decode cX10_made 43 = .ok (.istore 5, 2) := by decide +kernel
theorem dX10_made_45 : decode cX10_made 45 = .ok (.iload 5, 2) := by decide +kernel
theorem dX10_made_47 : decode cX10_made 47 = .ok (.bipush 16, 2) := by decide +kernel
theorem dX10_made_49 : decode cX10_made 49 = .ok (.if_icmp .ge 31, 3) := by decide +kernel
theorem dX10_made_52 : decode cX10_made 52 = .ok (.aload_n 0, 1) := by decide +kernel
theorem dX10_made_53 : decode cX10_made 53 = .ok (.getfield 52, 3) := by decide +kernel
theorem dX10_made_56 : decode cX10_made 56 = .ok (.iload 5, 2) := by decide +kernel
theorem dX10_made_58 : decode cX10_made 58 = .ok (.aload_n 0, 1) := by decide +kernel
theorem dX10_made_59 : decode cX10_made 59 = .ok (.getfield 39, 3) := by decide +kernel
theorem dX10_made_62 : decode cX10_made 62 = .ok (.aload_n 0, 1) := by decide +kernel
theorem dX10_made_63 : decode cX10_made 63 = .ok (.getfield 45, 3) := by decide +kernel
theorem dX10_made_66 : decode cX10_made 66 = .ok (.iload_n 1, 1) := by decide +kernel
theorem dX10_made_67 : decode cX10_made 67 = .ok (.aaload, 1) := by decide +kernel
theorem dX10_made_68 : decode cX10_made 68 = .ok (.iload 5, 2) := by decide +kernel
theorem dX10_made_70 : decode cX10_made 70 = .ok (.invokevirtual 172, 3) := by decide +kernel
theorem dX10_made_73 : decode cX10_made 73 = .ok (.iastore, 1) := by decide +kernel
theorem dX10_made_74 : decode cX10_made 74 = .ok (.iinc 5 1, 3) := by decide +kernel
theorem dX10_made_77 : decode cX10_made 77 = .ok (.goto (-32), 3) := by decide +kernel
theorem dX10_made_80 : decode cX10_made 80 = .ok (.aload_n 0, 1) := by decide +kernel
theorem dX10_made_81 : decode cX10_made 81 = .ok (.iload_n 3, 1) := by decide +kernel
theorem dX10_made_82 : decode cX10_made 82 = .ok (.iload 4, 2) := by decide +kernel
theorem dX10_made_84 : decode cX10_made 84 = .ok (.invokevirtual 184, 3) := by decide +kernel
theorem dX10_made_87 : decode cX10_made 87 = .ok (.ireturn, 1) := by decide +kernel
theorem dX10_span_0 : decode cX10_span 0 = .ok (.iload_n 2, 1) := by decide +kernel
theorem dX10_span_1 : decode cX10_span 1 = .ok (.ifCond .ne 16, 3) := by decide +kernel
theorem dX10_span_4 : decode cX10_span 4 = .ok (.aload_n 0, 1) := by decide +kernel
theorem dX10_span_5 : decode cX10_span 5 = .ok (.getfield 12, 3) := by decide +kernel
theorem dX10_span_8 : decode cX10_span 8 = .ok (.getfield 60, 3) := by decide +kernel
theorem dX10_span_11 : decode cX10_span 11 = .ok (.iload_n 1, 1) := by decide +kernel
theorem dX10_span_12 : decode cX10_span 12 = .ok (.iconst 4, 1) := by decide +kernel
theorem dX10_span_13 : decode cX10_span 13 = .ok (.invokevirtual 131, 3) := by decide +kernel
theorem dX10_span_16 : decode cX10_span 16 = .ok (.ireturn, 1) := by decide +kernel
theorem dX10_span_17 : decode cX10_span 17 = .ok (.iload_n 2, 1) := by decide +kernel
theorem dX10_span_18 : decode cX10_span 18 = .ok (.iconst 1, 1) := by decide +kernel
theorem dX10_span_19 : decode cX10_span 19 = .ok (.if_icmp .ne 18, 3) := by decide +kernel
theorem dX10_span_22 : decode cX10_span 22 = .ok (.aload_n 0, 1) := by decide +kernel
theorem dX10_span_23 : decode cX10_span 23 = .ok (.getfield 12, 3) := by decide +kernel
theorem dX10_span_26 : decode cX10_span 26 = .ok (.getfield 60, 3) := by decide +kernel
theorem dX10_span_29 : decode cX10_span 29 = .ok (.iload_n 1, 1) := by decide +kernel
theorem dX10_span_30 : decode cX10_span 30 = .ok (.iconst 5, 1) := by decide +kernel
theorem dX10_span_31 : decode cX10_span 31 = .ok (.invokevirtual 131, 3) := by decide +kernel
theorem dX10_span_34 : decode cX10_span 34 = .ok (.goto 6, 3) := by decide +kernel
theorem dX10_span_37 : decode cX10_span 37 = .ok (.sipush (-1000), 3) := by decide +kernel
theorem dX10_span_40 : decode cX10_span 40 = .ok (.ireturn, 1) := by decide +kernel
theorem dX10_trial_0 : decode cX10_trial 0 = .ok (.iload_n 1, 1) := by decide +kernel
theorem dX10_trial_1 : decode cX10_trial 1 = .ok (.ifCond .lt 27, 3) := by decide +kernel
theorem dX10_trial_4 : decode cX10_trial 4 = .ok (.iload_n 1, 1) := by decide +kernel
theorem dX10_trial_5 : decode cX10_trial 5 = .ok (.aload_n 0, 1) := by decide +kernel
theorem dX10_trial_6 : decode cX10_trial 6 = .ok (.getfield 12, 3) := by decide +kernel
theorem dX10_trial_9 : decode cX10_trial 9 = .ok (.getfield 60, 3) := by decide +kernel
theorem dX10_trial_12 : decode cX10_trial 12 = .ok (.getfield 187, 3) := by decide +kernel
theorem dX10_trial_15 : decode cX10_trial 15 = .ok (.if_icmp .gt 13, 3) := by decide +kernel
theorem dX10_trial_18 : decode cX10_trial 18 = .ok (.iload_n 2, 1) := by decide +kernel
theorem dX10_trial_19 : decode cX10_trial 19 = .ok (.iconst 1, 1) := by decide +kernel
theorem dX10_trial_20 : decode cX10_trial 20 = .ok (.bipush 99, 2) := by decide +kernel
theorem dX10_trial_22 : decode cX10_trial 22 = .ok (.invokestatic 56, 3) := by decide +kernel
theorem dX10_trial_25 : decode cX10_trial 25 = .ok (.ifCond .ne 5, 3) := by decide +kernel
theorem dX10_trial_28 : decode cX10_trial 28 = .ok (.iconst (-1), 1) := by decide +kernel
theorem dX10_trial_29 : decode cX10_trial 29 = .ok (.ireturn, 1) := by decide +kernel
theorem dX10_trial_30 : decode cX10_trial 30 = .ok (.aload_n 0, 1) := by decide +kernel
theorem dX10_trial_31 : decode cX10_trial 31 = .ok (.getfield 12, 3) := by decide +kernel
theorem dX10_trial_34 : decode cX10_trial 34 = .ok (.getfield 60, 3) := by decide +kernel
theorem dX10_trial_37 : decode cX10_trial 37 = .ok (.iload_n 1, 1) := by decide +kernel
theorem dX10_trial_38 : decode cX10_trial 38 = .ok (.iload_n 2, 1) := by decide +kernel
theorem dX10_trial_39 : decode cX10_trial 39 = .ok (.invokevirtual 190, 3) := by decide +kernel
theorem dX10_trial_42 : decode cX10_trial 42 = .ok (.ireturn, 1) := by decide +kernel
theorem dX10_needed_0 : decode cX10_needed 0 = .ok (.iload_n 2, 1) := by decide +kernel
theorem dX10_needed_1 : decode cX10_needed 1 = .ok (.iconst 1, 1) := by decide +kernel
theorem dX10_needed_2 : decode cX10_needed 2 = .ok (.bipush 99, 2) := by decide +kernel
theorem dX10_needed_4 : decode cX10_needed 4 = .ok (.invokestatic 56, 3) := by decide +kernel
theorem dX10_needed_7 : decode cX10_needed 7 = .ok (.ifCond .ne 5, 3) := by decide +kernel
theorem dX10_needed_10 : decode cX10_needed 10 = .ok (.iconst (-1), 1) := by decide +kernel
theorem dX10_needed_11 : decode cX10_needed 11 = .ok (.ireturn, 1) := by decide +kernel
theorem dX10_needed_12 : decode cX10_needed 12 = .ok (.aload_n 0, 1) := by decide +kernel
theorem dX10_needed_13 : decode cX10_needed 13 = .ok (.getfield 12, 3) := by decide +kernel
theorem dX10_needed_16 : decode cX10_needed 16 = .ok (.getfield 60, 3) := by decide +kernel
theorem dX10_needed_19 : decode cX10_needed 19 = .ok (.iload_n 1, 1) := by decide +kernel
theorem dX10_needed_20 : decode cX10_needed 20 = .ok (.iload_n 2, 1) := by decide +kernel
theorem dX10_needed_21 : decode cX10_needed 21 = .ok (.invokevirtual 193, 3) := by decide +kernel
theorem dX10_needed_24 : decode cX10_needed 24 = .ok (.ireturn, 1) := by decide +kernel
theorem dX10_more_0 : decode cX10_more 0 = .ok (.aload_n 0, 1) := by decide +kernel
theorem dX10_more_1 : decode cX10_more 1 = .ok (.getfield 12, 3) := by decide +kernel
theorem dX10_more_4 : decode cX10_more 4 = .ok (.getfield 60, 3) := by decide +kernel
theorem dX10_more_7 : decode cX10_more 7 = .ok (.invokevirtual 196, 3) := by decide +kernel
theorem dX10_more_10 : decode cX10_more 10 = .ok (.ireturn, 1) := by decide +kernel
theorem dX10_thicker_0 : decode cX10_thicker 0 = .ok (.aload_n 0, 1) := by decide +kernel
theorem dX10_thicker_1 : decode cX10_thicker 1 = .ok (.getfield 12, 3) := by decide +kernel
theorem dX10_thicker_4 : decode cX10_thicker 4 = .ok (.getfield 60, 3) := by decide +kernel
theorem dX10_thicker_7 : decode cX10_thicker 7 = .ok (.iload_n 1, 1) := by decide +kernel
theorem dX10_thicker_8 : decode cX10_thicker 8 = .ok (.invokevirtual 199, 3) := by decide +kernel
theorem dX10_thicker_11 : decode cX10_thicker 11 = .ok (.ireturn, 1) := by decide +kernel
theorem dX10_look_0 : decode cX10_look 0 = .ok (.iload_n 1, 1) := by decide +kernel
theorem dX10_look_1 : decode cX10_look 1 = .ok (.iconst 0, 1) := by decide +kernel
theorem dX10_look_2 : decode cX10_look 2 = .ok (.bipush 9, 2) := by decide +kernel
theorem dX10_look_4 : decode cX10_look 4 = .ok (.invokestatic 56, 3) := by decide +kernel
theorem dX10_look_7 : decode cX10_look 7 = .ok (.ifCond .eq 17, 3) := by decide +kernel
theorem dX10_look_10 : decode cX10_look 10 = .ok (.aload_n 0, 1) := by decide +kernel
theorem dX10_look_11 : decode cX10_look 11 = .ok (.getfield 12, 3) := by decide +kernel
theorem dX10_look_14 : decode cX10_look 14 = .ok (.getfield 60, 3) := by decide +kernel
theorem dX10_look_17 : decode cX10_look 17 = .ok (.iload_n 2, 1) := by decide +kernel
theorem dX10_look_18 : decode cX10_look 18 = .ok (.invokevirtual 202, 3) := by decide +kernel
theorem dX10_look_21 : decode cX10_look 21 = .ok (.ifCond .ne 5, 3) := by decide +kernel
theorem dX10_look_24 : decode cX10_look 24 = .ok (.iconst 0, 1) := by decide +kernel
theorem dX10_look_25 : decode cX10_look 25 = .ok (.ireturn, 1) := by decide +kernel
theorem dX10_look_26 : decode cX10_look 26 = .ok (.aload_n 0, 1) := by decide +kernel
theorem dX10_look_27 : decode cX10_look 27 = .ok (.getfield 12, 3) := by decide +kernel
theorem dX10_look_30 : decode cX10_look 30 = .ok (.getfield 205, 3) := by decide +kernel
theorem dX10_look_33 : decode cX10_look 33 = .ok (.iload_n 1, 1) := by decide +kernel
theorem dX10_look_34 : decode cX10_look 34 = .ok (.aload_n 0, 1) := by decide +kernel
theorem dX10_look_35 : decode cX10_look 35 = .ok (.getfield 12, 3) := by decide +kernel
theorem dX10_look_38 : decode cX10_look 38 = .ok (.getfield 205, 3) := by decide +kernel
theorem dX10_look_41 : decode cX10_look 41 = .ok (.iload_n 1, 1) := by decide +kernel
theorem dX10_look_42 : decode cX10_look 42 = .ok (.iaload, 1) := by decide +kernel
theorem dX10_look_43 : decode cX10_look 43 = .ok (.iload_n 2, 1) := by decide +kernel
theorem dX10_look_44 : decode cX10_look 44 = .ok (.invokestatic 208, 3) := by decide +kernel
theorem dX10_look_47 : decode cX10_look 47 = .ok (.iastore, 1) := by decide +kernel
theorem dX10_look_48 : decode cX10_look 48 = .ok (.iconst 1, 1) := by decide +kernel
theorem dX10_look_49 : decode cX10_look 49 = .ok (.ireturn, 1) := by decide +kernel
theorem dX10_owed_0 : decode cX10_owed 0 = .ok (.iconst 0, 1) := by decide +kernel
theorem dX10_owed_1 : decode cX10_owed 1 = .ok (.istore_n 1, 1) := by decide +kernel
theorem dX10_owed_2 : decode cX10_owed 2 = .ok (.iconst 0, 1) := by decide +kernel
theorem dX10_owed_3 : decode cX10_owed 3 = .ok (.istore_n 2, 1) := by decide +kernel
theorem dX10_owed_4 : decode cX10_owed 4 = .ok (.iload_n 2, 1) := by decide +kernel
theorem dX10_owed_5 : decode cX10_owed 5 = .ok (.aload_n 0, 1) := by decide +kernel
theorem dX10_owed_6 : decode cX10_owed 6 = .ok (.getfield 12, 3) := by decide +kernel
theorem dX10_owed_9 : decode cX10_owed 9 = .ok (.getfield 60, 3) := by decide +kernel
theorem dX10_owed_12 : decode cX10_owed 12 = .ok (.getfield 213, 3) := by decide +kernel
theorem dX10_owed_15 : decode cX10_owed 15 = .ok (.if_icmp .ge 53, 3) := by decide +kernel
theorem dX10_owed_18 : decode cX10_owed 18 = .ok (.aload_n 0, 1) := by decide +kernel
theorem dX10_owed_19 : decode cX10_owed 19 = .ok (.getfield 39, 3) := by decide +kernel
theorem dX10_owed_22 : decode cX10_owed 22 = .ok (.aload_n 0, 1) := by decide +kernel
theorem dX10_owed_23 : decode cX10_owed 23 = .ok (.getfield 12, 3) := by decide +kernel
theorem dX10_owed_26 : decode cX10_owed 26 = .ok (.getfield 60, 3) := by decide +kernel
theorem dX10_owed_29 : decode cX10_owed 29 = .ok (.iload_n 2, 1) := by decide +kernel
theorem dX10_owed_30 : decode cX10_owed 30 = .ok (.invokevirtual 161, 3) := by decide +kernel
theorem dX10_owed_33 : decode cX10_owed 33 = .ok (.iconst 0, 1) := by decide +kernel
theorem dX10_owed_34 : decode cX10_owed 34 = .ok (.istore_n 3, 1) := by decide +kernel
theorem dX10_owed_35 : decode cX10_owed 35 = .ok (.iload_n 3, 1) := by decide +kernel
theorem dX10_owed_36 : decode cX10_owed 36 = .ok (.aload_n 0, 1) := by decide +kernel
theorem dX10_owed_37 : decode cX10_owed 37 = .ok (.getfield 110, 3) := by decide +kernel
theorem dX10_owed_40 : decode cX10_owed 40 = .ok (.if_icmp .ge 22, 3) := by decide +kernel
theorem dX10_owed_43 : decode cX10_owed 43 = .ok (.iload_n 1, 1) := by decide +kernel
theorem dX10_owed_44 : decode cX10_owed 44 = .ok (.aload_n 0, 1) := by decide +kernel
theorem dX10_owed_45 : decode cX10_owed 45 = .ok (.aload_n 0, 1) := by decide +kernel
theorem dX10_owed_46 : decode cX10_owed 46 = .ok (.getfield 49, 3) := by decide +kernel
theorem dX10_owed_49 : decode cX10_owed 49 = .ok (.iload_n 3, 1) := by decide +kernel
theorem dX10_owed_50 : decode cX10_owed 50 = .ok (.aaload, 1) := by decide +kernel
theorem dX10_owed_51 : decode cX10_owed 51 = .ok (.invokevirtual 216, 3) := by decide +kernel
theorem dX10_owed_54 : decode cX10_owed 54 = .ok (.ior, 1) := by decide +kernel
theorem dX10_owed_55 : decode cX10_owed 55 = .ok (.istore_n 1, 1) := by decide +kernel
theorem dX10_owed_56 : decode cX10_owed 56 = .ok (.iinc 3 1, 3) := by decide +kernel
theorem dX10_owed_59 : decode cX10_owed 59 = .ok (.goto (-24), 3) := by decide +kernel
theorem dX10_owed_62 : decode cX10_owed 62 = .ok (.iinc 2 1, 3) := by decide +kernel
theorem dX10_owed_65 : decode cX10_owed 65 = .ok (.goto (-61), 3) := by decide +kernel
theorem dX10_owed_68 : decode cX10_owed 68 = .ok (.iload_n 1, 1) := by decide +kernel
theorem dX10_owed_69 : decode cX10_owed 69 = .ok (.ireturn, 1) := by decide +kernel
theorem dX10_ground_0 : decode cX10_ground 0 = .ok (.iload_n 1, 1) := by decide +kernel
theorem dX10_ground_1 : decode cX10_ground 1 = .ok (.iload_n 2, 1) := by decide +kernel
theorem dX10_ground_2 : decode cX10_ground 2 = .ok (.invokestatic 220, 3) := by decide +kernel
theorem dX10_ground_5 : decode cX10_ground 5 = .ok (.ifCond .eq 14, 3) := by decide +kernel
theorem dX10_ground_8 : decode cX10_ground 8 = .ok (.iload_n 3, 1) := by decide +kernel
theorem dX10_ground_9 : decode cX10_ground 9 = .ok (.iconst 0, 1) := by decide +kernel
theorem dX10_ground_10 : decode cX10_ground 10 = .ok (.sipush 999, 3) := by decide +kernel
theorem dX10_ground_13 : decode cX10_ground 13 = .ok (.invokestatic 56, 3) := by decide +kernel
theorem dX10_ground_16 : decode cX10_ground 16 = .ok (.ifCond .ne 5, 3) := by decide +kernel
theorem dX10_ground_19 : decode cX10_ground 19 = .ok (.iconst (-1), 1) := by decide +kernel
theorem dX10_ground_20 : decode cX10_ground 20 = .ok (.ireturn, 1) := by decide +kernel
theorem dX10_ground_21 : decode cX10_ground 21 = .ok (.aload_n 0, 1) := by decide +kernel
theorem dX10_ground_22 : decode cX10_ground 22 = .ok (.getfield 12, 3) := by decide +kernel
theorem dX10_ground_25 : decode cX10_ground 25 = .ok (.getfield 223, 3) := by decide +kernel
theorem dX10_ground_28 : decode cX10_ground 28 = .ok (.iload_n 2, 1) := by decide +kernel
theorem dX10_ground_29 : decode cX10_ground 29 = .ok (.bipush 12, 2) := by decide +kernel
theorem dX10_ground_31 : decode cX10_ground 31 = .ok (.imul, 1) := by decide +kernel
theorem dX10_ground_32 : decode cX10_ground 32 = .ok (.iload_n 1, 1) := by decide +kernel
theorem dX10_ground_33 : decode cX10_ground 33 = .ok (.iadd, 1) := by decide +kernel
theorem dX10_ground_34 : decode cX10_ground 34 = .ok (.iload_n 3, 1) := by decide +kernel
theorem dX10_ground_35 : decode cX10_ground 35 = .ok (.invokevirtual 227, 3) := by decide +kernel
theorem dX10_ground_38 : decode cX10_ground 38 = .ok (.ireturn, 1) := by decide +kernel
theorem dX10_wave_0 : decode cX10_wave 0 = .ok (.iload 4, 2) := by decide +kernel
theorem dX10_wave_2 : decode cX10_wave 2 = .ok (.iconst 0, 1) := by decide +kernel
theorem dX10_wave_3 : decode cX10_wave 3 = .ok (.bipush 99, 2) := by decide +kernel
theorem dX10_wave_5 : decode cX10_wave 5 = .ok (.invokestatic 56, 3) := by decide +kernel
theorem dX10_wave_8 : decode cX10_wave 8 = .ok (.ifCond .eq 19, 3) := by decide +kernel
theorem dX10_wave_11 : decode cX10_wave 11 = .ok (.iload 5, 2) := by decide +kernel
theorem dX10_wave_13 : decode cX10_wave 13 = .ok (.iconst 0, 1) := by decide +kernel
theorem dX10_wave_14 : decode cX10_wave 14 = .ok (.sipush 999, 3) := by decide +kernel
theorem dX10_wave_17 : decode cX10_wave 17 = .ok (.invokestatic 56, 3) := by decide +kernel
theorem dX10_wave_20 : decode cX10_wave 20 = .ok (.ifCond .eq 7, 3) := by decide +kernel
theorem dX10_wave_23 : decode cX10_wave 23 = .ok (.iconst 1, 1) := by decide +kernel
theorem dX10_wave_24 : decode cX10_wave 24 = .ok (.goto 4, 3) := by decide +kernel
theorem dX10_wave_27 : decode cX10_wave 27 = .ok (.iconst 0, 1) := by decide +kernel
theorem dX10_wave_28 : decode cX10_wave 28 = .ok (.istore 6, 2) := by decide +kernel
theorem dX10_wave_30 : decode cX10_wave 30 = .ok (.iload_n 1, 1) := by decide +kernel
theorem dX10_wave_31 : decode cX10_wave 31 = .ok (.iload_n 2, 1) := by decide +kernel
theorem dX10_wave_32 : decode cX10_wave 32 = .ok (.invokestatic 220, 3) := by decide +kernel
theorem dX10_wave_35 : decode cX10_wave 35 = .ok (.ifCond .eq 18, 3) := by decide +kernel
theorem dX10_wave_38 : decode cX10_wave 38 = .ok (.iload_n 3, 1) := by decide +kernel
theorem dX10_wave_39 : decode cX10_wave 39 = .ok (.iconst 0, 1) := by decide +kernel
theorem dX10_wave_40 : decode cX10_wave 40 = .ok (.ldc 232, 2) := by decide +kernel
theorem dX10_wave_42 : decode cX10_wave 42 = .ok (.invokestatic 56, 3) := by decide +kernel
theorem dX10_wave_45 : decode cX10_wave 45 = .ok (.ifCond .eq 8, 3) := by decide +kernel
theorem dX10_wave_48 : decode cX10_wave 48 = .ok (.iload 6, 2) := by decide +kernel
theorem dX10_wave_50 : decode cX10_wave 50 = .ok (.ifCond .ne 5, 3) := by decide +kernel
theorem dX10_wave_53 : decode cX10_wave 53 = .ok (.iconst 0, 1) := by decide +kernel
theorem dX10_wave_54 : decode cX10_wave 54 = .ok (.ireturn, 1) := by decide +kernel
theorem dX10_wave_55 : decode cX10_wave 55 = .ok (.aload_n 0, 1) := by decide +kernel
theorem dX10_wave_56 : decode cX10_wave 56 = .ok (.getfield 12, 3) := by decide +kernel
theorem dX10_wave_59 : decode cX10_wave 59 = .ok (.getfield 223, 3) := by decide +kernel
theorem dX10_wave_62 : decode cX10_wave 62 = .ok (.iload_n 2, 1) := by decide +kernel
theorem dX10_wave_63 : decode cX10_wave 63 = .ok (.bipush 12, 2) := by decide +kernel
theorem dX10_wave_65 : decode cX10_wave 65 = .ok (.imul, 1) := by decide +kernel
theorem dX10_wave_66 : decode cX10_wave 66 = .ok (.iload_n 1, 1) := by decide +kernel
theorem dX10_wave_67 : decode cX10_wave 67 = .ok (.iadd, 1) := by decide +kernel
theorem dX10_wave_68 : decode cX10_wave 68 = .ok (.iload_n 3, 1) := by decide +kernel
theorem dX10_wave_69 : decode cX10_wave 69 = .ok (.iload 4, 2) := by decide +kernel
theorem dX10_wave_71 : decode cX10_wave 71 = .ok (.iload 5, 2) := by decide +kernel
theorem dX10_wave_73 : decode cX10_wave 73 = .ok (.invokevirtual 233, 3) := by decide +kernel
theorem dX10_wave_76 : decode cX10_wave 76 = .ok (.iconst 1, 1) := by decide +kernel
theorem dX10_wave_77 : decode cX10_wave 77 = .ok (.ireturn, 1) := by decide +kernel
theorem dX10_minutes_0 : decode cX10_minutes 0 = .ok (.iload_n 1, 1) := by decide +kernel
theorem dX10_minutes_1 : decode cX10_minutes 1 = .ok (.iconst 0, 1) := by decide +kernel
theorem dX10_minutes_2 : decode cX10_minutes 2 = .ok (.bipush 60, 2) := by decide +kernel
theorem dX10_minutes_4 : decode cX10_minutes 4 = .ok (.invokestatic 56, 3) := by decide +kernel
theorem dX10_minutes_7 : decode cX10_minutes 7 = .ok (.ifCond .ne 5, 3) := by decide +kernel
theorem dX10_minutes_10 : decode cX10_minutes 10 = .ok (.iconst (-1), 1) := by decide +kernel
theorem dX10_minutes_11 : decode cX10_minutes 11 = .ok (.ireturn, 1) := by decide +kernel
theorem dX10_minutes_12 : decode cX10_minutes 12 = .ok (.aload_n 0, 1) := by decide +kernel
theorem dX10_minutes_13 : decode cX10_minutes 13 = .ok (.getfield 12, 3) := by decide +kernel
theorem dX10_minutes_16 : decode cX10_minutes 16 = .ok (.getfield 223, 3) := by decide +kernel
theorem dX10_minutes_19 : decode cX10_minutes 19 = .ok (.iload_n 1, 1) := by decide +kernel
theorem dX10_minutes_20 : decode cX10_minutes 20 = .ok (.invokevirtual 237, 3) := by decide +kernel
theorem dX10_minutes_23 : decode cX10_minutes 23 = .ok (.ireturn, 1) := by decide +kernel
theorem dX10_place_0 : decode cX10_place 0 = .ok (.iload_n 1, 1) := by decide +kernel
theorem dX10_place_1 : decode cX10_place 1 = .ok (.iload_n 2, 1) := by decide +kernel
theorem dX10_place_2 : decode cX10_place 2 = .ok (.invokestatic 220, 3) := by decide +kernel
theorem dX10_place_5 : decode cX10_place 5 = .ok (.ifCond .ne 7, 3) := by decide +kernel
theorem dX10_place_8 : decode cX10_place 8 = .ok (.sipush (-1000), 3) := by decide +kernel
theorem dX10_place_11 : decode cX10_place 11 = .ok (.ireturn, 1) := by decide +kernel
theorem dX10_place_12 : decode cX10_place 12 = .ok (.aload_n 0, 1) := by decide +kernel
theorem dX10_place_13 : decode cX10_place 13 = .ok (.getfield 12, 3) := by decide +kernel
theorem dX10_place_16 : decode cX10_place 16 = .ok (.getfield 223, 3) := by decide +kernel
theorem dX10_place_19 : decode cX10_place 19 = .ok (.iload_n 2, 1) := by decide +kernel
theorem dX10_place_20 : decode cX10_place 20 = .ok (.bipush 12, 2) := by decide +kernel
theorem dX10_place_22 : decode cX10_place 22 = .ok (.imul, 1) := by decide +kernel
theorem dX10_place_23 : decode cX10_place 23 = .ok (.iload_n 1, 1) := by decide +kernel
theorem dX10_place_24 : decode cX10_place 24 = .ok (.iadd, 1) := by decide +kernel
theorem dX10_place_25 : decode cX10_place 25 = .ok (.iload_n 3, 1) := by decide +kernel
theorem dX10_place_26 : decode cX10_place 26 = .ok (.invokevirtual 240, 3) := by decide +kernel
theorem dX10_place_29 : decode cX10_place 29 = .ok (.ireturn, 1) := by decide +kernel
theorem dX10_witness_0 : decode cX10_witness 0 = .ok (.aload_n 0, 1) := by decide +kernel
theorem dX10_witness_1 : decode cX10_witness 1 = .ok (.getfield 12, 3) := by decide +kernel
theorem dX10_witness_4 : decode cX10_witness 4 = .ok (.getfield 60, 3) := by decide +kernel
theorem dX10_witness_7 : decode cX10_witness 7 = .ok (.iload_n 1, 1) := by decide +kernel
theorem dX10_witness_8 : decode cX10_witness 8 = .ok (.invokevirtual 202, 3) := by decide +kernel
theorem dX10_witness_11 : decode cX10_witness 11 = .ok (.ifCond .eq 23, 3) := by decide +kernel
theorem dX10_witness_14 : decode cX10_witness 14 = .ok (.iload_n 2, 1) := by decide +kernel
theorem dX10_witness_15 : decode cX10_witness 15 = .ok (.iconst 0, 1) := by decide +kernel
theorem dX10_witness_16 : decode cX10_witness 16 = .ok (.iconst 4, 1) := by decide +kernel
theorem dX10_witness_17 : decode cX10_witness 17 = .ok (.invokestatic 56, 3) := by decide +kernel
theorem dX10_witness_20 : decode cX10_witness 20 = .ok (.ifCond .eq 14, 3) := by decide +kernel
theorem dX10_witness_23 : decode cX10_witness 23 = .ok (.iload_n 3, 1) := by decide +kernel
theorem dX10_witness_24 : decode cX10_witness 24 = .ok (.iconst 0, 1) := by decide +kernel
theorem dX10_witness_25 : decode cX10_witness 25 = .ok (.sipush 255, 3) := by decide +kernel
theorem dX10_witness_28 : decode cX10_witness 28 = .ok (.invokestatic 56, 3) := by decide +kernel
theorem dX10_witness_31 : decode cX10_witness 31 = .ok (.ifCond .ne 5, 3) := by decide +kernel
theorem dX10_witness_34 : decode cX10_witness 34 = .ok (.iconst (-1), 1) := by decide +kernel
theorem dX10_witness_35 : decode cX10_witness 35 = .ok (.ireturn, 1) := by decide +kernel
theorem dX10_witness_36 : decode cX10_witness 36 = .ok (.aload_n 0, 1) := by decide +kernel
theorem dX10_witness_37 : decode cX10_witness 37 = .ok (.getfield 12, 3) := by decide +kernel
theorem dX10_witness_40 : decode cX10_witness 40 = .ok (.getfield 113, 3) := by decide +kernel
theorem dX10_witness_43 : decode cX10_witness 43 = .ok (.iload_n 1, 1) := by decide +kernel
theorem dX10_witness_44 : decode cX10_witness 44 = .ok (.iload_n 2, 1) := by decide +kernel
theorem dX10_witness_45 : decode cX10_witness 45 = .ok (.iload_n 3, 1) := by decide +kernel
theorem dX10_witness_46 : decode cX10_witness 46 = .ok (.invokevirtual 243, 3) := by decide +kernel
theorem dX10_witness_49 : decode cX10_witness 49 = .ok (.ireturn, 1) := by decide +kernel
theorem dX10_lean_0 : decode cX10_lean 0 = .ok (.iload_n 3, 1) := by decide +kernel
theorem dX10_lean_1 : decode cX10_lean 1 = .ok (.ifCond .lt 20, 3) := by decide +kernel
theorem dX10_lean_4 : decode cX10_lean 4 = .ok (.iload_n 3, 1) := by decide +kernel
theorem dX10_lean_5 : decode cX10_lean 5 = .ok (.iload 4, 2) := by decide +kernel
theorem dX10_lean_7 : decode cX10_lean 7 = .ok (.if_icmp .gt 14, 3) := by decide +kernel
theorem dX10_lean_10 : decode cX10_lean 10 = .ok (.iload 4, 2) := by decide +kernel
theorem dX10_lean_12 : decode cX10_lean 12 = .ok (.ldc 232, 2) := by decide +kernel
theorem dX10_lean_14 : decode cX10_lean 14 = .ok (.if_icmp .gt 7, 3) := by decide +kernel
theorem dX10_lean_17 : decode cX10_lean 17 = .ok (.iconst 1, 1) := by decide +kernel
theorem dX10_lean_18 : decode cX10_lean 18 = .ok (.goto 4, 3) := by decide +kernel
theorem dX10_lean_21 : decode cX10_lean 21 = .ok (.iconst 0, 1) := by decide +kernel
theorem dX10_lean_22 : decode cX10_lean 22 = .ok (.istore 6, 2) := by decide +kernel
theorem dX10_lean_24 : decode cX10_lean 24 = .ok (.iload 6, 2) := by decide +kernel
theorem dX10_lean_26 : decode cX10_lean 26 = .ok (.ifCond .eq 32, 3) := by decide +kernel
theorem dX10_lean_29 : decode cX10_lean 29 = .ok (.iload_n 1, 1) := by decide +kernel
theorem dX10_lean_30 : decode cX10_lean 30 = .ok (.iconst 0, 1) := by decide +kernel
theorem dX10_lean_31 : decode cX10_lean 31 = .ok (.iconst 4, 1) := by decide +kernel
theorem dX10_lean_32 : decode cX10_lean 32 = .ok (.invokestatic 56, 3) := by decide +kernel
theorem dX10_lean_35 : decode cX10_lean 35 = .ok (.ifCond .eq 23, 3) := by decide +kernel
theorem dX10_lean_38 : decode cX10_lean 38 = .ok (.iload_n 2, 1) := by decide +kernel
theorem dX10_lean_39 : decode cX10_lean 39 = .ok (.iconst 0, 1) := by decide +kernel
theorem dX10_lean_40 : decode cX10_lean 40 = .ok (.bipush 7, 2) := by decide +kernel
theorem dX10_lean_42 : decode cX10_lean 42 = .ok (.invokestatic 56, 3) := by decide +kernel
theorem dX10_lean_45 : decode cX10_lean 45 = .ok (.ifCond .eq 13, 3) := by decide +kernel
theorem dX10_lean_48 : decode cX10_lean 48 = .ok (.iload 5, 2) := by decide +kernel
theorem dX10_lean_50 : decode cX10_lean 50 = .ok (.iconst 0, 1) := by decide +kernel
theorem dX10_lean_51 : decode cX10_lean 51 = .ok (.iconst 1, 1) := by decide +kernel
theorem dX10_lean_52 : decode cX10_lean 52 = .ok (.invokestatic 56, 3) := by decide +kernel
theorem dX10_lean_55 : decode cX10_lean 55 = .ok (.ifCond .ne 7, 3) := by decide +kernel
theorem dX10_lean_58 : decode cX10_lean 58 = .ok (.sipush (-1000), 3) := by decide +kernel
theorem dX10_lean_61 : decode cX10_lean 61 = .ok (.ireturn, 1) := by decide +kernel
theorem dX10_lean_62 : decode cX10_lean 62 = .ok (.aload_n 0, 1) := by decide +kernel
theorem dX10_lean_63 : decode cX10_lean 63 = .ok (.getfield 12, 3) := by decide +kernel
theorem dX10_lean_66 : decode cX10_lean 66 = .ok (.getfield 113, 3) := by decide +kernel
theorem dX10_lean_69 : decode cX10_lean 69 = .ok (.iload_n 1, 1) := by decide +kernel
theorem dX10_lean_70 : decode cX10_lean 70 = .ok (.iload_n 2, 1) := by decide +kernel
theorem dX10_lean_71 : decode cX10_lean 71 = .ok (.iload_n 3, 1) := by decide +kernel
theorem dX10_lean_72 : decode cX10_lean 72 = .ok (.iload 4, 2) := by decide +kernel
theorem dX10_lean_74 : decode cX10_lean 74 = .ok (.iload 5, 2) := by decide +kernel
theorem dX10_lean_76 : decode cX10_lean 76 = .ok (.ifCond .ne 7, 3) := by decide +kernel
theorem dX10_lean_79 : decode cX10_lean 79 = .ok (.iconst 1, 1) := by decide +kernel
theorem dX10_lean_80 : decode cX10_lean 80 = .ok (.goto 4, 3) := by decide +kernel
theorem dX10_lean_83 : decode cX10_lean 83 = .ok (.iconst 0, 1) := by decide +kernel
theorem dX10_lean_84 : decode cX10_lean 84 = .ok (.invokevirtual 247, 3) := by decide +kernel
theorem dX10_lean_87 : decode cX10_lean 87 = .ok (.ireturn, 1) := by decide +kernel
theorem dX10_mark_0 : decode cX10_mark 0 = .ok (.iload_n 1, 1) := by decide +kernel
theorem dX10_mark_1 : decode cX10_mark 1 = .ok (.iconst 0, 1) := by decide +kernel
theorem dX10_mark_2 : decode cX10_mark 2 = .ok (.iconst 3, 1) := by decide +kernel
theorem dX10_mark_3 : decode cX10_mark 3 = .ok (.invokestatic 56, 3) := by decide +kernel
theorem dX10_mark_6 : decode cX10_mark 6 = .ok (.ifCond .ne 5, 3) := by decide +kernel
theorem dX10_mark_9 : decode cX10_mark 9 = .ok (.iconst (-1), 1) := by decide +kernel
theorem dX10_mark_10 : decode cX10_mark 10 = .ok (.ireturn, 1) := by decide +kernel
theorem dX10_mark_11 : decode cX10_mark 11 = .ok (.aload_n 0, 1) := by decide +kernel
theorem dX10_mark_12 : decode cX10_mark 12 = .ok (.getfield 16, 3) := by decide +kernel
theorem dX10_mark_15 : decode cX10_mark 15 = .ok (.iload_n 1, 1) := by decide +kernel
theorem dX10_mark_16 : decode cX10_mark 16 = .ok (.aaload, 1) := by decide +kernel
theorem dX10_mark_17 : decode cX10_mark 17 = .ok (.ifnonnull 16, 3) := by decide +kernel
theorem dX10_mark_20 : decode cX10_mark 20 = .ok (.aload_n 0, 1) := by decide +kernel
theorem dX10_mark_21 : decode cX10_mark 21 = .ok (.getfield 16, 3) := by decide +kernel
theorem dX10_mark_24 : decode cX10_mark 24 = .ok (.iload_n 1, 1) := by decide +kernel
theorem dX10_mark_25 : decode cX10_mark 25 = .ok (.new 9, 3) := by decide +kernel
theorem dX10_mark_28 : decode cX10_mark 28 = .ok (.dup, 1) := by decide +kernel
theorem dX10_mark_29 : decode cX10_mark 29 = .ok (.invokespecial 11, 3) := by decide +kernel
theorem dX10_mark_32 : decode cX10_mark 32 = .ok (.aastore, 1) := by decide +kernel
theorem dX10_mark_33 : decode cX10_mark 33 = .ok (.aload_n 0, 1) := by decide +kernel
theorem dX10_mark_34 : decode cX10_mark 34 = .ok (.getfield 16, 3) := by decide +kernel
theorem dX10_mark_37 : decode cX10_mark 37 = .ok (.iload_n 1, 1) := by decide +kernel
theorem dX10_mark_38 : decode cX10_mark 38 = .ok (.aaload, 1) := by decide +kernel
theorem dX10_mark_39 : decode cX10_mark 39 = .ok (.aload_n 0, 1) := by decide +kernel
theorem dX10_mark_40 : decode cX10_mark 40 = .ok (.getfield 12, 3) := by decide +kernel
theorem dX10_mark_43 : decode cX10_mark 43 = .ok (.invokevirtual 251, 3) := by decide +kernel
theorem dX10_mark_46 : decode cX10_mark 46 = .ok (.aload_n 0, 1) := by decide +kernel
theorem dX10_mark_47 : decode cX10_mark 47 = .ok (.getfield 12, 3) := by decide +kernel
theorem dX10_mark_50 : decode cX10_mark 50 = .ok (.getfield 60, 3) := by decide +kernel
theorem dX10_mark_53 : decode cX10_mark 53 = .ok (.getfield 255, 3) := by decide +kernel
theorem dX10_mark_56 : decode cX10_mark 56 = .ok (.ireturn, 1) := by decide +kernel
theorem dX10_back_0 : decode cX10_back 0 = .ok (.iload_n 1, 1) := by decide +kernel
theorem dX10_back_1 : decode cX10_back 1 = .ok (.iconst 0, 1) := by decide +kernel
theorem dX10_back_2 : decode cX10_back 2 = .ok (.iconst 3, 1) := by decide +kernel
theorem dX10_back_3 : decode cX10_back 3 = .ok (.invokestatic 56, 3) := by decide +kernel
theorem dX10_back_6 : decode cX10_back 6 = .ok (.ifCond .eq 12, 3) := by decide +kernel
theorem dX10_back_9 : decode cX10_back 9 = .ok (.aload_n 0, 1) := by decide +kernel
theorem dX10_back_10 : decode cX10_back 10 = .ok (.getfield 16, 3) := by decide +kernel
theorem dX10_back_13 : decode cX10_back 13 = .ok (.iload_n 1, 1) := by decide +kernel
theorem dX10_back_14 : decode cX10_back 14 = .ok (.aaload, 1) := by decide +kernel
theorem dX10_back_15 : decode cX10_back 15 = .ok (.ifnonnull 5, 3) := by decide +kernel
theorem dX10_back_18 : decode cX10_back 18 = .ok (.iconst (-1), 1) := by decide +kernel
theorem dX10_back_19 : decode cX10_back 19 = .ok (.ireturn, 1) := by decide +kernel
theorem dX10_back_20 : decode cX10_back 20 = .ok (.aload_n 0, 1) := by decide +kernel
theorem dX10_back_21 : decode cX10_back 21 = .ok (.getfield 12, 3) := by decide +kernel
theorem dX10_back_24 : decode cX10_back 24 = .ok (.aload_n 0, 1) := by decide +kernel
theorem dX10_back_25 : decode cX10_back 25 = .ok (.getfield 16, 3) := by decide +kernel
theorem dX10_back_28 : decode cX10_back 28 = .ok (.iload_n 1, 1) := by decide +kernel
theorem dX10_back_29 : decode cX10_back 29 = .ok (.aaload, 1) := by decide +kernel
theorem dX10_back_30 : decode cX10_back 30 = .ok (.invokevirtual 251, 3) := by decide +kernel
theorem dX10_back_33 : decode cX10_back 33 = .ok (.aload_n 0, 1) := by decide +kernel
theorem dX10_back_34 : decode cX10_back 34 = .ok (.getfield 12, 3) := by decide +kernel
theorem dX10_back_37 : decode cX10_back 37 = .ok (.getfield 60, 3) := by decide +kernel
theorem dX10_back_40 : decode cX10_back 40 = .ok (.getfield 255, 3) := by decide +kernel
theorem dX10_back_43 : decode cX10_back 43 = .ok (.ireturn, 1) := by decide +kernel
theorem dX10_areThere_0 : decode cX10_areThere 0 = .ok (.iload_n 1, 1) := by decide +kernel
theorem dX10_areThere_1 : decode cX10_areThere 1 = .ok (.ifCond .lt 29, 3) := by decide +kernel
theorem dX10_areThere_4 : decode cX10_areThere 4 = .ok (.iload_n 1, 1) := by decide +kernel
theorem dX10_areThere_5 : decode cX10_areThere 5 = .ok (.aload_n 0, 1) := by decide +kernel
theorem dX10_areThere_6 : decode cX10_areThere 6 = .ok (.getfield 106, 3) := by decide +kernel
theorem dX10_areThere_9 : decode cX10_areThere 9 = .ok (.if_icmp .ge 21, 3) := by decide +kernel
theorem dX10_areThere_12 : decode cX10_areThere 12 = .ok (.aload_n 0, 1) := by decide +kernel
theorem dX10_areThere_13 : decode cX10_areThere 13 = .ok (.getfield 12, 3) := by decide +kernel
theorem dX10_areThere_16 : decode cX10_areThere 16 = .ok (.getfield 60, 3) := by decide +kernel
theorem dX10_areThere_19 : decode cX10_areThere 19 = .ok (.iload_n 2, 1) := by decide +kernel
theorem dX10_areThere_20 : decode cX10_areThere 20 = .ok (.invokevirtual 258, 3) := by decide +kernel
theorem dX10_areThere_23 : decode cX10_areThere 23 = .ok (.ifCond .eq 7, 3) := by decide +kernel
theorem dX10_areThere_26 : decode cX10_areThere 26 = .ok (.iconst 1, 1) := by decide +kernel
theorem dX10_areThere_27 : decode cX10_areThere 27 = .ok (.goto 4, 3) := by decide +kernel
theorem dX10_areThere_30 : decode cX10_areThere 30 = .ok (.iconst 0, 1) := by decide +kernel
theorem dX10_areThere_31 : decode cX10_areThere 31 = .ok (.ireturn, 1) := by decide +kernel
theorem dX10_timesAsSeen_0 : decode cX10_timesAsSeen 0 = .ok (.iload_n 1, 1) := by decide +kernel
theorem dX10_timesAsSeen_1 : decode cX10_timesAsSeen 1 = .ok (.i2l, 1) := by decide +kernel
theorem dX10_timesAsSeen_2 : decode cX10_timesAsSeen 2 = .ok (.lstore_n 3, 1) := by decide +kernel
theorem dX10_timesAsSeen_3 : decode cX10_timesAsSeen 3 = .ok (.iconst 0, 1) := by decide +kernel
theorem dX10_timesAsSeen_4 : decode cX10_timesAsSeen 4 = .ok (.istore 5, 2) := by decide +kernel
theorem dX10_timesAsSeen_6 : decode cX10_timesAsSeen 6 = .ok (.iconst 0, 1) := by decide +kernel
theorem dX10_timesAsSeen_7 : decode cX10_timesAsSeen 7 = .ok (.istore 6, 2) := by decide +kernel
theorem dX10_timesAsSeen_9 : decode cX10_timesAsSeen 9 = .ok (.iload 6, 2) := by decide +kernel
theorem dX10_timesAsSeen_11 : decode cX10_timesAsSeen 11 = .ok (.iload_n 2, 1) := by decide +kernel
theorem dX10_timesAsSeen_12 : decode cX10_timesAsSeen 12 = .ok (.if_icmp .ge 119, 3) := by decide +kernel
theorem dX10_timesAsSeen_15 : decode cX10_timesAsSeen 15 = .ok (.iconst 1, 1) := by decide +kernel
theorem dX10_timesAsSeen_16 : decode cX10_timesAsSeen 16 = .ok (.istore 7, 2) := by decide +kernel
theorem dX10_timesAsSeen_18 : decode cX10_timesAsSeen 18 = .ok (.iconst 0, 1) := by decide +kernel
theorem dX10_timesAsSeen_19 : decode cX10_timesAsSeen 19 = .ok (.istore 8, 2) := by decide +kernel
theorem dX10_timesAsSeen_21 : decode cX10_timesAsSeen 21 = .ok (.iload 8, 2) := by decide +kernel
theorem dX10_timesAsSeen_23 : decode cX10_timesAsSeen 23 = .ok (.bipush 16, 2) := by decide +kernel
theorem dX10_timesAsSeen_25 : decode cX10_timesAsSeen 25 = .ok (.if_icmp .ge 92, 3) := by decide +kernel
theorem dX10_timesAsSeen_28 : decode cX10_timesAsSeen 28 = .ok (.lload_n 3, 1) := by decide +kernel
theorem dX10_timesAsSeen_29 : decode cX10_timesAsSeen 29 = .ok (.ldc2_w 261, 3) := by decide +kernel
theorem dX10_timesAsSeen_32 : decode cX10_timesAsSeen 32 = .ok (.lmul, 1) := by decide +kernel
theorem dX10_timesAsSeen_33 : decode cX10_timesAsSeen 33 = .ok (.ldc2_w 263, 3) := by decide +kernel
theorem dX10_timesAsSeen_36 : decode cX10_timesAsSeen 36 = .ok (.ladd, 1) := by decide +kernel
theorem dX10_timesAsSeen_37 : decode cX10_timesAsSeen 37 = .ok (.ldc2_w 265, 3) := by decide +kernel
theorem dX10_timesAsSeen_40 : decode cX10_timesAsSeen 40 = .ok (.lrem, 1) := by decide +kernel
theorem dX10_timesAsSeen_41 : decode cX10_timesAsSeen 41 = .ok (.lstore_n 3, 1) := by decide +kernel
theorem dX10_timesAsSeen_42 : decode cX10_timesAsSeen 42 = .ok (.lload_n 3, 1) := by decide +kernel
theorem dX10_timesAsSeen_43 : decode cX10_timesAsSeen 43 = .ok (.ldc2_w 267, 3) := by decide +kernel
theorem dX10_timesAsSeen_46 : decode cX10_timesAsSeen 46 = .ok (.ldiv, 1) := by decide +kernel
theorem dX10_timesAsSeen_47 : decode cX10_timesAsSeen 47 = .ok (.ldc2_w 269, 3) := by decide +kernel
theorem dX10_timesAsSeen_50 : decode cX10_timesAsSeen 50 = .ok (.lrem, 1) := by decide +kernel
theorem dX10_timesAsSeen_51 : decode cX10_timesAsSeen 51 = .ok (.aload_n 0, 1) := by decide +kernel
theorem dX10_timesAsSeen_52 : decode cX10_timesAsSeen 52 = .ok (.getfield 52, 3) := by decide +kernel
theorem dX10_timesAsSeen_55 : decode cX10_timesAsSeen 55 = .ok (.iload 8, 2) := by decide +kernel
theorem dX10_timesAsSeen_57 : decode cX10_timesAsSeen 57 = .ok (.iaload, 1) := by decide +kernel
theorem dX10_timesAsSeen_58 : decode cX10_timesAsSeen 58 = .ok (.i2l, 1) := by decide +kernel
theorem dX10_timesAsSeen_59 : decode cX10_timesAsSeen 59 = .ok (.lcmp, 1) := by decide +kernel
theorem dX10_timesAsSeen_60 : decode cX10_timesAsSeen 60 = .ok (.ifCond .ge 7, 3) := by decide +kernel
theorem dX10_timesAsSeen_63 : decode cX10_timesAsSeen 63 = .ok (.iconst 1, 1) := by decide +kernel
theorem dX10_timesAsSeen_64 : decode cX10_timesAsSeen 64 = .ok (.goto 4, 3) := by decide +kernel
theorem dX10_timesAsSeen_67 : decode cX10_timesAsSeen 67 = .ok (.iconst 0, 1) := by decide +kernel
theorem dX10_timesAsSeen_68 : decode cX10_timesAsSeen 68 = .ok (.istore 9, 2) := by decide +kernel
theorem dX10_timesAsSeen_70 : decode cX10_timesAsSeen 70 = .ok (.iload 7, 2) := by decide +kernel
theorem dX10_timesAsSeen_72 : decode cX10_timesAsSeen 72 = .ok (.ifCond .eq 36, 3) := by decide +kernel
theorem dX10_timesAsSeen_75 : decode cX10_timesAsSeen 75 = .ok (.aload_n 0, 1) := by decide +kernel
theorem dX10_timesAsSeen_76 : decode cX10_timesAsSeen 76 = .ok (.getfield 12, 3) := by decide +kernel
theorem dX10_timesAsSeen_79 : decode cX10_timesAsSeen 79 = .ok (.getfield 169, 3) := by decide +kernel
theorem dX10_timesAsSeen_82 : decode cX10_timesAsSeen 82 = .ok (.iload 8, 2) := by decide +kernel
theorem dX10_timesAsSeen_84 : decode cX10_timesAsSeen 84 = .ok (.iaload, 1) := by decide +kernel
theorem dX10_timesAsSeen_85 : decode cX10_timesAsSeen 85 = .ok (.iconst (-1), 1) := by decide +kernel
theorem dX10_timesAsSeen_86 : decode cX10_timesAsSeen 86 = .ok (.if_icmp .eq 18, 3) := by decide +kernel
theorem dX10_timesAsSeen_89 : decode cX10_timesAsSeen 89 = .ok (.aload_n 0, 1) := by decide +kernel
theorem dX10_timesAsSeen_90 : decode cX10_timesAsSeen 90 = .ok (.getfield 12, 3) := by decide +kernel
theorem dX10_timesAsSeen_93 : decode cX10_timesAsSeen 93 = .ok (.getfield 169, 3) := by decide +kernel
theorem dX10_timesAsSeen_96 : decode cX10_timesAsSeen 96 = .ok (.iload 8, 2) := by decide +kernel
theorem dX10_timesAsSeen_98 : decode cX10_timesAsSeen 98 = .ok (.iaload, 1) := by decide +kernel
theorem dX10_timesAsSeen_99 : decode cX10_timesAsSeen 99 = .ok (.iload 9, 2) := by decide +kernel
theorem dX10_timesAsSeen_101 : decode cX10_timesAsSeen 101 = .ok (.if_icmp .ne 7, 3) := by decide +kernel
theorem dX10_timesAsSeen_104 : decode cX10_timesAsSeen 104 = .ok (.iconst 1, 1) := by decide +kernel
theorem dX10_timesAsSeen_105 : decode cX10_timesAsSeen 105 = .ok (.goto 4, 3) := by decide +kernel
theorem dX10_timesAsSeen_108 : decode cX10_timesAsSeen 108 = .ok (.iconst 0, 1) := by decide +kernel
theorem dX10_timesAsSeen_109 : decode cX10_timesAsSeen 109 = .ok (.istore 7, 2) := by decide +kernel
theorem dX10_timesAsSeen_111 : decode cX10_timesAsSeen 111 = .ok (.iinc 8 1, 3) := by decide +kernel
theorem dX10_timesAsSeen_114 : decode cX10_timesAsSeen 114 = .ok (.goto (-93), 3) := by decide +kernel
theorem dX10_timesAsSeen_117 : decode cX10_timesAsSeen 117 = .ok (.iload 7, 2) := by decide +kernel
theorem dX10_timesAsSeen_119 : decode cX10_timesAsSeen 119 = .ok (.ifCond .eq 6, 3) := by decide +kernel
theorem dX10_timesAsSeen_122 : decode cX10_timesAsSeen 122 = .ok (.iinc 5 1, 3) := by decide +kernel
theorem dX10_timesAsSeen_125 : decode cX10_timesAsSeen 125 = .ok (.iinc 6 1, 3) := by decide +kernel
theorem dX10_timesAsSeen_128 : decode cX10_timesAsSeen 128 = .ok (.goto (-119), 3) := by decide +kernel
theorem dX10_timesAsSeen_131 : decode cX10_timesAsSeen 131 = .ok (.iload 5, 2) := by decide +kernel
theorem dX10_timesAsSeen_133 : decode cX10_timesAsSeen 133 = .ok (.ireturn, 1) := by decide +kernel
theorem dX10_menNamedBy_0 : decode cX10_menNamedBy 0 = .ok (.iconst 0, 1) := by decide +kernel
theorem dX10_menNamedBy_1 : decode cX10_menNamedBy 1 = .ok (.istore_n 2, 1) := by decide +kernel
theorem dX10_menNamedBy_2 : decode cX10_menNamedBy 2 = .ok (.iconst 0, 1) := by decide +kernel
theorem dX10_menNamedBy_3 : decode cX10_menNamedBy 3 = .ok (.istore_n 3, 1) := by decide +kernel
theorem dX10_menNamedBy_4 : decode cX10_menNamedBy 4 = .ok (.iload_n 3, 1) := by decide +kernel
theorem dX10_menNamedBy_5 : decode cX10_menNamedBy 5 = .ok (.aload_n 1, 1) := by decide +kernel
theorem dX10_menNamedBy_6 : decode cX10_menNamedBy 6 = .ok (.getfield 271, 3) := by decide +kernel
theorem dX10_menNamedBy_9 : decode cX10_menNamedBy 9 = .ok (.arraylength, 1) := by decide +kernel
theorem dX10_menNamedBy_10 : decode cX10_menNamedBy 10 = .ok (.if_icmp .ge 56, 3) := by decide +kernel
theorem dX10_menNamedBy_13 : decode cX10_menNamedBy 13 = .ok (.aload_n 1, 1) := by decide +kernel
theorem dX10_menNamedBy_14 : decode cX10_menNamedBy 14 = .ok (.getfield 271, 3) := by decide +kernel
theorem dX10_menNamedBy_17 : decode cX10_menNamedBy 17 = .ok (.iload_n 3, 1) := by decide +kernel
theorem dX10_menNamedBy_18 : decode cX10_menNamedBy 18 = .ok (.aaload, 1) := by decide +kernel
theorem dX10_menNamedBy_19 : decode cX10_menNamedBy 19 = .ok (.astore 4, 2) := by decide +kernel
theorem dX10_menNamedBy_21 : decode cX10_menNamedBy 21 = .ok (.aload_n 0, 1) := by decide +kernel
theorem dX10_menNamedBy_22 : decode cX10_menNamedBy 22 = .ok (.aload 4, 2) := by decide +kernel
theorem dX10_menNamedBy_24 : decode cX10_menNamedBy 24 = .ok (.getfield 275, 3) := by decide +kernel
theorem dX10_menNamedBy_27 : decode cX10_menNamedBy 27 = .ok (.aload 4, 2) := by decide +kernel
theorem dX10_menNamedBy_29 : decode cX10_menNamedBy 29 = .ok (.getfield 280, 3) := by decide +kernel
theorem dX10_menNamedBy_32 : decode cX10_menNamedBy 32 = .ok (.invokevirtual 282, 3) := by decide +kernel
theorem dX10_menNamedBy_35 : decode cX10_menNamedBy 35 = .ok (.ifCond .eq 25, 3) := by decide +kernel
theorem dX10_menNamedBy_38 : decode cX10_menNamedBy 38 = .ok (.aload_n 0, 1) := by decide +kernel
theorem dX10_menNamedBy_39 : decode cX10_menNamedBy 39 = .ok (.getfield 39, 3) := by decide +kernel
theorem dX10_menNamedBy_42 : decode cX10_menNamedBy 42 = .ok (.aload 4, 2) := by decide +kernel
theorem dX10_menNamedBy_44 : decode cX10_menNamedBy 44 = .ok (.invokevirtual 285, 3) := by decide +kernel
theorem dX10_menNamedBy_47 : decode cX10_menNamedBy 47 = .ok (.ifCond .eq 13, 3) := by decide +kernel
theorem dX10_menNamedBy_50 : decode cX10_menNamedBy 50 = .ok (.iload_n 2, 1) := by decide +kernel
theorem dX10_menNamedBy_51 : decode cX10_menNamedBy 51 = .ok (.iconst 1, 1) := by decide +kernel
theorem dX10_menNamedBy_52 : decode cX10_menNamedBy 52 = .ok (.aload 4, 2) := by decide +kernel
theorem dX10_menNamedBy_54 : decode cX10_menNamedBy 54 = .ok (.getfield 275, 3) := by decide +kernel
theorem dX10_menNamedBy_57 : decode cX10_menNamedBy 57 = .ok (.ishl, 1) := by decide +kernel
theorem dX10_menNamedBy_58 : decode cX10_menNamedBy 58 = .ok (.ior, 1) := by decide +kernel
theorem dX10_menNamedBy_59 : decode cX10_menNamedBy 59 = .ok (.istore_n 2, 1) := by decide +kernel
theorem dX10_menNamedBy_60 : decode cX10_menNamedBy 60 = .ok (.iinc 3 1, 3) := by decide +kernel
theorem dX10_menNamedBy_63 : decode cX10_menNamedBy 63 = .ok (.goto (-59), 3) := by decide +kernel
theorem dX10_menNamedBy_66 : decode cX10_menNamedBy 66 = .ok (.iload_n 2, 1) := by decide +kernel
theorem dX10_menNamedBy_67 : decode cX10_menNamedBy 67 = .ok (.ireturn, 1) := by decide +kernel
theorem dX10_isLate_0 : decode cX10_isLate 0 = .ok (.iload_n 1, 1) := by decide +kernel
theorem dX10_isLate_1 : decode cX10_isLate 1 = .ok (.ifCond .lt 9, 3) := by decide +kernel
theorem dX10_isLate_4 : decode cX10_isLate 4 = .ok (.iload_n 1, 1) := by decide +kernel
theorem dX10_isLate_5 : decode cX10_isLate 5 = .ok (.bipush 10, 2) := by decide +kernel
theorem dX10_isLate_7 : decode cX10_isLate 7 = .ok (.if_icmp .lt 5, 3) := by decide +kernel
theorem dX10_isLate_10 : decode cX10_isLate 10 = .ok (.iconst 0, 1) := by decide +kernel
theorem dX10_isLate_11 : decode cX10_isLate 11 = .ok (.ireturn, 1) := by decide +kernel
theorem dX10_isLate_12 : decode cX10_isLate 12 = .ok (.aload_n 0, 1) := by decide +kernel
theorem dX10_isLate_13 : decode cX10_isLate 13 = .ok (.getfield 12, 3) := by decide +kernel
theorem dX10_isLate_16 : decode cX10_isLate 16 = .ok (.getfield 205, 3) := by decide +kernel
theorem dX10_isLate_19 : decode cX10_isLate 19 = .ok (.iload_n 1, 1) := by decide +kernel
theorem dX10_isLate_20 : decode cX10_isLate 20 = .ok (.iaload, 1) := by decide +kernel
theorem dX10_isLate_21 : decode cX10_isLate 21 = .ok (.istore_n 3, 1) := by decide +kernel
theorem dX10_isLate_22 : decode cX10_isLate 22 = .ok (.iload_n 3, 1) := by decide +kernel
theorem dX10_isLate_23 : decode cX10_isLate 23 = .ok (.iconst (-1), 1) := by decide +kernel
theorem dX10_isLate_24 : decode cX10_isLate 24 = .ok (.if_icmp .eq 19, 3) := by decide +kernel
theorem dX10_isLate_27 : decode cX10_isLate 27 = .ok (.aload_n 0, 1) := by decide +kernel
theorem dX10_isLate_28 : decode cX10_isLate 28 = .ok (.getfield 12, 3) := by decide +kernel
theorem dX10_isLate_31 : decode cX10_isLate 31 = .ok (.getfield 60, 3) := by decide +kernel
theorem dX10_isLate_34 : decode cX10_isLate 34 = .ok (.getfield 255, 3) := by decide +kernel
theorem dX10_isLate_37 : decode cX10_isLate 37 = .ok (.iload_n 3, 1) := by decide +kernel
theorem dX10_isLate_38 : decode cX10_isLate 38 = .ok (.isub, 1) := by decide +kernel
theorem dX10_isLate_39 : decode cX10_isLate 39 = .ok (.iload_n 2, 1) := by decide +kernel
theorem dX10_isLate_40 : decode cX10_isLate 40 = .ok (.if_icmp .lt 7, 3) := by decide +kernel
theorem dX10_isLate_43 : decode cX10_isLate 43 = .ok (.iconst 1, 1) := by decide +kernel
theorem dX10_isLate_44 : decode cX10_isLate 44 = .ok (.goto 4, 3) := by decide +kernel
theorem dX10_isLate_47 : decode cX10_isLate 47 = .ok (.iconst 0, 1) := by decide +kernel
theorem dX10_isLate_48 : decode cX10_isLate 48 = .ok (.ireturn, 1) := by decide +kernel
theorem dX10_isPlace_0 : decode cX10_isPlace 0 = .ok (.iload_n 0, 1) := by decide +kernel
theorem dX10_isPlace_1 : decode cX10_isPlace 1 = .ok (.iconst 0, 1) := by decide +kernel
theorem dX10_isPlace_2 : decode cX10_isPlace 2 = .ok (.bipush 11, 2) := by decide +kernel
theorem dX10_isPlace_4 : decode cX10_isPlace 4 = .ok (.invokestatic 56, 3) := by decide +kernel
theorem dX10_isPlace_7 : decode cX10_isPlace 7 = .ok (.ifCond .eq 17, 3) := by decide +kernel
theorem dX10_isPlace_10 : decode cX10_isPlace 10 = .ok (.iload_n 1, 1) := by decide +kernel
theorem dX10_isPlace_11 : decode cX10_isPlace 11 = .ok (.iconst 0, 1) := by decide +kernel
theorem dX10_isPlace_12 : decode cX10_isPlace 12 = .ok (.bipush 11, 2) := by decide +kernel
theorem dX10_isPlace_14 : decode cX10_isPlace 14 = .ok (.invokestatic 56, 3) := by decide +kernel
theorem dX10_isPlace_17 : decode cX10_isPlace 17 = .ok (.ifCond .eq 7, 3) := by decide +kernel
theorem dX10_isPlace_20 : decode cX10_isPlace 20 = .ok (.iconst 1, 1) := by decide +kernel
theorem dX10_isPlace_21 : decode cX10_isPlace 21 = .ok (.goto 4, 3) := by decide +kernel
theorem dX10_isPlace_24 : decode cX10_isPlace 24 = .ok (.iconst 0, 1) := by decide +kernel
theorem dX10_isPlace_25 : decode cX10_isPlace 25 = .ok (.ireturn, 1) := by decide +kernel
theorem dX10_isWithin_0 : decode cX10_isWithin 0 = .ok (.iload_n 0, 1) := by decide +kernel
theorem dX10_isWithin_1 : decode cX10_isWithin 1 = .ok (.iload_n 1, 1) := by decide +kernel
theorem dX10_isWithin_2 : decode cX10_isWithin 2 = .ok (.if_icmp .lt 12, 3) := by decide +kernel
theorem dX10_isWithin_5 : decode cX10_isWithin 5 = .ok (.iload_n 0, 1) := by decide +kernel
theorem dX10_isWithin_6 : decode cX10_isWithin 6 = .ok (.iload_n 2, 1) := by decide +kernel
theorem dX10_isWithin_7 : decode cX10_isWithin 7 = .ok (.if_icmp .gt 7, 3) := by decide +kernel
theorem dX10_isWithin_10 : decode cX10_isWithin 10 = .ok (.iconst 1, 1) := by decide +kernel
theorem dX10_isWithin_11 : decode cX10_isWithin 11 = .ok (.goto 4, 3) := by decide +kernel
theorem dX10_isWithin_14 : decode cX10_isWithin 14 = .ok (.iconst 0, 1) := by decide +kernel
theorem dX10_isWithin_15 : decode cX10_isWithin 15 = .ok (.ireturn, 1) := by decide +kernel
