theorem d_72_39 : decode (xB 72) 39 = .ok (.iadd, 1) := by decide +kernel
theorem d_72_40 : decode (xB 72) 40 = .ok (.istore_n 0, 1) := by decide +kernel
theorem d_72_41 : decode (xB 72) 41 = .ok (.iload_n 0, 1) := by decide +kernel
theorem d_72_42 : decode (xB 72) 42 = .ok (.iload_n 0, 1) := by decide +kernel
theorem d_72_43 : decode (xB 72) 43 = .ok (.bipush 16, 2) := by decide +kernel
theorem d_72_45 : decode (xB 72) 45 = .ok (.iushr, 1) := by decide +kernel
theorem d_72_46 : decode (xB 72) 46 = .ok (.iadd, 1) := by decide +kernel
theorem d_72_47 : decode (xB 72) 47 = .ok (.istore_n 0, 1) := by decide +kernel
theorem d_72_48 : decode (xB 72) 48 = .ok (.iload_n 0, 1) := by decide +kernel
theorem d_72_49 : decode (xB 72) 49 = .ok (.bipush 63, 2) := by decide +kernel
theorem d_72_51 : decode (xB 72) 51 = .ok (.iand, 1) := by decide +kernel
theorem d_72_52 : decode (xB 72) 52 = .ok (.ireturn, 1) := by decide +kernel
theorem d_73_0 : decode (xB 73) 0 = .ok (.aload_n 0, 1) := by decide +kernel
theorem d_73_1 : decode (xB 73) 1 = .ok (.invokespecial 1, 3) := by decide +kernel
theorem d_73_4 : decode (xB 73) 4 = .ok (.aload_n 0, 1) := by decide +kernel
theorem d_73_5 : decode (xB 73) 5 = .ok (.sipush 400, 3) := by decide +kernel
theorem d_73_8 : decode (xB 73) 8 = .ok (.newarray .int, 2) := by decide +kernel
theorem d_73_10 : decode (xB 73) 10 = .ok (.putfield 7, 3) := by decide +kernel
theorem d_73_13 : decode (xB 73) 13 = .ok (.aload_n 0, 1) := by decide +kernel
theorem d_73_14 : decode (xB 73) 14 = .ok (.sipush 400, 3) := by decide +kernel
theorem d_73_17 : decode (xB 73) 17 = .ok (.newarray .int, 2) := by decide +kernel
theorem d_73_19 : decode (xB 73) 19 = .ok (.putfield 13, 3) := by decide +kernel
theorem d_73_22 : decode (xB 73) 22 = .ok (.aload_n 0, 1) := by decide +kernel
theorem d_73_23 : decode (xB 73) 23 = .ok (.sipush 400, 3) := by decide +kernel
theorem d_73_26 : decode (xB 73) 26 = .ok (.newarray .boolean, 2) := by decide +kernel
theorem d_73_28 : decode (xB 73) 28 = .ok (.putfield 16, 3) := by decide +kernel
theorem d_73_31 : decode (xB 73) 31 = .ok (.aload_n 0, 1) := by decide +kernel
theorem d_73_32 : decode (xB 73) 32 = .ok (.bipush 6, 2) := by decide +kernel
theorem d_73_34 : decode (xB 73) 34 = .ok (.newarray .long, 2) := by decide +kernel
theorem d_73_36 : decode (xB 73) 36 = .ok (.putfield 20, 3) := by decide +kernel
theorem d_73_39 : decode (xB 73) 39 = .ok (.aload_n 0, 1) := by decide +kernel
theorem d_73_40 : decode (xB 73) 40 = .ok (.bipush 36, 2) := by decide +kernel
theorem d_73_42 : decode (xB 73) 42 = .ok (.newarray .long, 2) := by decide +kernel
theorem d_73_44 : decode (xB 73) 44 = .ok (.putfield 24, 3) := by decide +kernel
theorem d_73_47 : decode (xB 73) 47 = .ok (.aload_n 0, 1) := by decide +kernel
theorem d_73_48 : decode (xB 73) 48 = .ok (.bipush 6, 2) := by decide +kernel
theorem d_73_50 : decode (xB 73) 50 = .ok (.newarray .int, 2) := by decide +kernel
theorem d_73_52 : decode (xB 73) 52 = .ok (.putfield 27, 3) := by decide +kernel
theorem d_73_55 : decode (xB 73) 55 = .ok (.aload_n 0, 1) := by decide +kernel
theorem d_73_56 : decode (xB 73) 56 = .ok (.sipush 2400, 3) := by decide +kernel
theorem d_73_59 : decode (xB 73) 59 = .ok (.newarray .boolean, 2) := by decide +kernel
theorem d_73_61 : decode (xB 73) 61 = .ok (.putfield 30, 3) := by decide +kernel
theorem d_73_64 : decode (xB 73) 64 = .ok (.aload_n 0, 1) := by decide +kernel
theorem d_73_65 : decode (xB 73) 65 = .ok (.sipush 130, 3) := by decide +kernel
theorem d_73_68 : decode (xB 73) 68 = .ok (.newarray .long, 2) := by decide +kernel
theorem d_73_70 : decode (xB 73) 70 = .ok (.putfield 33, 3) := by decide +kernel
theorem d_73_73 : decode (xB 73) 73 = .ok (.aload_n 0, 1) := by decide +kernel
theorem d_73_74 : decode (xB 73) 74 = .ok (.sipush 130, 3) := by decide +kernel
theorem d_73_77 : decode (xB 73) 77 = .ok (.newarray .long, 2) := by decide +kernel
theorem d_73_79 : decode (xB 73) 79 = .ok (.putfield 36, 3) := by decide +kernel
theorem d_73_82 : decode (xB 73) 82 = .ok (.aload_n 0, 1) := by decide +kernel
theorem d_73_83 : decode (xB 73) 83 = .ok (.sipush 130, 3) := by decide +kernel
theorem d_73_86 : decode (xB 73) 86 = .ok (.newarray .long, 2) := by decide +kernel
theorem d_73_88 : decode (xB 73) 88 = .ok (.putfield 39, 3) := by decide +kernel
theorem d_73_91 : decode (xB 73) 91 = .ok (.aload_n 0, 1) := by decide +kernel
theorem d_73_92 : decode (xB 73) 92 = .ok (.sipush 130, 3) := by decide +kernel
theorem d_73_95 : decode (xB 73) 95 = .ok (.newarray .long, 2) := by decide +kernel
theorem d_73_97 : decode (xB 73) 97 = .ok (.putfield 42, 3) := by decide +kernel
theorem d_73_100 : decode (xB 73) 100 = .ok (.aload_n 0, 1) := by decide +kernel
theorem d_73_101 : decode (xB 73) 101 = .ok (.sipush 400, 3) := by decide +kernel
theorem d_73_104 : decode (xB 73) 104 = .ok (.newarray .int, 2) := by decide +kernel
theorem d_73_106 : decode (xB 73) 106 = .ok (.putfield 45, 3) := by decide +kernel
theorem d_73_109 : decode (xB 73) 109 = .ok (.aload_n 0, 1) := by decide +kernel
theorem d_73_110 : decode (xB 73) 110 = .ok (.iconst (-1), 1) := by decide +kernel
theorem d_73_111 : decode (xB 73) 111 = .ok (.putfield 48, 3) := by decide +kernel
theorem d_73_114 : decode (xB 73) 114 = .ok (.return_, 1) := by decide +kernel
theorem d_74_0 : decode (xB 74) 0 = .ok (.iconst 0, 1) := by decide +kernel
theorem d_74_1 : decode (xB 74) 1 = .ok (.istore_n 2, 1) := by decide +kernel
theorem d_74_2 : decode (xB 74) 2 = .ok (.iload_n 2, 1) := by decide +kernel
theorem d_74_3 : decode (xB 74) 3 = .ok (.iconst 4, 1) := by decide +kernel
theorem d_74_4 : decode (xB 74) 4 = .ok (.if_icmp .ge 22, 3) := by decide +kernel
theorem d_74_7 : decode (xB 74) 7 = .ok (.iload_n 1, 1) := by decide +kernel
theorem d_74_8 : decode (xB 74) 8 = .ok (.bipush 8, 2) := by decide +kernel
theorem d_74_10 : decode (xB 74) 10 = .ok (.iload_n 2, 1) := by decide +kernel
theorem d_74_11 : decode (xB 74) 11 = .ok (.imul, 1) := by decide +kernel
theorem d_74_12 : decode (xB 74) 12 = .ok (.ishr, 1) := by decide +kernel
theorem d_74_13 : decode (xB 74) 13 = .ok (.sipush 255, 3) := by decide +kernel
theorem d_74_16 : decode (xB 74) 16 = .ok (.iand, 1) := by decide +kernel
theorem d_74_17 : decode (xB 74) 17 = .ok (.ifCond .eq 9, 3) := by decide +kernel
theorem d_74_20 : decode (xB 74) 20 = .ok (.iinc 2 1, 3) := by decide +kernel
theorem d_74_23 : decode (xB 74) 23 = .ok (.goto (-21), 3) := by decide +kernel
theorem d_74_26 : decode (xB 74) 26 = .ok (.aload_n 0, 1) := by decide +kernel
theorem d_74_27 : decode (xB 74) 27 = .ok (.getfield 52, 3) := by decide +kernel
theorem d_74_30 : decode (xB 74) 30 = .ok (.iload_n 2, 1) := by decide +kernel
theorem d_74_31 : decode (xB 74) 31 = .ok (.iadd, 1) := by decide +kernel
theorem d_74_32 : decode (xB 74) 32 = .ok (.sipush 400, 3) := by decide +kernel
theorem d_74_35 : decode (xB 74) 35 = .ok (.if_icmp .le 5, 3) := by decide +kernel
theorem d_74_38 : decode (xB 74) 38 = .ok (.iconst (-1), 1) := by decide +kernel
theorem d_74_39 : decode (xB 74) 39 = .ok (.ireturn, 1) := by decide +kernel
theorem d_74_40 : decode (xB 74) 40 = .ok (.iconst 0, 1) := by decide +kernel
theorem d_74_41 : decode (xB 74) 41 = .ok (.istore_n 3, 1) := by decide +kernel
theorem d_74_42 : decode (xB 74) 42 = .ok (.iload_n 3, 1) := by decide +kernel
theorem d_74_43 : decode (xB 74) 43 = .ok (.iload_n 2, 1) := by decide +kernel
theorem d_74_44 : decode (xB 74) 44 = .ok (.if_icmp .ge 30, 3) := by decide +kernel
theorem d_74_47 : decode (xB 74) 47 = .ok (.aload_n 0, 1) := by decide +kernel
theorem d_74_48 : decode (xB 74) 48 = .ok (.getfield 7, 3) := by decide +kernel
theorem d_74_51 : decode (xB 74) 51 = .ok (.aload_n 0, 1) := by decide +kernel
theorem d_74_52 : decode (xB 74) 52 = .ok (.getfield 52, 3) := by decide +kernel
theorem d_74_55 : decode (xB 74) 55 = .ok (.iload_n 3, 1) := by decide +kernel
theorem d_74_56 : decode (xB 74) 56 = .ok (.iadd, 1) := by decide +kernel
theorem d_74_57 : decode (xB 74) 57 = .ok (.iload_n 1, 1) := by decide +kernel
theorem d_74_58 : decode (xB 74) 58 = .ok (.bipush 8, 2) := by decide +kernel
theorem d_74_60 : decode (xB 74) 60 = .ok (.iload_n 3, 1) := by decide +kernel
theorem d_74_61 : decode (xB 74) 61 = .ok (.imul, 1) := by decide +kernel
theorem d_74_62 : decode (xB 74) 62 = .ok (.ishr, 1) := by decide +kernel
theorem d_74_63 : decode (xB 74) 63 = .ok (.sipush 255, 3) := by decide +kernel
theorem d_74_66 : decode (xB 74) 66 = .ok (.iand, 1) := by decide +kernel
theorem d_74_67 : decode (xB 74) 67 = .ok (.iastore, 1) := by decide +kernel
theorem d_74_68 : decode (xB 74) 68 = .ok (.iinc 3 1, 3) := by decide +kernel
theorem d_74_71 : decode (xB 74) 71 = .ok (.goto (-29), 3) := by decide +kernel
theorem d_74_74 : decode (xB 74) 74 = .ok (.aload_n 0, 1) := by decide +kernel
theorem d_74_75 : decode (xB 74) 75 = .ok (.aload_n 0, 1) := by decide +kernel
theorem d_74_76 : decode (xB 74) 76 = .ok (.getfield 52, 3) := by decide +kernel
theorem d_74_79 : decode (xB 74) 79 = .ok (.iload_n 2, 1) := by decide +kernel
theorem d_74_80 : decode (xB 74) 80 = .ok (.iadd, 1) := by decide +kernel
theorem d_74_81 : decode (xB 74) 81 = .ok (.putfield 52, 3) := by decide +kernel
theorem d_74_84 : decode (xB 74) 84 = .ok (.iload_n 2, 1) := by decide +kernel
theorem d_74_85 : decode (xB 74) 85 = .ok (.ireturn, 1) := by decide +kernel
theorem d_75_0 : decode (xB 75) 0 = .ok (.aload_n 0, 1) := by decide +kernel
theorem d_75_1 : decode (xB 75) 1 = .ok (.getfield 52, 3) := by decide +kernel
theorem d_75_4 : decode (xB 75) 4 = .ok (.ireturn, 1) := by decide +kernel
theorem d_76_0 : decode (xB 76) 0 = .ok (.aload_n 0, 1) := by decide +kernel
theorem d_76_1 : decode (xB 76) 1 = .ok (.iconst 0, 1) := by decide +kernel
theorem d_76_2 : decode (xB 76) 2 = .ok (.putfield 52, 3) := by decide +kernel
theorem d_76_5 : decode (xB 76) 5 = .ok (.return_, 1) := by decide +kernel
theorem d_77_0 : decode (xB 77) 0 = .ok (.iload_n 1, 1) := by decide +kernel
theorem d_77_1 : decode (xB 77) 1 = .ok (.iconst 1, 1) := by decide +kernel
theorem d_77_2 : decode (xB 77) 2 = .ok (.if_icmp .lt 20, 3) := by decide +kernel
theorem d_77_5 : decode (xB 77) 5 = .ok (.iload_n 1, 1) := by decide +kernel
theorem d_77_6 : decode (xB 77) 6 = .ok (.bipush 20, 2) := by decide +kernel
theorem d_77_8 : decode (xB 77) 8 = .ok (.if_icmp .gt 14, 3) := by decide +kernel
theorem d_77_11 : decode (xB 77) 11 = .ok (.iload_n 2, 1) := by decide +kernel
theorem d_77_12 : decode (xB 77) 12 = .ok (.iconst 1, 1) := by decide +kernel
theorem d_77_13 : decode (xB 77) 13 = .ok (.if_icmp .lt 9, 3) := by decide +kernel
theorem d_77_16 : decode (xB 77) 16 = .ok (.iload_n 2, 1) := by decide +kernel
theorem d_77_17 : decode (xB 77) 17 = .ok (.bipush 20, 2) := by decide +kernel
theorem d_77_19 : decode (xB 77) 19 = .ok (.if_icmp .le 5, 3) := by decide +kernel
theorem d_77_22 : decode (xB 77) 22 = .ok (.iconst (-1), 1) := by decide +kernel
theorem d_77_23 : decode (xB 77) 23 = .ok (.ireturn, 1) := by decide +kernel
theorem d_77_24 : decode (xB 77) 24 = .ok (.aload_n 0, 1) := by decide +kernel
theorem d_77_25 : decode (xB 77) 25 = .ok (.iload_n 1, 1) := by decide +kernel
theorem d_77_26 : decode (xB 77) 26 = .ok (.putfield 65, 3) := by decide +kernel
theorem d_77_29 : decode (xB 77) 29 = .ok (.aload_n 0, 1) := by decide +kernel
theorem d_77_30 : decode (xB 77) 30 = .ok (.iload_n 2, 1) := by decide +kernel
theorem d_77_31 : decode (xB 77) 31 = .ok (.putfield 68, 3) := by decide +kernel
theorem d_77_34 : decode (xB 77) 34 = .ok (.iconst 0, 1) := by decide +kernel
theorem d_77_35 : decode (xB 77) 35 = .ok (.istore_n 3, 1) := by decide +kernel
theorem d_77_36 : decode (xB 77) 36 = .ok (.iload_n 3, 1) := by decide +kernel
theorem d_77_37 : decode (xB 77) 37 = .ok (.sipush 400, 3) := by decide +kernel
theorem d_77_40 : decode (xB 77) 40 = .ok (.if_icmp .ge 25, 3) := by decide +kernel
theorem d_77_43 : decode (xB 77) 43 = .ok (.aload_n 0, 1) := by decide +kernel
theorem d_77_44 : decode (xB 77) 44 = .ok (.getfield 13, 3) := by decide +kernel
theorem d_77_47 : decode (xB 77) 47 = .ok (.iload_n 3, 1) := by decide +kernel
theorem d_77_48 : decode (xB 77) 48 = .ok (.sipush 255, 3) := by decide +kernel
theorem d_77_51 : decode (xB 77) 51 = .ok (.iastore, 1) := by decide +kernel
theorem d_77_52 : decode (xB 77) 52 = .ok (.aload_n 0, 1) := by decide +kernel
theorem d_77_53 : decode (xB 77) 53 = .ok (.getfield 16, 3) := by decide +kernel
theorem d_77_56 : decode (xB 77) 56 = .ok (.iload_n 3, 1) := by decide +kernel
theorem d_77_57 : decode (xB 77) 57 = .ok (.iconst 1, 1) := by decide +kernel
theorem d_77_58 : decode (xB 77) 58 = .ok (.bastore, 1) := by decide +kernel
theorem d_77_59 : decode (xB 77) 59 = .ok (.iinc 3 1, 3) := by decide +kernel
theorem d_77_62 : decode (xB 77) 62 = .ok (.goto (-26), 3) := by decide +kernel
theorem d_77_65 : decode (xB 77) 65 = .ok (.iconst 0, 1) := by decide +kernel
theorem d_77_66 : decode (xB 77) 66 = .ok (.istore_n 3, 1) := by decide +kernel
theorem d_77_67 : decode (xB 77) 67 = .ok (.iload_n 3, 1) := by decide +kernel
theorem d_77_68 : decode (xB 77) 68 = .ok (.bipush 6, 2) := by decide +kernel
theorem d_77_70 : decode (xB 77) 70 = .ok (.if_icmp .ge 29, 3) := by decide +kernel
theorem d_77_73 : decode (xB 77) 73 = .ok (.aload_n 0, 1) := by decide +kernel
theorem d_77_74 : decode (xB 77) 74 = .ok (.getfield 20, 3) := by decide +kernel
theorem d_77_77 : decode (xB 77) 77 = .ok (.iload_n 3, 1) := by decide +kernel
theorem d_77_78 : decode (xB 77) 78 = .ok (.iload_n 3, 1) := by decide +kernel
theorem d_77_79 : decode (xB 77) 79 = .ok (.ifCond .eq 8, 3) := by decide +kernel
theorem d_77_82 : decode (xB 77) 82 = .ok (.iload_n 3, 1) := by decide +kernel
theorem d_77_83 : decode (xB 77) 83 = .ok (.iconst 3, 1) := by decide +kernel
theorem d_77_84 : decode (xB 77) 84 = .ok (.if_icmp .ne 7, 3) := by decide +kernel
theorem d_77_87 : decode (xB 77) 87 = .ok (.lconst 1, 1) := by decide +kernel
theorem d_77_88 : decode (xB 77) 88 = .ok (.goto 4, 3) := by decide +kernel
theorem d_77_91 : decode (xB 77) 91 = .ok (.lconst 0, 1) := by decide +kernel
theorem d_77_92 : decode (xB 77) 92 = .ok (.lastore, 1) := by decide +kernel
theorem d_77_93 : decode (xB 77) 93 = .ok (.iinc 3 1, 3) := by decide +kernel
theorem d_77_96 : decode (xB 77) 96 = .ok (.goto (-29), 3) := by decide +kernel
theorem d_77_99 : decode (xB 77) 99 = .ok (.aload_n 0, 1) := by decide +kernel
theorem d_77_100 : decode (xB 77) 100 = .ok (.iconst 0, 1) := by decide +kernel
theorem d_77_101 : decode (xB 77) 101 = .ok (.putfield 71, 3) := by decide +kernel
theorem d_77_104 : decode (xB 77) 104 = .ok (.aload_n 0, 1) := by decide +kernel
theorem d_77_105 : decode (xB 77) 105 = .ok (.iconst 0, 1) := by decide +kernel
theorem d_77_106 : decode (xB 77) 106 = .ok (.putfield 74, 3) := by decide +kernel
theorem d_77_109 : decode (xB 77) 109 = .ok (.aload_n 0, 1) := by decide +kernel
theorem d_77_110 : decode (xB 77) 110 = .ok (.iconst 0, 1) := by decide +kernel
theorem d_77_111 : decode (xB 77) 111 = .ok (.putfield 77, 3) := by decide +kernel
theorem d_77_114 : decode (xB 77) 114 = .ok (.aload_n 0, 1) := by decide +kernel
theorem d_77_115 : decode (xB 77) 115 = .ok (.iconst 0, 1) := by decide +kernel
theorem d_77_116 : decode (xB 77) 116 = .ok (.putfield 81, 3) := by decide +kernel
theorem d_77_119 : decode (xB 77) 119 = .ok (.aload_n 0, 1) := by decide +kernel
theorem d_77_120 : decode (xB 77) 120 = .ok (.iconst 0, 1) := by decide +kernel
theorem d_77_121 : decode (xB 77) 121 = .ok (.putfield 84, 3) := by decide +kernel
theorem d_77_124 : decode (xB 77) 124 = .ok (.aload_n 0, 1) := by decide +kernel
theorem d_77_125 : decode (xB 77) 125 = .ok (.iconst 0, 1) := by decide +kernel
theorem d_77_126 : decode (xB 77) 126 = .ok (.putfield 87, 3) := by decide +kernel
theorem d_77_129 : decode (xB 77) 129 = .ok (.aload_n 0, 1) := by decide +kernel
theorem d_77_130 : decode (xB 77) 130 = .ok (.iconst 0, 1) := by decide +kernel
theorem d_77_131 : decode (xB 77) 131 = .ok (.putfield 90, 3) := by decide +kernel
theorem d_77_134 : decode (xB 77) 134 = .ok (.aload_n 0, 1) := by decide +kernel
theorem d_77_135 : decode (xB 77) 135 = .ok (.iconst 0, 1) := by decide +kernel
theorem d_77_136 : decode (xB 77) 136 = .ok (.putfield 93, 3) := by decide +kernel
theorem d_77_139 : decode (xB 77) 139 = .ok (.aload_n 0, 1) := by decide +kernel
theorem d_77_140 : decode (xB 77) 140 = .ok (.iconst 1, 1) := by decide +kernel
theorem d_77_141 : decode (xB 77) 141 = .ok (.putfield 96, 3) := by decide +kernel
theorem d_77_144 : decode (xB 77) 144 = .ok (.aload_n 0, 1) := by decide +kernel
theorem d_77_145 : decode (xB 77) 145 = .ok (.iconst 0, 1) := by decide +kernel
theorem d_77_146 : decode (xB 77) 146 = .ok (.putfield 99, 3) := by decide +kernel
theorem d_77_149 : decode (xB 77) 149 = .ok (.aload_n 0, 1) := by decide +kernel
theorem d_77_150 : decode (xB 77) 150 = .ok (.iconst (-1), 1) := by decide +kernel
theorem d_77_151 : decode (xB 77) 151 = .ok (.putfield 48, 3) := by decide +kernel
theorem d_77_154 : decode (xB 77) 154 = .ok (.iconst 0, 1) := by decide +kernel
theorem d_77_155 : decode (xB 77) 155 = .ok (.istore_n 3, 1) := by decide +kernel
theorem d_77_156 : decode (xB 77) 156 = .ok (.iconst 0, 1) := by decide +kernel
theorem d_77_157 : decode (xB 77) 157 = .ok (.istore 4, 2) := by decide +kernel
theorem d_77_159 : decode (xB 77) 159 = .ok (.iload 4, 2) := by decide +kernel
theorem d_77_161 : decode (xB 77) 161 = .ok (.sipush 500, 3) := by decide +kernel
theorem d_77_164 : decode (xB 77) 164 = .ok (.if_icmp .ge 30, 3) := by decide +kernel
theorem d_77_167 : decode (xB 77) 167 = .ok (.iload_n 3, 1) := by decide +kernel
theorem d_77_168 : decode (xB 77) 168 = .ok (.aload_n 0, 1) := by decide +kernel
theorem d_77_169 : decode (xB 77) 169 = .ok (.getfield 52, 3) := by decide +kernel
theorem d_77_172 : decode (xB 77) 172 = .ok (.if_icmp .ge 22, 3) := by decide +kernel
theorem d_77_175 : decode (xB 77) 175 = .ok (.aload_n 0, 1) := by decide +kernel
theorem d_77_176 : decode (xB 77) 176 = .ok (.getfield 99, 3) := by decide +kernel
theorem d_77_179 : decode (xB 77) 179 = .ok (.ifCond .ne 15, 3) := by decide +kernel
theorem d_77_182 : decode (xB 77) 182 = .ok (.aload_n 0, 1) := by decide +kernel
theorem d_77_183 : decode (xB 77) 183 = .ok (.iload_n 3, 1) := by decide +kernel
theorem d_77_184 : decode (xB 77) 184 = .ok (.invokevirtual 102, 3) := by decide +kernel
theorem d_77_187 : decode (xB 77) 187 = .ok (.istore_n 3, 1) := by decide +kernel
theorem d_77_188 : decode (xB 77) 188 = .ok (.iinc 4 1, 3) := by decide +kernel
theorem d_77_191 : decode (xB 77) 191 = .ok (.goto (-32), 3) := by decide +kernel
theorem d_77_194 : decode (xB 77) 194 = .ok (.aload_n 0, 1) := by decide +kernel
theorem d_77_195 : decode (xB 77) 195 = .ok (.getfield 99, 3) := by decide +kernel
theorem d_77_198 : decode (xB 77) 198 = .ok (.ifCond .ne 59, 3) := by decide +kernel
theorem d_77_201 : decode (xB 77) 201 = .ok (.aload_n 0, 1) := by decide +kernel
theorem d_77_202 : decode (xB 77) 202 = .ok (.getfield 84, 3) := by decide +kernel
theorem d_77_205 : decode (xB 77) 205 = .ok (.ifCond .le 15, 3) := by decide +kernel
theorem d_77_208 : decode (xB 77) 208 = .ok (.aload_n 0, 1) := by decide +kernel
theorem d_77_209 : decode (xB 77) 209 = .ok (.iconst 3, 1) := by decide +kernel
theorem d_77_210 : decode (xB 77) 210 = .ok (.aload_n 0, 1) := by decide +kernel
theorem d_77_211 : decode (xB 77) 211 = .ok (.getfield 52, 3) := by decide +kernel
theorem d_77_214 : decode (xB 77) 214 = .ok (.invokevirtual 106, 3) := by decide +kernel
theorem d_77_217 : decode (xB 77) 217 = .ok (.goto 40, 3) := by decide +kernel
theorem d_77_220 : decode (xB 77) 220 = .ok (.aload_n 0, 1) := by decide +kernel
theorem d_77_221 : decode (xB 77) 221 = .ok (.getfield 77, 3) := by decide +kernel
theorem d_77_224 : decode (xB 77) 224 = .ok (.ifCond .eq 16, 3) := by decide +kernel
theorem d_77_227 : decode (xB 77) 227 = .ok (.aload_n 0, 1) := by decide +kernel
theorem d_77_228 : decode (xB 77) 228 = .ok (.bipush 11, 2) := by decide +kernel
theorem d_77_230 : decode (xB 77) 230 = .ok (.aload_n 0, 1) := by decide +kernel
theorem d_77_231 : decode (xB 77) 231 = .ok (.getfield 52, 3) := by decide +kernel
theorem d_77_234 : decode (xB 77) 234 = .ok (.invokevirtual 106, 3) := by decide +kernel
theorem d_77_237 : decode (xB 77) 237 = .ok (.goto 20, 3) := by decide +kernel
theorem d_77_240 : decode (xB 77) 240 = .ok (.aload_n 0, 1) := by decide +kernel
theorem d_77_241 : decode (xB 77) 241 = .ok (.getfield 74, 3) := by decide +kernel
theorem d_77_244 : decode (xB 77) 244 = .ok (.ifCond .le 13, 3) := by decide +kernel
theorem d_77_247 : decode (xB 77) 247 = .ok (.aload_n 0, 1) := by decide +kernel
theorem d_77_248 : decode (xB 77) 248 = .ok (.bipush 9, 2) := by decide +kernel
theorem d_77_250 : decode (xB 77) 250 = .ok (.aload_n 0, 1) := by decide +kernel
theorem d_77_251 : decode (xB 77) 251 = .ok (.getfield 52, 3) := by decide +kernel
theorem d_77_254 : decode (xB 77) 254 = .ok (.invokevirtual 106, 3) := by decide +kernel
theorem d_77_257 : decode (xB 77) 257 = .ok (.aload_n 0, 1) := by decide +kernel
theorem d_77_258 : decode (xB 77) 258 = .ok (.getfield 99, 3) := by decide +kernel
theorem d_77_261 : decode (xB 77) 261 = .ok (.ireturn, 1) := by decide +kernel
theorem d_78_0 : decode (xB 78) 0 = .ok (.aload_n 0, 1) := by decide +kernel
theorem d_78_1 : decode (xB 78) 1 = .ok (.getfield 7, 3) := by decide +kernel
theorem d_78_4 : decode (xB 78) 4 = .ok (.iload_n 1, 1) := by decide +kernel
theorem d_78_5 : decode (xB 78) 5 = .ok (.iaload, 1) := by decide +kernel
theorem d_78_6 : decode (xB 78) 6 = .ok (.istore_n 2, 1) := by decide +kernel
theorem d_78_7 : decode (xB 78) 7 = .ok (.iload_n 2, 1) := by decide +kernel
theorem d_78_8 : decode (xB 78) 8 = .ok (.invokestatic 55, 3) := by decide +kernel
theorem d_78_11 : decode (xB 78) 11 = .ok (.ifCond .eq 7, 3) := by decide +kernel
theorem d_78_14 : decode (xB 78) 14 = .ok (.iload_n 1, 1) := by decide +kernel
theorem d_78_15 : decode (xB 78) 15 = .ok (.iconst 1, 1) := by decide +kernel
theorem d_78_16 : decode (xB 78) 16 = .ok (.iadd, 1) := by decide +kernel
theorem d_78_17 : decode (xB 78) 17 = .ok (.ireturn, 1) := by decide +kernel
theorem d_78_18 : decode (xB 78) 18 = .ok (.iload_n 2, 1) := by decide +kernel
theorem d_78_19 : decode (xB 78) 19 = .ok (.bipush 37, 2) := by decide +kernel
theorem d_78_21 : decode (xB 78) 21 = .ok (.if_icmp .ne 9, 3) := by decide +kernel
theorem d_78_24 : decode (xB 78) 24 = .ok (.aload_n 0, 1) := by decide +kernel
theorem d_78_25 : decode (xB 78) 25 = .ok (.iload_n 1, 1) := by decide +kernel
theorem d_78_26 : decode (xB 78) 26 = .ok (.invokevirtual 110, 3) := by decide +kernel
theorem d_78_29 : decode (xB 78) 29 = .ok (.ireturn, 1) := by decide +kernel
theorem d_78_30 : decode (xB 78) 30 = .ok (.iload_n 2, 1) := by decide +kernel
theorem d_78_31 : decode (xB 78) 31 = .ok (.invokestatic 59, 3) := by decide +kernel
theorem d_78_34 : decode (xB 78) 34 = .ok (.ifCond .eq 11, 3) := by decide +kernel
theorem d_78_37 : decode (xB 78) 37 = .ok (.aload_n 0, 1) := by decide +kernel
theorem d_78_38 : decode (xB 78) 38 = .ok (.iconst 1, 1) := by decide +kernel
theorem d_78_39 : decode (xB 78) 39 = .ok (.iload_n 1, 1) := by decide +kernel
theorem d_78_40 : decode (xB 78) 40 = .ok (.invokevirtual 106, 3) := by decide +kernel
theorem d_78_43 : decode (xB 78) 43 = .ok (.iload_n 1, 1) := by decide +kernel
theorem d_78_44 : decode (xB 78) 44 = .ok (.ireturn, 1) := by decide +kernel
theorem d_78_45 : decode (xB 78) 45 = .ok (.aload_n 0, 1) := by decide +kernel
theorem d_78_46 : decode (xB 78) 46 = .ok (.iload_n 1, 1) := by decide +kernel
theorem d_78_47 : decode (xB 78) 47 = .ok (.invokevirtual 113, 3) := by decide +kernel
theorem d_78_50 : decode (xB 78) 50 = .ok (.istore_n 3, 1) := by decide +kernel
theorem d_78_51 : decode (xB 78) 51 = .ok (.iload_n 2, 1) := by decide +kernel
theorem d_78_52 : decode (xB 78) 52 = .ok (.invokestatic 62, 3) := by decide +kernel
theorem d_78_55 : decode (xB 78) 55 = .ok (.ifCond .ne 15, 3) := by decide +kernel
theorem d_78_58 : decode (xB 78) 58 = .ok (.iload_n 2, 1) := by decide +kernel
theorem d_78_59 : decode (xB 78) 59 = .ok (.bipush 43, 2) := by decide +kernel
theorem d_78_61 : decode (xB 78) 61 = .ok (.if_icmp .eq 9, 3) := by decide +kernel
theorem d_78_64 : decode (xB 78) 64 = .ok (.iload_n 2, 1) := by decide +kernel
theorem d_78_65 : decode (xB 78) 65 = .ok (.bipush 45, 2) := by decide +kernel
theorem d_78_67 : decode (xB 78) 67 = .ok (.if_icmp .ne 48, 3) := by decide +kernel
theorem d_78_70 : decode (xB 78) 70 = .ok (.aload_n 0, 1) := by decide +kernel
theorem d_78_71 : decode (xB 78) 71 = .ok (.iload_n 1, 1) := by decide +kernel
theorem d_78_72 : decode (xB 78) 72 = .ok (.iload_n 3, 1) := by decide +kernel
theorem d_78_73 : decode (xB 78) 73 = .ok (.invokevirtual 116, 3) := by decide +kernel
theorem d_78_76 : decode (xB 78) 76 = .ok (.istore 4, 2) := by decide +kernel
theorem d_78_78 : decode (xB 78) 78 = .ok (.iload 4, 2) := by decide +kernel
theorem d_78_80 : decode (xB 78) 80 = .ok (.sipush 20000, 3) := by decide +kernel
theorem d_78_83 : decode (xB 78) 83 = .ok (.if_icmp .ne 9, 3) := by decide +kernel
theorem d_78_86 : decode (xB 78) 86 = .ok (.aload_n 0, 1) := by decide +kernel
theorem d_78_87 : decode (xB 78) 87 = .ok (.iconst 1, 1) := by decide +kernel
theorem d_78_88 : decode (xB 78) 88 = .ok (.iload_n 1, 1) := by decide +kernel
theorem d_78_89 : decode (xB 78) 89 = .ok (.invokevirtual 106, 3) := by decide +kernel
theorem d_78_92 : decode (xB 78) 92 = .ok (.aload_n 0, 1) := by decide +kernel
theorem d_78_93 : decode (xB 78) 93 = .ok (.getfield 45, 3) := by decide +kernel
theorem d_78_96 : decode (xB 78) 96 = .ok (.aload_n 0, 1) := by decide +kernel
theorem d_78_97 : decode (xB 78) 97 = .ok (.getfield 84, 3) := by decide +kernel
theorem d_78_100 : decode (xB 78) 100 = .ok (.iload 4, 2) := by decide +kernel
theorem d_78_102 : decode (xB 78) 102 = .ok (.iastore, 1) := by decide +kernel
theorem d_78_103 : decode (xB 78) 103 = .ok (.aload_n 0, 1) := by decide +kernel
theorem d_78_104 : decode (xB 78) 104 = .ok (.dup, 1) := by decide +kernel
theorem d_78_105 : decode (xB 78) 105 = .ok (.getfield 84, 3) := by decide +kernel
theorem d_78_108 : decode (xB 78) 108 = .ok (.iconst 1, 1) := by decide +kernel
theorem d_78_109 : decode (xB 78) 109 = .ok (.iadd, 1) := by decide +kernel
theorem d_78_110 : decode (xB 78) 110 = .ok (.putfield 84, 3) := by decide +kernel
theorem d_78_113 : decode (xB 78) 113 = .ok (.iload_n 3, 1) := by decide +kernel
theorem d_78_114 : decode (xB 78) 114 = .ok (.ireturn, 1) := by decide +kernel
theorem d_78_115 : decode (xB 78) 115 = .ok (.aload_n 0, 1) := by decide +kernel
theorem d_78_116 : decode (xB 78) 116 = .ok (.iload_n 1, 1) := by decide +kernel
theorem d_78_117 : decode (xB 78) 117 = .ok (.iload_n 3, 1) := by decide +kernel
theorem d_78_118 : decode (xB 78) 118 = .ok (.invokevirtual 120, 3) := by decide +kernel
theorem d_78_121 : decode (xB 78) 121 = .ok (.istore 4, 2) := by decide +kernel
theorem d_78_123 : decode (xB 78) 123 = .ok (.aload_n 0, 1) := by decide +kernel
theorem d_78_124 : decode (xB 78) 124 = .ok (.iload 4, 2) := by decide +kernel
theorem d_78_126 : decode (xB 78) 126 = .ok (.invokevirtual 123, 3) := by decide +kernel
theorem d_78_129 : decode (xB 78) 129 = .ok (.istore 5, 2) := by decide +kernel
theorem d_78_131 : decode (xB 78) 131 = .ok (.iload 5, 2) := by decide +kernel
theorem d_78_133 : decode (xB 78) 133 = .ok (.ifCond .le 13, 3) := by decide +kernel
theorem d_78_136 : decode (xB 78) 136 = .ok (.aload_n 0, 1) := by decide +kernel
theorem d_78_137 : decode (xB 78) 137 = .ok (.iload 5, 2) := by decide +kernel
theorem d_78_139 : decode (xB 78) 139 = .ok (.iload_n 1, 1) := by decide +kernel
theorem d_78_140 : decode (xB 78) 140 = .ok (.invokevirtual 106, 3) := by decide +kernel
theorem d_78_143 : decode (xB 78) 143 = .ok (.goto 14, 3) := by decide +kernel
theorem d_78_146 : decode (xB 78) 146 = .ok (.aload_n 0, 1) := by decide +kernel
theorem d_78_147 : decode (xB 78) 147 = .ok (.iload 4, 2) := by decide +kernel
theorem d_78_149 : decode (xB 78) 149 = .ok (.invokevirtual 126, 3) := by decide +kernel
theorem d_78_152 : decode (xB 78) 152 = .ok (.aload_n 0, 1) := by decide +kernel
theorem d_78_153 : decode (xB 78) 153 = .ok (.iconst 0, 1) := by decide +kernel
theorem d_78_154 : decode (xB 78) 154 = .ok (.putfield 84, 3) := by decide +kernel
theorem d_78_157 : decode (xB 78) 157 = .ok (.iload_n 3, 1) := by decide +kernel
theorem d_78_158 : decode (xB 78) 158 = .ok (.ireturn, 1) := by decide +kernel
theorem d_79_0 : decode (xB 79) 0 = .ok (.iload_n 0, 1) := by decide +kernel
theorem d_79_1 : decode (xB 79) 1 = .ok (.bipush 9, 2) := by decide +kernel
theorem d_79_3 : decode (xB 79) 3 = .ok (.if_icmp .eq 27, 3) := by decide +kernel
theorem d_79_6 : decode (xB 79) 6 = .ok (.iload_n 0, 1) := by decide +kernel
theorem d_79_7 : decode (xB 79) 7 = .ok (.bipush 10, 2) := by decide +kernel
theorem d_79_9 : decode (xB 79) 9 = .ok (.if_icmp .eq 21, 3) := by decide +kernel
theorem d_79_12 : decode (xB 79) 12 = .ok (.iload_n 0, 1) := by decide +kernel
theorem d_79_13 : decode (xB 79) 13 = .ok (.bipush 12, 2) := by decide +kernel
theorem d_79_15 : decode (xB 79) 15 = .ok (.if_icmp .eq 15, 3) := by decide +kernel
theorem d_79_18 : decode (xB 79) 18 = .ok (.iload_n 0, 1) := by decide +kernel
theorem d_79_19 : decode (xB 79) 19 = .ok (.bipush 13, 2) := by decide +kernel
theorem d_79_21 : decode (xB 79) 21 = .ok (.if_icmp .eq 9, 3) := by decide +kernel
theorem d_79_24 : decode (xB 79) 24 = .ok (.iload_n 0, 1) := by decide +kernel
theorem d_79_25 : decode (xB 79) 25 = .ok (.bipush 32, 2) := by decide +kernel
theorem d_79_27 : decode (xB 79) 27 = .ok (.if_icmp .ne 7, 3) := by decide +kernel
theorem d_79_30 : decode (xB 79) 30 = .ok (.iconst 1, 1) := by decide +kernel
theorem d_79_31 : decode (xB 79) 31 = .ok (.goto 4, 3) := by decide +kernel
theorem d_79_34 : decode (xB 79) 34 = .ok (.iconst 0, 1) := by decide +kernel
theorem d_79_35 : decode (xB 79) 35 = .ok (.ireturn, 1) := by decide +kernel
theorem d_80_0 : decode (xB 80) 0 = .ok (.iload_n 1, 1) := by decide +kernel
theorem d_80_1 : decode (xB 80) 1 = .ok (.istore_n 2, 1) := by decide +kernel
theorem d_80_2 : decode (xB 80) 2 = .ok (.iload_n 2, 1) := by decide +kernel
theorem d_80_3 : decode (xB 80) 3 = .ok (.aload_n 0, 1) := by decide +kernel
theorem d_80_4 : decode (xB 80) 4 = .ok (.getfield 52, 3) := by decide +kernel
theorem d_80_7 : decode (xB 80) 7 = .ok (.if_icmp .ge 31, 3) := by decide +kernel
theorem d_80_10 : decode (xB 80) 10 = .ok (.aload_n 0, 1) := by decide +kernel
theorem d_80_11 : decode (xB 80) 11 = .ok (.getfield 7, 3) := by decide +kernel
theorem d_80_14 : decode (xB 80) 14 = .ok (.iload_n 2, 1) := by decide +kernel
theorem d_80_15 : decode (xB 80) 15 = .ok (.iaload, 1) := by decide +kernel
theorem d_80_16 : decode (xB 80) 16 = .ok (.bipush 10, 2) := by decide +kernel
theorem d_80_18 : decode (xB 80) 18 = .ok (.if_icmp .eq 20, 3) := by decide +kernel
theorem d_80_21 : decode (xB 80) 21 = .ok (.aload_n 0, 1) := by decide +kernel
theorem d_80_22 : decode (xB 80) 22 = .ok (.getfield 7, 3) := by decide +kernel
theorem d_80_25 : decode (xB 80) 25 = .ok (.iload_n 2, 1) := by decide +kernel
theorem d_80_26 : decode (xB 80) 26 = .ok (.iaload, 1) := by decide +kernel
theorem d_80_27 : decode (xB 80) 27 = .ok (.bipush 13, 2) := by decide +kernel
theorem d_80_29 : decode (xB 80) 29 = .ok (.if_icmp .eq 9, 3) := by decide +kernel
theorem d_80_32 : decode (xB 80) 32 = .ok (.iinc 2 1, 3) := by decide +kernel
theorem d_80_35 : decode (xB 80) 35 = .ok (.goto (-33), 3) := by decide +kernel
theorem d_80_38 : decode (xB 80) 38 = .ok (.iload_n 2, 1) := by decide +kernel
theorem d_80_39 : decode (xB 80) 39 = .ok (.ireturn, 1) := by decide +kernel
theorem d_81_0 : decode (xB 81) 0 = .ok (.iload_n 0, 1) := by decide +kernel
theorem d_81_1 : decode (xB 81) 1 = .ok (.bipush 40, 2) := by decide +kernel
theorem d_81_3 : decode (xB 81) 3 = .ok (.if_icmp .eq 51, 3) := by decide +kernel
theorem d_81_6 : decode (xB 81) 6 = .ok (.iload_n 0, 1) := by decide +kernel
theorem d_81_7 : decode (xB 81) 7 = .ok (.bipush 41, 2) := by decide +kernel
theorem d_81_9 : decode (xB 81) 9 = .ok (.if_icmp .eq 45, 3) := by decide +kernel
theorem d_81_12 : decode (xB 81) 12 = .ok (.iload_n 0, 1) := by decide +kernel
theorem d_81_13 : decode (xB 81) 13 = .ok (.bipush 60, 2) := by decide +kernel
theorem d_81_15 : decode (xB 81) 15 = .ok (.if_icmp .eq 39, 3) := by decide +kernel
theorem d_81_18 : decode (xB 81) 18 = .ok (.iload_n 0, 1) := by decide +kernel
theorem d_81_19 : decode (xB 81) 19 = .ok (.bipush 62, 2) := by decide +kernel
theorem d_81_21 : decode (xB 81) 21 = .ok (.if_icmp .eq 33, 3) := by decide +kernel
theorem d_81_24 : decode (xB 81) 24 = .ok (.iload_n 0, 1) := by decide +kernel
theorem d_81_25 : decode (xB 81) 25 = .ok (.bipush 91, 2) := by decide +kernel
theorem d_81_27 : decode (xB 81) 27 = .ok (.if_icmp .eq 27, 3) := by decide +kernel
theorem d_81_30 : decode (xB 81) 30 = .ok (.iload_n 0, 1) := by decide +kernel
theorem d_81_31 : decode (xB 81) 31 = .ok (.bipush 93, 2) := by decide +kernel
theorem d_81_33 : decode (xB 81) 33 = .ok (.if_icmp .eq 21, 3) := by decide +kernel
theorem d_81_36 : decode (xB 81) 36 = .ok (.iload_n 0, 1) := by decide +kernel
theorem d_81_37 : decode (xB 81) 37 = .ok (.bipush 123, 2) := by decide +kernel
theorem d_81_39 : decode (xB 81) 39 = .ok (.if_icmp .eq 15, 3) := by decide +kernel
theorem d_81_42 : decode (xB 81) 42 = .ok (.iload_n 0, 1) := by decide +kernel
theorem d_81_43 : decode (xB 81) 43 = .ok (.bipush 125, 2) := by decide +kernel
theorem d_81_45 : decode (xB 81) 45 = .ok (.if_icmp .eq 9, 3) := by decide +kernel
theorem d_81_48 : decode (xB 81) 48 = .ok (.iload_n 0, 1) := by decide +kernel
theorem d_81_49 : decode (xB 81) 49 = .ok (.bipush 47, 2) := by decide +kernel
theorem d_81_51 : decode (xB 81) 51 = .ok (.if_icmp .ne 7, 3) := by decide +kernel
theorem d_81_54 : decode (xB 81) 54 = .ok (.iconst 1, 1) := by decide +kernel
theorem d_81_55 : decode (xB 81) 55 = .ok (.goto 4, 3) := by decide +kernel
theorem d_81_58 : decode (xB 81) 58 = .ok (.iconst 0, 1) := by decide +kernel
theorem d_81_59 : decode (xB 81) 59 = .ok (.ireturn, 1) := by decide +kernel
theorem d_82_0 : decode (xB 82) 0 = .ok (.aload_n 0, 1) := by decide +kernel
theorem d_82_1 : decode (xB 82) 1 = .ok (.iload_n 1, 1) := by decide +kernel
theorem d_82_2 : decode (xB 82) 2 = .ok (.putfield 99, 3) := by decide +kernel
theorem d_82_5 : decode (xB 82) 5 = .ok (.aload_n 0, 1) := by decide +kernel
theorem d_82_6 : decode (xB 82) 6 = .ok (.iload_n 2, 1) := by decide +kernel
theorem d_82_7 : decode (xB 82) 7 = .ok (.putfield 48, 3) := by decide +kernel
theorem d_82_10 : decode (xB 82) 10 = .ok (.return_, 1) := by decide +kernel
theorem d_83_0 : decode (xB 83) 0 = .ok (.iload_n 1, 1) := by decide +kernel
theorem d_83_1 : decode (xB 83) 1 = .ok (.istore_n 2, 1) := by decide +kernel
theorem d_83_2 : decode (xB 83) 2 = .ok (.iload_n 2, 1) := by decide +kernel
theorem d_83_3 : decode (xB 83) 3 = .ok (.aload_n 0, 1) := by decide +kernel
theorem d_83_4 : decode (xB 83) 4 = .ok (.getfield 52, 3) := by decide +kernel
theorem d_83_7 : decode (xB 83) 7 = .ok (.if_icmp .ge 44, 3) := by decide +kernel
theorem d_83_10 : decode (xB 83) 10 = .ok (.aload_n 0, 1) := by decide +kernel
theorem d_83_11 : decode (xB 83) 11 = .ok (.getfield 7, 3) := by decide +kernel
theorem d_83_14 : decode (xB 83) 14 = .ok (.iload_n 2, 1) := by decide +kernel
theorem d_83_15 : decode (xB 83) 15 = .ok (.iaload, 1) := by decide +kernel
theorem d_83_16 : decode (xB 83) 16 = .ok (.invokestatic 55, 3) := by decide +kernel
theorem d_83_19 : decode (xB 83) 19 = .ok (.ifCond .ne 32, 3) := by decide +kernel
theorem d_83_22 : decode (xB 83) 22 = .ok (.aload_n 0, 1) := by decide +kernel
theorem d_83_23 : decode (xB 83) 23 = .ok (.getfield 7, 3) := by decide +kernel
theorem d_83_26 : decode (xB 83) 26 = .ok (.iload_n 2, 1) := by decide +kernel
theorem d_83_27 : decode (xB 83) 27 = .ok (.iaload, 1) := by decide +kernel
theorem d_83_28 : decode (xB 83) 28 = .ok (.invokestatic 59, 3) := by decide +kernel
theorem d_83_31 : decode (xB 83) 31 = .ok (.ifCond .ne 20, 3) := by decide +kernel
theorem d_83_34 : decode (xB 83) 34 = .ok (.aload_n 0, 1) := by decide +kernel
theorem d_83_35 : decode (xB 83) 35 = .ok (.getfield 7, 3) := by decide +kernel
theorem d_83_38 : decode (xB 83) 38 = .ok (.iload_n 2, 1) := by decide +kernel
theorem d_83_39 : decode (xB 83) 39 = .ok (.iaload, 1) := by decide +kernel
theorem d_83_40 : decode (xB 83) 40 = .ok (.bipush 37, 2) := by decide +kernel
theorem d_83_42 : decode (xB 83) 42 = .ok (.if_icmp .eq 9, 3) := by decide +kernel
theorem d_83_45 : decode (xB 83) 45 = .ok (.iinc 2 1, 3) := by decide +kernel
theorem d_83_48 : decode (xB 83) 48 = .ok (.goto (-46), 3) := by decide +kernel
theorem d_83_51 : decode (xB 83) 51 = .ok (.iload_n 2, 1) := by decide +kernel
theorem d_83_52 : decode (xB 83) 52 = .ok (.ireturn, 1) := by decide +kernel
theorem d_84_0 : decode (xB 84) 0 = .ok (.iload_n 0, 1) := by decide +kernel
theorem d_84_1 : decode (xB 84) 1 = .ok (.bipush 48, 2) := by decide +kernel
theorem d_84_3 : decode (xB 84) 3 = .ok (.if_icmp .lt 13, 3) := by decide +kernel
theorem d_84_6 : decode (xB 84) 6 = .ok (.iload_n 0, 1) := by decide +kernel
theorem d_84_7 : decode (xB 84) 7 = .ok (.bipush 57, 2) := by decide +kernel
theorem d_84_9 : decode (xB 84) 9 = .ok (.if_icmp .gt 7, 3) := by decide +kernel
theorem d_84_12 : decode (xB 84) 12 = .ok (.iconst 1, 1) := by decide +kernel
theorem d_84_13 : decode (xB 84) 13 = .ok (.goto 4, 3) := by decide +kernel
theorem d_84_16 : decode (xB 84) 16 = .ok (.iconst 0, 1) := by decide +kernel
theorem d_84_17 : decode (xB 84) 17 = .ok (.ireturn, 1) := by decide +kernel
theorem d_85_0 : decode (xB 85) 0 = .ok (.aload_n 0, 1) := by decide +kernel
theorem d_85_1 : decode (xB 85) 1 = .ok (.getfield 7, 3) := by decide +kernel
theorem d_85_4 : decode (xB 85) 4 = .ok (.iload_n 1, 1) := by decide +kernel
theorem d_85_5 : decode (xB 85) 5 = .ok (.iaload, 1) := by decide +kernel
theorem d_85_6 : decode (xB 85) 6 = .ok (.invokestatic 62, 3) := by decide +kernel
theorem d_85_9 : decode (xB 85) 9 = .ok (.ifCond .eq 7, 3) := by decide +kernel
theorem d_85_12 : decode (xB 85) 12 = .ok (.iload_n 1, 1) := by decide +kernel
theorem d_85_13 : decode (xB 85) 13 = .ok (.goto 6, 3) := by decide +kernel
theorem d_85_16 : decode (xB 85) 16 = .ok (.iload_n 1, 1) := by decide +kernel
theorem d_85_17 : decode (xB 85) 17 = .ok (.iconst 1, 1) := by decide +kernel
theorem d_85_18 : decode (xB 85) 18 = .ok (.iadd, 1) := by decide +kernel
theorem d_85_19 : decode (xB 85) 19 = .ok (.istore_n 3, 1) := by decide +kernel
theorem d_85_20 : decode (xB 85) 20 = .ok (.iload_n 2, 1) := by decide +kernel
theorem d_85_21 : decode (xB 85) 21 = .ok (.iload_n 3, 1) := by decide +kernel
theorem d_85_22 : decode (xB 85) 22 = .ok (.isub, 1) := by decide +kernel
theorem d_85_23 : decode (xB 85) 23 = .ok (.iconst 1, 1) := by decide +kernel
theorem d_85_24 : decode (xB 85) 24 = .ok (.if_icmp .lt 10, 3) := by decide +kernel
theorem d_85_27 : decode (xB 85) 27 = .ok (.iload_n 2, 1) := by decide +kernel
theorem d_85_28 : decode (xB 85) 28 = .ok (.iload_n 3, 1) := by decide +kernel
theorem d_85_29 : decode (xB 85) 29 = .ok (.isub, 1) := by decide +kernel
theorem d_85_30 : decode (xB 85) 30 = .ok (.iconst 4, 1) := by decide +kernel
theorem d_85_31 : decode (xB 85) 31 = .ok (.if_icmp .le 7, 3) := by decide +kernel
theorem d_85_34 : decode (xB 85) 34 = .ok (.sipush 20000, 3) := by decide +kernel
theorem d_85_37 : decode (xB 85) 37 = .ok (.ireturn, 1) := by decide +kernel
theorem d_85_38 : decode (xB 85) 38 = .ok (.iconst 0, 1) := by decide +kernel
theorem d_85_39 : decode (xB 85) 39 = .ok (.istore 4, 2) := by decide +kernel
theorem d_85_41 : decode (xB 85) 41 = .ok (.iload_n 3, 1) := by decide +kernel
theorem d_85_42 : decode (xB 85) 42 = .ok (.istore 5, 2) := by decide +kernel
theorem d_85_44 : decode (xB 85) 44 = .ok (.iload 5, 2) := by decide +kernel
theorem d_85_46 : decode (xB 85) 46 = .ok (.iload_n 2, 1) := by decide +kernel
theorem d_85_47 : decode (xB 85) 47 = .ok (.if_icmp .ge 44, 3) := by decide +kernel
theorem d_85_50 : decode (xB 85) 50 = .ok (.aload_n 0, 1) := by decide +kernel
theorem d_85_51 : decode (xB 85) 51 = .ok (.getfield 7, 3) := by decide +kernel
theorem d_85_54 : decode (xB 85) 54 = .ok (.iload 5, 2) := by decide +kernel
theorem d_85_56 : decode (xB 85) 56 = .ok (.iaload, 1) := by decide +kernel
theorem d_85_57 : decode (xB 85) 57 = .ok (.invokestatic 62, 3) := by decide +kernel
theorem d_85_60 : decode (xB 85) 60 = .ok (.ifCond .ne 7, 3) := by decide +kernel
theorem d_85_63 : decode (xB 85) 63 = .ok (.sipush 20000, 3) := by decide +kernel
theorem d_85_66 : decode (xB 85) 66 = .ok (.ireturn, 1) := by decide +kernel
theorem d_85_67 : decode (xB 85) 67 = .ok (.bipush 10, 2) := by decide +kernel
theorem d_85_69 : decode (xB 85) 69 = .ok (.iload 4, 2) := by decide +kernel
theorem d_85_71 : decode (xB 85) 71 = .ok (.imul, 1) := by decide +kernel
theorem d_85_72 : decode (xB 85) 72 = .ok (.aload_n 0, 1) := by decide +kernel
theorem d_85_73 : decode (xB 85) 73 = .ok (.getfield 7, 3) := by decide +kernel
theorem d_85_76 : decode (xB 85) 76 = .ok (.iload 5, 2) := by decide +kernel
theorem d_85_78 : decode (xB 85) 78 = .ok (.iaload, 1) := by decide +kernel
theorem d_85_79 : decode (xB 85) 79 = .ok (.iadd, 1) := by decide +kernel
theorem d_85_80 : decode (xB 85) 80 = .ok (.bipush 48, 2) := by decide +kernel
theorem d_85_82 : decode (xB 85) 82 = .ok (.isub, 1) := by decide +kernel
theorem d_85_83 : decode (xB 85) 83 = .ok (.istore 4, 2) := by decide +kernel
theorem d_85_85 : decode (xB 85) 85 = .ok (.iinc 5 1, 3) := by decide +kernel
theorem d_85_88 : decode (xB 85) 88 = .ok (.goto (-44), 3) := by decide +kernel
theorem d_85_91 : decode (xB 85) 91 = .ok (.aload_n 0, 1) := by decide +kernel
theorem d_85_92 : decode (xB 85) 92 = .ok (.getfield 7, 3) := by decide +kernel
theorem d_85_95 : decode (xB 85) 95 = .ok (.iload_n 1, 1) := by decide +kernel
theorem d_85_96 : decode (xB 85) 96 = .ok (.iaload, 1) := by decide +kernel
theorem d_85_97 : decode (xB 85) 97 = .ok (.bipush 45, 2) := by decide +kernel
theorem d_85_99 : decode (xB 85) 99 = .ok (.if_icmp .ne 9, 3) := by decide +kernel
theorem d_85_102 : decode (xB 85) 102 = .ok (.iload 4, 2) := by decide +kernel
theorem d_85_104 : decode (xB 85) 104 = .ok (.ineg, 1) := by decide +kernel
theorem d_85_105 : decode (xB 85) 105 = .ok (.goto 5, 3) := by decide +kernel
theorem d_85_108 : decode (xB 85) 108 = .ok (.iload 4, 2) := by decide +kernel
theorem d_85_110 : decode (xB 85) 110 = .ok (.ireturn, 1) := by decide +kernel
theorem d_86_0 : decode (xB 86) 0 = .ok (.aload_n 0, 1) := by decide +kernel
theorem d_86_1 : decode (xB 86) 1 = .ok (.getfield 7, 3) := by decide +kernel
theorem d_86_4 : decode (xB 86) 4 = .ok (.iload_n 1, 1) := by decide +kernel
theorem d_86_5 : decode (xB 86) 5 = .ok (.iaload, 1) := by decide +kernel
theorem d_86_6 : decode (xB 86) 6 = .ok (.istore_n 3, 1) := by decide +kernel
theorem d_86_7 : decode (xB 86) 7 = .ok (.iload_n 2, 1) := by decide +kernel
theorem d_86_8 : decode (xB 86) 8 = .ok (.iload_n 1, 1) := by decide +kernel
theorem d_86_9 : decode (xB 86) 9 = .ok (.isub, 1) := by decide +kernel
theorem d_86_10 : decode (xB 86) 10 = .ok (.iconst 1, 1) := by decide +kernel
theorem d_86_11 : decode (xB 86) 11 = .ok (.if_icmp .ne 92, 3) := by decide +kernel
theorem d_86_14 : decode (xB 86) 14 = .ok (.iload_n 3, 1) := by decide +kernel
theorem d_86_15 : decode (xB 86) 15 = .ok (.bipush 113, 2) := by decide +kernel
theorem d_86_17 : decode (xB 86) 17 = .ok (.if_icmp .ne 5, 3) := by decide +kernel
theorem d_86_20 : decode (xB 86) 20 = .ok (.iconst 0, 1) := by decide +kernel
theorem d_86_21 : decode (xB 86) 21 = .ok (.ireturn, 1) := by decide +kernel
theorem d_86_22 : decode (xB 86) 22 = .ok (.iload_n 3, 1) := by decide +kernel
theorem d_86_23 : decode (xB 86) 23 = .ok (.bipush 81, 2) := by decide +kernel
theorem d_86_25 : decode (xB 86) 25 = .ok (.if_icmp .ne 5, 3) := by decide +kernel
theorem d_86_28 : decode (xB 86) 28 = .ok (.iconst 1, 1) := by decide +kernel
theorem d_86_29 : decode (xB 86) 29 = .ok (.ireturn, 1) := by decide +kernel
theorem d_86_30 : decode (xB 86) 30 = .ok (.iload_n 3, 1) := by decide +kernel
theorem d_86_31 : decode (xB 86) 31 = .ok (.bipush 103, 2) := by decide +kernel
theorem d_86_33 : decode (xB 86) 33 = .ok (.if_icmp .ne 5, 3) := by decide +kernel
theorem d_86_36 : decode (xB 86) 36 = .ok (.iconst 3, 1) := by decide +kernel
theorem d_86_37 : decode (xB 86) 37 = .ok (.ireturn, 1) := by decide +kernel
theorem d_86_38 : decode (xB 86) 38 = .ok (.iload_n 3, 1) := by decide +kernel
theorem d_86_39 : decode (xB 86) 39 = .ok (.bipush 109, 2) := by decide +kernel
theorem d_86_41 : decode (xB 86) 41 = .ok (.if_icmp .ne 5, 3) := by decide +kernel
theorem d_86_44 : decode (xB 86) 44 = .ok (.iconst 4, 1) := by decide +kernel
theorem d_86_45 : decode (xB 86) 45 = .ok (.ireturn, 1) := by decide +kernel
theorem d_86_46 : decode (xB 86) 46 = .ok (.iload_n 3, 1) := by decide +kernel
theorem d_86_47 : decode (xB 86) 47 = .ok (.bipush 108, 2) := by decide +kernel
theorem d_86_49 : decode (xB 86) 49 = .ok (.if_icmp .ne 5, 3) := by decide +kernel
theorem d_86_52 : decode (xB 86) 52 = .ok (.iconst 5, 1) := by decide +kernel
theorem d_86_53 : decode (xB 86) 53 = .ok (.ireturn, 1) := by decide +kernel
theorem d_86_54 : decode (xB 86) 54 = .ok (.iload_n 3, 1) := by decide +kernel
theorem d_86_55 : decode (xB 86) 55 = .ok (.bipush 104, 2) := by decide +kernel
theorem d_86_57 : decode (xB 86) 57 = .ok (.if_icmp .ne 6, 3) := by decide +kernel
theorem d_86_60 : decode (xB 86) 60 = .ok (.bipush 6, 2) := by decide +kernel
theorem d_86_62 : decode (xB 86) 62 = .ok (.ireturn, 1) := by decide +kernel
theorem d_86_63 : decode (xB 86) 63 = .ok (.iload_n 3, 1) := by decide +kernel
theorem d_86_64 : decode (xB 86) 64 = .ok (.bipush 99, 2) := by decide +kernel
theorem d_86_66 : decode (xB 86) 66 = .ok (.if_icmp .ne 6, 3) := by decide +kernel
theorem d_86_69 : decode (xB 86) 69 = .ok (.bipush 8, 2) := by decide +kernel
theorem d_86_71 : decode (xB 86) 71 = .ok (.ireturn, 1) := by decide +kernel
theorem d_86_72 : decode (xB 86) 72 = .ok (.iload_n 3, 1) := by decide +kernel
theorem d_86_73 : decode (xB 86) 73 = .ok (.bipush 87, 2) := by decide +kernel
theorem d_86_75 : decode (xB 86) 75 = .ok (.if_icmp .ne 6, 3) := by decide +kernel
theorem d_86_78 : decode (xB 86) 78 = .ok (.bipush 9, 2) := by decide +kernel
theorem d_86_80 : decode (xB 86) 80 = .ok (.ireturn, 1) := by decide +kernel
theorem d_86_81 : decode (xB 86) 81 = .ok (.iload_n 3, 1) := by decide +kernel
theorem d_86_82 : decode (xB 86) 82 = .ok (.bipush 102, 2) := by decide +kernel
theorem d_86_84 : decode (xB 86) 84 = .ok (.if_icmp .ne 6, 3) := by decide +kernel
theorem d_86_87 : decode (xB 86) 87 = .ok (.bipush 11, 2) := by decide +kernel
theorem d_86_89 : decode (xB 86) 89 = .ok (.ireturn, 1) := by decide +kernel
theorem d_86_90 : decode (xB 86) 90 = .ok (.iload_n 3, 1) := by decide +kernel
theorem d_86_91 : decode (xB 86) 91 = .ok (.bipush 110, 2) := by decide +kernel
theorem d_86_93 : decode (xB 86) 93 = .ok (.if_icmp .ne 8, 3) := by decide +kernel
theorem d_86_96 : decode (xB 86) 96 = .ok (.bipush 13, 2) := by decide +kernel
theorem d_86_98 : decode (xB 86) 98 = .ok (.goto 4, 3) := by decide +kernel
theorem d_86_101 : decode (xB 86) 101 = .ok (.iconst (-1), 1) := by decide +kernel
theorem d_86_102 : decode (xB 86) 102 = .ok (.ireturn, 1) := by decide +kernel
theorem d_86_103 : decode (xB 86) 103 = .ok (.aload_n 0, 1) := by decide +kernel
theorem d_86_104 : decode (xB 86) 104 = .ok (.getfield 7, 3) := by decide +kernel
theorem d_86_107 : decode (xB 86) 107 = .ok (.iload_n 1, 1) := by decide +kernel
theorem d_86_108 : decode (xB 86) 108 = .ok (.iconst 1, 1) := by decide +kernel
theorem d_86_109 : decode (xB 86) 109 = .ok (.iadd, 1) := by decide +kernel
theorem d_86_110 : decode (xB 86) 110 = .ok (.iaload, 1) := by decide +kernel
theorem d_86_111 : decode (xB 86) 111 = .ok (.istore 4, 2) := by decide +kernel
theorem d_86_113 : decode (xB 86) 113 = .ok (.iload_n 2, 1) := by decide +kernel
theorem d_86_114 : decode (xB 86) 114 = .ok (.iload_n 1, 1) := by decide +kernel
theorem d_86_115 : decode (xB 86) 115 = .ok (.isub, 1) := by decide +kernel
theorem d_86_116 : decode (xB 86) 116 = .ok (.iconst 2, 1) := by decide +kernel
theorem d_86_117 : decode (xB 86) 117 = .ok (.if_icmp .eq 5, 3) := by decide +kernel
theorem d_86_120 : decode (xB 86) 120 = .ok (.iconst (-1), 1) := by decide +kernel
theorem d_86_121 : decode (xB 86) 121 = .ok (.ireturn, 1) := by decide +kernel
theorem d_86_122 : decode (xB 86) 122 = .ok (.iload_n 3, 1) := by decide +kernel
theorem d_86_123 : decode (xB 86) 123 = .ok (.bipush 99, 2) := by decide +kernel
theorem d_86_125 : decode (xB 86) 125 = .ok (.if_icmp .ne 12, 3) := by decide +kernel
theorem d_86_128 : decode (xB 86) 128 = .ok (.iload 4, 2) := by decide +kernel
theorem d_86_130 : decode (xB 86) 130 = .ok (.bipush 109, 2) := by decide +kernel
theorem d_86_132 : decode (xB 86) 132 = .ok (.if_icmp .ne 5, 3) := by decide +kernel
theorem d_86_135 : decode (xB 86) 135 = .ok (.iconst 2, 1) := by decide +kernel
theorem d_86_136 : decode (xB 86) 136 = .ok (.ireturn, 1) := by decide +kernel
theorem d_86_137 : decode (xB 86) 137 = .ok (.iload_n 3, 1) := by decide +kernel
theorem d_86_138 : decode (xB 86) 138 = .ok (.bipush 114, 2) := by decide +kernel
theorem d_86_140 : decode (xB 86) 140 = .ok (.if_icmp .ne 13, 3) := by decide +kernel
theorem d_86_143 : decode (xB 86) 143 = .ok (.iload 4, 2) := by decide +kernel
theorem d_86_145 : decode (xB 86) 145 = .ok (.bipush 101, 2) := by decide +kernel
theorem d_86_147 : decode (xB 86) 147 = .ok (.if_icmp .ne 6, 3) := by decide +kernel
theorem d_86_150 : decode (xB 86) 150 = .ok (.bipush 7, 2) := by decide +kernel
theorem d_86_152 : decode (xB 86) 152 = .ok (.ireturn, 1) := by decide +kernel
theorem d_86_153 : decode (xB 86) 153 = .ok (.iload_n 3, 1) := by decide +kernel
theorem d_86_154 : decode (xB 86) 154 = .ok (.bipush 87, 2) := by decide +kernel
theorem d_86_156 : decode (xB 86) 156 = .ok (.if_icmp .ne 13, 3) := by decide +kernel
theorem d_86_159 : decode (xB 86) 159 = .ok (.iload 4, 2) := by decide +kernel
theorem d_86_161 : decode (xB 86) 161 = .ok (.bipush 42, 2) := by decide +kernel
theorem d_86_163 : decode (xB 86) 163 = .ok (.if_icmp .ne 6, 3) := by decide +kernel
theorem d_86_166 : decode (xB 86) 166 = .ok (.bipush 10, 2) := by decide +kernel
theorem d_86_168 : decode (xB 86) 168 = .ok (.ireturn, 1) := by decide +kernel
theorem d_86_169 : decode (xB 86) 169 = .ok (.iload_n 3, 1) := by decide +kernel
theorem d_86_170 : decode (xB 86) 170 = .ok (.bipush 102, 2) := by decide +kernel
theorem d_86_172 : decode (xB 86) 172 = .ok (.if_icmp .ne 15, 3) := by decide +kernel
theorem d_86_175 : decode (xB 86) 175 = .ok (.iload 4, 2) := by decide +kernel
theorem d_86_177 : decode (xB 86) 177 = .ok (.bipush 42, 2) := by decide +kernel
theorem d_86_179 : decode (xB 86) 179 = .ok (.if_icmp .ne 8, 3) := by decide +kernel
theorem d_86_182 : decode (xB 86) 182 = .ok (.bipush 12, 2) := by decide +kernel
theorem d_86_184 : decode (xB 86) 184 = .ok (.goto 4, 3) := by decide +kernel
theorem d_86_187 : decode (xB 86) 187 = .ok (.iconst (-1), 1) := by decide +kernel
theorem d_86_188 : decode (xB 86) 188 = .ok (.ireturn, 1) := by decide +kernel
theorem d_87_0 : decode (xB 87) 0 = .ok (.iload_n 1, 1) := by decide +kernel
theorem d_87_1 : decode (xB 87) 1 = .ok (.ifCond .ge 5, 3) := by decide +kernel
theorem d_87_4 : decode (xB 87) 4 = .ok (.iconst 2, 1) := by decide +kernel
theorem d_87_5 : decode (xB 87) 5 = .ok (.ireturn, 1) := by decide +kernel
theorem d_87_6 : decode (xB 87) 6 = .ok (.aload_n 0, 1) := by decide +kernel
theorem d_87_7 : decode (xB 87) 7 = .ok (.getfield 77, 3) := by decide +kernel
theorem d_87_10 : decode (xB 87) 10 = .ok (.ifCond .eq 8, 3) := by decide +kernel
theorem d_87_13 : decode (xB 87) 13 = .ok (.iload_n 1, 1) := by decide +kernel
theorem d_87_14 : decode (xB 87) 14 = .ok (.iconst 3, 1) := by decide +kernel
theorem d_87_15 : decode (xB 87) 15 = .ok (.if_icmp .le 16, 3) := by decide +kernel
theorem d_87_18 : decode (xB 87) 18 = .ok (.aload_n 0, 1) := by decide +kernel
theorem d_87_19 : decode (xB 87) 19 = .ok (.getfield 81, 3) := by decide +kernel
theorem d_87_22 : decode (xB 87) 22 = .ok (.ifCond .le 12, 3) := by decide +kernel
theorem d_87_25 : decode (xB 87) 25 = .ok (.iload_n 1, 1) := by decide +kernel
theorem d_87_26 : decode (xB 87) 26 = .ok (.bipush 11, 2) := by decide +kernel
theorem d_87_28 : decode (xB 87) 28 = .ok (.if_icmp .ge 6, 3) := by decide +kernel
theorem d_87_31 : decode (xB 87) 31 = .ok (.bipush 6, 2) := by decide +kernel
theorem d_87_33 : decode (xB 87) 33 = .ok (.ireturn, 1) := by decide +kernel
theorem d_87_34 : decode (xB 87) 34 = .ok (.aload_n 0, 1) := by decide +kernel
theorem d_87_35 : decode (xB 87) 35 = .ok (.getfield 84, 3) := by decide +kernel
theorem d_87_38 : decode (xB 87) 38 = .ok (.iload_n 1, 1) := by decide +kernel
theorem d_87_39 : decode (xB 87) 39 = .ok (.invokestatic 141, 3) := by decide +kernel
theorem d_87_42 : decode (xB 87) 42 = .ok (.if_icmp .eq 5, 3) := by decide +kernel
theorem d_87_45 : decode (xB 87) 45 = .ok (.iconst 3, 1) := by decide +kernel
theorem d_87_46 : decode (xB 87) 46 = .ok (.ireturn, 1) := by decide +kernel
theorem d_87_47 : decode (xB 87) 47 = .ok (.aload_n 0, 1) := by decide +kernel
theorem d_87_48 : decode (xB 87) 48 = .ok (.getfield 77, 3) := by decide +kernel
theorem d_87_51 : decode (xB 87) 51 = .ok (.ifCond .ne 22, 3) := by decide +kernel
theorem d_87_54 : decode (xB 87) 54 = .ok (.iload_n 1, 1) := by decide +kernel
theorem d_87_55 : decode (xB 87) 55 = .ok (.iconst 5, 1) := by decide +kernel
theorem d_87_56 : decode (xB 87) 56 = .ok (.if_icmp .eq 15, 3) := by decide +kernel
theorem d_87_59 : decode (xB 87) 59 = .ok (.iload_n 1, 1) := by decide +kernel
theorem d_87_60 : decode (xB 87) 60 = .ok (.bipush 6, 2) := by decide +kernel
theorem d_87_62 : decode (xB 87) 62 = .ok (.if_icmp .eq 9, 3) := by decide +kernel
theorem d_87_65 : decode (xB 87) 65 = .ok (.iload_n 1, 1) := by decide +kernel
theorem d_87_66 : decode (xB 87) 66 = .ok (.bipush 8, 2) := by decide +kernel
theorem d_87_68 : decode (xB 87) 68 = .ok (.if_icmp .lt 5, 3) := by decide +kernel
theorem d_87_71 : decode (xB 87) 71 = .ok (.iconst 5, 1) := by decide +kernel
theorem d_87_72 : decode (xB 87) 72 = .ok (.ireturn, 1) := by decide +kernel
theorem d_87_73 : decode (xB 87) 73 = .ok (.iload_n 1, 1) := by decide +kernel
theorem d_87_74 : decode (xB 87) 74 = .ok (.iconst 1, 1) := by decide +kernel
theorem d_87_75 : decode (xB 87) 75 = .ok (.if_icmp .ne 13, 3) := by decide +kernel
theorem d_87_78 : decode (xB 87) 78 = .ok (.aload_n 0, 1) := by decide +kernel
theorem d_87_79 : decode (xB 87) 79 = .ok (.getfield 74, 3) := by decide +kernel
theorem d_87_82 : decode (xB 87) 82 = .ok (.ifCond .ne 6, 3) := by decide +kernel
theorem d_87_85 : decode (xB 87) 85 = .ok (.bipush 7, 2) := by decide +kernel
theorem d_87_87 : decode (xB 87) 87 = .ok (.ireturn, 1) := by decide +kernel
theorem d_87_88 : decode (xB 87) 88 = .ok (.iload_n 1, 1) := by decide +kernel
theorem d_87_89 : decode (xB 87) 89 = .ok (.ifCond .ne 15, 3) := by decide +kernel
theorem d_87_92 : decode (xB 87) 92 = .ok (.aload_n 0, 1) := by decide +kernel
theorem d_87_93 : decode (xB 87) 93 = .ok (.getfield 74, 3) := by decide +kernel
theorem d_87_96 : decode (xB 87) 96 = .ok (.bipush 6, 2) := by decide +kernel
theorem d_87_98 : decode (xB 87) 98 = .ok (.if_icmp .ne 6, 3) := by decide +kernel
theorem d_87_101 : decode (xB 87) 101 = .ok (.bipush 8, 2) := by decide +kernel
theorem d_87_103 : decode (xB 87) 103 = .ok (.ireturn, 1) := by decide +kernel
theorem d_87_104 : decode (xB 87) 104 = .ok (.aload_n 0, 1) := by decide +kernel
theorem d_87_105 : decode (xB 87) 105 = .ok (.iload_n 1, 1) := by decide +kernel
theorem d_87_106 : decode (xB 87) 106 = .ok (.invokevirtual 144, 3) := by decide +kernel
theorem d_87_109 : decode (xB 87) 109 = .ok (.ifCond .eq 5, 3) := by decide +kernel
theorem d_87_112 : decode (xB 87) 112 = .ok (.iconst 4, 1) := by decide +kernel
theorem d_87_113 : decode (xB 87) 113 = .ok (.ireturn, 1) := by decide +kernel
theorem d_87_114 : decode (xB 87) 114 = .ok (.iload_n 1, 1) := by decide +kernel
theorem d_87_115 : decode (xB 87) 115 = .ok (.iconst 5, 1) := by decide +kernel
theorem d_87_116 : decode (xB 87) 116 = .ok (.if_icmp .eq 9, 3) := by decide +kernel
theorem d_87_119 : decode (xB 87) 119 = .ok (.iload_n 1, 1) := by decide +kernel
theorem d_87_120 : decode (xB 87) 120 = .ok (.bipush 6, 2) := by decide +kernel
theorem d_87_122 : decode (xB 87) 122 = .ok (.if_icmp .ne 7, 3) := by decide +kernel
theorem d_87_125 : decode (xB 87) 125 = .ok (.iconst 1, 1) := by decide +kernel
theorem d_87_126 : decode (xB 87) 126 = .ok (.goto 20, 3) := by decide +kernel
theorem d_87_129 : decode (xB 87) 129 = .ok (.iload_n 1, 1) := by decide +kernel
theorem d_87_130 : decode (xB 87) 130 = .ok (.bipush 7, 2) := by decide +kernel
theorem d_87_132 : decode (xB 87) 132 = .ok (.if_icmp .eq 9, 3) := by decide +kernel
theorem d_87_135 : decode (xB 87) 135 = .ok (.iload_n 1, 1) := by decide +kernel
theorem d_87_136 : decode (xB 87) 136 = .ok (.bipush 8, 2) := by decide +kernel
theorem d_87_138 : decode (xB 87) 138 = .ok (.if_icmp .ne 7, 3) := by decide +kernel
theorem d_87_141 : decode (xB 87) 141 = .ok (.iconst 4, 1) := by decide +kernel
theorem d_87_142 : decode (xB 87) 142 = .ok (.goto 4, 3) := by decide +kernel
theorem d_87_145 : decode (xB 87) 145 = .ok (.iconst 0, 1) := by decide +kernel
theorem d_87_146 : decode (xB 87) 146 = .ok (.istore_n 2, 1) := by decide +kernel
theorem d_87_147 : decode (xB 87) 147 = .ok (.iload_n 1, 1) := by decide +kernel
theorem d_87_148 : decode (xB 87) 148 = .ok (.bipush 7, 2) := by decide +kernel
theorem d_87_150 : decode (xB 87) 150 = .ok (.if_icmp .ne 14, 3) := by decide +kernel
theorem d_87_153 : decode (xB 87) 153 = .ok (.aload_n 0, 1) := by decide +kernel
theorem d_87_154 : decode (xB 87) 154 = .ok (.getfield 77, 3) := by decide +kernel
theorem d_87_157 : decode (xB 87) 157 = .ok (.ifCond .ne 7, 3) := by decide +kernel
theorem d_87_160 : decode (xB 87) 160 = .ok (.iconst 0, 1) := by decide +kernel
theorem d_87_161 : decode (xB 87) 161 = .ok (.goto 7, 3) := by decide +kernel
theorem d_87_164 : decode (xB 87) 164 = .ok (.aload_n 0, 1) := by decide +kernel
theorem d_87_165 : decode (xB 87) 165 = .ok (.getfield 147, 3) := by decide +kernel
theorem d_87_168 : decode (xB 87) 168 = .ok (.iload_n 2, 1) := by decide +kernel
theorem d_87_169 : decode (xB 87) 169 = .ok (.iadd, 1) := by decide +kernel
theorem d_87_170 : decode (xB 87) 170 = .ok (.bipush 60, 2) := by decide +kernel
theorem d_87_172 : decode (xB 87) 172 = .ok (.if_icmp .le 8, 3) := by decide +kernel
theorem d_87_175 : decode (xB 87) 175 = .ok (.bipush 10, 2) := by decide +kernel
theorem d_87_177 : decode (xB 87) 177 = .ok (.goto 4, 3) := by decide +kernel
theorem d_87_180 : decode (xB 87) 180 = .ok (.iconst 0, 1) := by decide +kernel
theorem d_87_181 : decode (xB 87) 181 = .ok (.ireturn, 1) := by decide +kernel
theorem d_88_0 : decode (xB 88) 0 = .ok (.iload_n 0, 1) := by decide +kernel
theorem d_88_1 : decode (xB 88) 1 = .ok (.iconst 2, 1) := by decide +kernel
theorem d_88_2 : decode (xB 88) 2 = .ok (.if_icmp .eq 9, 3) := by decide +kernel
theorem d_88_5 : decode (xB 88) 5 = .ok (.iload_n 0, 1) := by decide +kernel
theorem d_88_6 : decode (xB 88) 6 = .ok (.bipush 8, 2) := by decide +kernel
theorem d_88_8 : decode (xB 88) 8 = .ok (.if_icmp .ne 6, 3) := by decide +kernel
theorem d_88_11 : decode (xB 88) 11 = .ok (.bipush 6, 2) := by decide +kernel
theorem d_88_13 : decode (xB 88) 13 = .ok (.ireturn, 1) := by decide +kernel
theorem d_88_14 : decode (xB 88) 14 = .ok (.iload_n 0, 1) := by decide +kernel
theorem d_88_15 : decode (xB 88) 15 = .ok (.iconst 4, 1) := by decide +kernel
theorem d_88_16 : decode (xB 88) 16 = .ok (.if_icmp .eq 8, 3) := by decide +kernel
theorem d_88_19 : decode (xB 88) 19 = .ok (.iload_n 0, 1) := by decide +kernel
theorem d_88_20 : decode (xB 88) 20 = .ok (.iconst 5, 1) := by decide +kernel
theorem d_88_21 : decode (xB 88) 21 = .ok (.if_icmp .ne 5, 3) := by decide +kernel
theorem d_88_24 : decode (xB 88) 24 = .ok (.iconst 2, 1) := by decide +kernel
theorem d_88_25 : decode (xB 88) 25 = .ok (.ireturn, 1) := by decide +kernel
theorem d_88_26 : decode (xB 88) 26 = .ok (.iload_n 0, 1) := by decide +kernel
theorem d_88_27 : decode (xB 88) 27 = .ok (.bipush 7, 2) := by decide +kernel
theorem d_88_29 : decode (xB 88) 29 = .ok (.if_icmp .ne 5, 3) := by decide +kernel
theorem d_88_32 : decode (xB 88) 32 = .ok (.iconst 4, 1) := by decide +kernel
theorem d_88_33 : decode (xB 88) 33 = .ok (.ireturn, 1) := by decide +kernel
theorem d_88_34 : decode (xB 88) 34 = .ok (.iload_n 0, 1) := by decide +kernel
theorem d_88_35 : decode (xB 88) 35 = .ok (.iconst 3, 1) := by decide +kernel
theorem d_88_36 : decode (xB 88) 36 = .ok (.if_icmp .ne 7, 3) := by decide +kernel
theorem d_88_39 : decode (xB 88) 39 = .ok (.iconst 1, 1) := by decide +kernel
theorem d_88_40 : decode (xB 88) 40 = .ok (.goto 4, 3) := by decide +kernel
theorem d_88_43 : decode (xB 88) 43 = .ok (.iconst 0, 1) := by decide +kernel
theorem d_88_44 : decode (xB 88) 44 = .ok (.ireturn, 1) := by decide +kernel
theorem d_89_0 : decode (xB 89) 0 = .ok (.aload_n 0, 1) := by decide +kernel
theorem d_89_1 : decode (xB 89) 1 = .ok (.getfield 45, 3) := by decide +kernel
theorem d_89_4 : decode (xB 89) 4 = .ok (.astore_n 2, 1) := by decide +kernel
theorem d_89_5 : decode (xB 89) 5 = .ok (.iload_n 1, 1) := by decide +kernel
theorem d_89_6 : decode (xB 89) 6 = .ok (.iconst 3, 1) := by decide +kernel
theorem d_89_7 : decode (xB 89) 7 = .ok (.if_icmp .ne 24, 3) := by decide +kernel
theorem d_89_10 : decode (xB 89) 10 = .ok (.aload_n 2, 1) := by decide +kernel
theorem d_89_11 : decode (xB 89) 11 = .ok (.iconst 0, 1) := by decide +kernel
theorem d_89_12 : decode (xB 89) 12 = .ok (.iaload, 1) := by decide +kernel
theorem d_89_13 : decode (xB 89) 13 = .ok (.ifCond .lt 12, 3) := by decide +kernel
theorem d_89_16 : decode (xB 89) 16 = .ok (.aload_n 2, 1) := by decide +kernel
theorem d_89_17 : decode (xB 89) 17 = .ok (.iconst 0, 1) := by decide +kernel
theorem d_89_18 : decode (xB 89) 18 = .ok (.iaload, 1) := by decide +kernel
theorem d_89_19 : decode (xB 89) 19 = .ok (.sipush 255, 3) := by decide +kernel
theorem d_89_22 : decode (xB 89) 22 = .ok (.if_icmp .le 7, 3) := by decide +kernel
theorem d_89_25 : decode (xB 89) 25 = .ok (.iconst 1, 1) := by decide +kernel
theorem d_89_26 : decode (xB 89) 26 = .ok (.goto 4, 3) := by decide +kernel
theorem d_89_29 : decode (xB 89) 29 = .ok (.iconst 0, 1) := by decide +kernel
theorem d_89_30 : decode (xB 89) 30 = .ok (.ireturn, 1) := by decide +kernel
theorem d_89_31 : decode (xB 89) 31 = .ok (.iload_n 1, 1) := by decide +kernel
theorem d_89_32 : decode (xB 89) 32 = .ok (.iconst 4, 1) := by decide +kernel
theorem d_89_33 : decode (xB 89) 33 = .ok (.if_icmp .eq 8, 3) := by decide +kernel
theorem d_89_36 : decode (xB 89) 36 = .ok (.iload_n 1, 1) := by decide +kernel
theorem d_89_37 : decode (xB 89) 37 = .ok (.iconst 5, 1) := by decide +kernel
theorem d_89_38 : decode (xB 89) 38 = .ok (.if_icmp .ne 14, 3) := by decide +kernel
theorem d_89_41 : decode (xB 89) 41 = .ok (.aload_n 0, 1) := by decide +kernel
theorem d_89_42 : decode (xB 89) 42 = .ok (.aload_n 2, 1) := by decide +kernel
theorem d_89_43 : decode (xB 89) 43 = .ok (.iconst 0, 1) := by decide +kernel
theorem d_89_44 : decode (xB 89) 44 = .ok (.iaload, 1) := by decide +kernel
theorem d_89_45 : decode (xB 89) 45 = .ok (.aload_n 2, 1) := by decide +kernel
theorem d_89_46 : decode (xB 89) 46 = .ok (.iconst 1, 1) := by decide +kernel
theorem d_89_47 : decode (xB 89) 47 = .ok (.iaload, 1) := by decide +kernel
theorem d_89_48 : decode (xB 89) 48 = .ok (.invokevirtual 150, 3) := by decide +kernel
theorem d_89_51 : decode (xB 89) 51 = .ok (.ireturn, 1) := by decide +kernel
theorem d_89_52 : decode (xB 89) 52 = .ok (.iload_n 1, 1) := by decide +kernel
theorem d_89_53 : decode (xB 89) 53 = .ok (.bipush 7, 2) := by decide +kernel
theorem d_89_55 : decode (xB 89) 55 = .ok (.if_icmp .ne 77, 3) := by decide +kernel
theorem d_89_58 : decode (xB 89) 58 = .ok (.aload_n 0, 1) := by decide +kernel
theorem d_89_59 : decode (xB 89) 59 = .ok (.aload_n 2, 1) := by decide +kernel
theorem d_89_60 : decode (xB 89) 60 = .ok (.iconst 0, 1) := by decide +kernel
theorem d_89_61 : decode (xB 89) 61 = .ok (.iaload, 1) := by decide +kernel
theorem d_89_62 : decode (xB 89) 62 = .ok (.aload_n 2, 1) := by decide +kernel
theorem d_89_63 : decode (xB 89) 63 = .ok (.iconst 1, 1) := by decide +kernel
theorem d_89_64 : decode (xB 89) 64 = .ok (.iaload, 1) := by decide +kernel
theorem d_89_65 : decode (xB 89) 65 = .ok (.invokevirtual 150, 3) := by decide +kernel
theorem d_89_68 : decode (xB 89) 68 = .ok (.ifCond .ne 58, 3) := by decide +kernel
theorem d_89_71 : decode (xB 89) 71 = .ok (.aload_n 0, 1) := by decide +kernel
theorem d_89_72 : decode (xB 89) 72 = .ok (.aload_n 2, 1) := by decide +kernel
theorem d_89_73 : decode (xB 89) 73 = .ok (.iconst 0, 1) := by decide +kernel
theorem d_89_74 : decode (xB 89) 74 = .ok (.iaload, 1) := by decide +kernel
theorem d_89_75 : decode (xB 89) 75 = .ok (.aload_n 2, 1) := by decide +kernel
theorem d_89_76 : decode (xB 89) 76 = .ok (.iconst 2, 1) := by decide +kernel
theorem d_89_77 : decode (xB 89) 77 = .ok (.iaload, 1) := by decide +kernel
theorem d_89_78 : decode (xB 89) 78 = .ok (.iadd, 1) := by decide +kernel
theorem d_89_79 : decode (xB 89) 79 = .ok (.aload_n 2, 1) := by decide +kernel
theorem d_89_80 : decode (xB 89) 80 = .ok (.iconst 1, 1) := by decide +kernel
theorem d_89_81 : decode (xB 89) 81 = .ok (.iaload, 1) := by decide +kernel
theorem d_89_82 : decode (xB 89) 82 = .ok (.invokevirtual 150, 3) := by decide +kernel
theorem d_89_85 : decode (xB 89) 85 = .ok (.ifCond .ne 41, 3) := by decide +kernel
theorem d_89_88 : decode (xB 89) 88 = .ok (.aload_n 0, 1) := by decide +kernel
theorem d_89_89 : decode (xB 89) 89 = .ok (.aload_n 2, 1) := by decide +kernel
theorem d_89_90 : decode (xB 89) 90 = .ok (.iconst 0, 1) := by decide +kernel
theorem d_89_91 : decode (xB 89) 91 = .ok (.iaload, 1) := by decide +kernel
theorem d_89_92 : decode (xB 89) 92 = .ok (.aload_n 2, 1) := by decide +kernel
theorem d_89_93 : decode (xB 89) 93 = .ok (.iconst 2, 1) := by decide +kernel
theorem d_89_94 : decode (xB 89) 94 = .ok (.iaload, 1) := by decide +kernel
theorem d_89_95 : decode (xB 89) 95 = .ok (.iadd, 1) := by decide +kernel
theorem d_89_96 : decode (xB 89) 96 = .ok (.aload_n 2, 1) := by decide +kernel
theorem d_89_97 : decode (xB 89) 97 = .ok (.iconst 1, 1) := by decide +kernel
theorem d_89_98 : decode (xB 89) 98 = .ok (.iaload, 1) := by decide +kernel
theorem d_89_99 : decode (xB 89) 99 = .ok (.aload_n 2, 1) := by decide +kernel
theorem d_89_100 : decode (xB 89) 100 = .ok (.iconst 3, 1) := by decide +kernel
theorem d_89_101 : decode (xB 89) 101 = .ok (.iaload, 1) := by decide +kernel
theorem d_89_102 : decode (xB 89) 102 = .ok (.iadd, 1) := by decide +kernel
theorem d_89_103 : decode (xB 89) 103 = .ok (.invokevirtual 150, 3) := by decide +kernel
theorem d_89_106 : decode (xB 89) 106 = .ok (.ifCond .ne 20, 3) := by decide +kernel
theorem d_89_109 : decode (xB 89) 109 = .ok (.aload_n 0, 1) := by decide +kernel
theorem d_89_110 : decode (xB 89) 110 = .ok (.aload_n 2, 1) := by decide +kernel
theorem d_89_111 : decode (xB 89) 111 = .ok (.iconst 0, 1) := by decide +kernel
theorem d_89_112 : decode (xB 89) 112 = .ok (.iaload, 1) := by decide +kernel
theorem d_89_113 : decode (xB 89) 113 = .ok (.aload_n 2, 1) := by decide +kernel
theorem d_89_114 : decode (xB 89) 114 = .ok (.iconst 1, 1) := by decide +kernel
theorem d_89_115 : decode (xB 89) 115 = .ok (.iaload, 1) := by decide +kernel
theorem d_89_116 : decode (xB 89) 116 = .ok (.aload_n 2, 1) := by decide +kernel
theorem d_89_117 : decode (xB 89) 117 = .ok (.iconst 3, 1) := by decide +kernel
theorem d_89_118 : decode (xB 89) 118 = .ok (.iaload, 1) := by decide +kernel
theorem d_89_119 : decode (xB 89) 119 = .ok (.iadd, 1) := by decide +kernel
theorem d_89_120 : decode (xB 89) 120 = .ok (.invokevirtual 150, 3) := by decide +kernel
theorem d_89_123 : decode (xB 89) 123 = .ok (.ifCond .eq 7, 3) := by decide +kernel
theorem d_89_126 : decode (xB 89) 126 = .ok (.iconst 1, 1) := by decide +kernel
theorem d_89_127 : decode (xB 89) 127 = .ok (.goto 4, 3) := by decide +kernel
theorem d_89_130 : decode (xB 89) 130 = .ok (.iconst 0, 1) := by decide +kernel
theorem d_89_131 : decode (xB 89) 131 = .ok (.ireturn, 1) := by decide +kernel
theorem d_89_132 : decode (xB 89) 132 = .ok (.iload_n 1, 1) := by decide +kernel
theorem d_89_133 : decode (xB 89) 133 = .ok (.bipush 8, 2) := by decide +kernel
theorem d_89_135 : decode (xB 89) 135 = .ok (.if_icmp .ne 48, 3) := by decide +kernel
theorem d_89_138 : decode (xB 89) 138 = .ok (.aload_n 0, 1) := by decide +kernel
theorem d_89_139 : decode (xB 89) 139 = .ok (.aload_n 2, 1) := by decide +kernel
theorem d_89_140 : decode (xB 89) 140 = .ok (.iconst 0, 1) := by decide +kernel
theorem d_89_141 : decode (xB 89) 141 = .ok (.iaload, 1) := by decide +kernel
theorem d_89_142 : decode (xB 89) 142 = .ok (.aload_n 2, 1) := by decide +kernel
theorem d_89_143 : decode (xB 89) 143 = .ok (.iconst 1, 1) := by decide +kernel
theorem d_89_144 : decode (xB 89) 144 = .ok (.iaload, 1) := by decide +kernel
theorem d_89_145 : decode (xB 89) 145 = .ok (.invokevirtual 150, 3) := by decide +kernel
theorem d_89_148 : decode (xB 89) 148 = .ok (.ifCond .ne 29, 3) := by decide +kernel
theorem d_89_151 : decode (xB 89) 151 = .ok (.aload_n 0, 1) := by decide +kernel
theorem d_89_152 : decode (xB 89) 152 = .ok (.aload_n 2, 1) := by decide +kernel
theorem d_89_153 : decode (xB 89) 153 = .ok (.iconst 2, 1) := by decide +kernel
theorem d_89_154 : decode (xB 89) 154 = .ok (.iaload, 1) := by decide +kernel
theorem d_89_155 : decode (xB 89) 155 = .ok (.aload_n 2, 1) := by decide +kernel
theorem d_89_156 : decode (xB 89) 156 = .ok (.iconst 3, 1) := by decide +kernel
theorem d_89_157 : decode (xB 89) 157 = .ok (.iaload, 1) := by decide +kernel
theorem d_89_158 : decode (xB 89) 158 = .ok (.invokevirtual 150, 3) := by decide +kernel
theorem d_89_161 : decode (xB 89) 161 = .ok (.ifCond .ne 16, 3) := by decide +kernel
theorem d_89_164 : decode (xB 89) 164 = .ok (.aload_n 0, 1) := by decide +kernel
theorem d_89_165 : decode (xB 89) 165 = .ok (.aload_n 2, 1) := by decide +kernel
theorem d_89_166 : decode (xB 89) 166 = .ok (.iconst 4, 1) := by decide +kernel
theorem d_89_167 : decode (xB 89) 167 = .ok (.iaload, 1) := by decide +kernel
theorem d_89_168 : decode (xB 89) 168 = .ok (.aload_n 2, 1) := by decide +kernel
theorem d_89_169 : decode (xB 89) 169 = .ok (.iconst 5, 1) := by decide +kernel
theorem d_89_170 : decode (xB 89) 170 = .ok (.iaload, 1) := by decide +kernel
theorem d_89_171 : decode (xB 89) 171 = .ok (.invokevirtual 150, 3) := by decide +kernel
theorem d_89_174 : decode (xB 89) 174 = .ok (.ifCond .eq 7, 3) := by decide +kernel
theorem d_89_177 : decode (xB 89) 177 = .ok (.iconst 1, 1) := by decide +kernel
theorem d_89_178 : decode (xB 89) 178 = .ok (.goto 4, 3) := by decide +kernel
theorem d_89_181 : decode (xB 89) 181 = .ok (.iconst 0, 1) := by decide +kernel
theorem d_89_182 : decode (xB 89) 182 = .ok (.ireturn, 1) := by decide +kernel
theorem d_89_183 : decode (xB 89) 183 = .ok (.iload_n 1, 1) := by decide +kernel
theorem d_89_184 : decode (xB 89) 184 = .ok (.iconst 2, 1) := by decide +kernel
theorem d_89_185 : decode (xB 89) 185 = .ok (.if_icmp .ne 43, 3) := by decide +kernel
theorem d_89_188 : decode (xB 89) 188 = .ok (.iconst 0, 1) := by decide +kernel
theorem d_89_189 : decode (xB 89) 189 = .ok (.istore_n 3, 1) := by decide +kernel
theorem d_89_190 : decode (xB 89) 190 = .ok (.iload_n 3, 1) := by decide +kernel
theorem d_89_191 : decode (xB 89) 191 = .ok (.bipush 6, 2) := by decide +kernel
theorem d_89_193 : decode (xB 89) 193 = .ok (.if_icmp .ge 35, 3) := by decide +kernel
theorem d_89_196 : decode (xB 89) 196 = .ok (.aload_n 0, 1) := by decide +kernel
theorem d_89_197 : decode (xB 89) 197 = .ok (.iload_n 3, 1) := by decide +kernel
theorem d_89_198 : decode (xB 89) 198 = .ok (.invokevirtual 154, 3) := by decide +kernel
theorem d_89_201 : decode (xB 89) 201 = .ok (.ldc2_w 158, 3) := by decide +kernel
theorem d_89_204 : decode (xB 89) 204 = .ok (.lcmp, 1) := by decide +kernel
theorem d_89_205 : decode (xB 89) 205 = .ok (.ifCond .lt 15, 3) := by decide +kernel
theorem d_89_208 : decode (xB 89) 208 = .ok (.aload_n 0, 1) := by decide +kernel
theorem d_89_209 : decode (xB 89) 209 = .ok (.iload_n 3, 1) := by decide +kernel
theorem d_89_210 : decode (xB 89) 210 = .ok (.invokevirtual 154, 3) := by decide +kernel
theorem d_89_213 : decode (xB 89) 213 = .ok (.ldc2_w 160, 3) := by decide +kernel
theorem d_89_216 : decode (xB 89) 216 = .ok (.lcmp, 1) := by decide +kernel
theorem d_89_217 : decode (xB 89) 217 = .ok (.ifCond .le 5, 3) := by decide +kernel
theorem d_89_220 : decode (xB 89) 220 = .ok (.iconst 1, 1) := by decide +kernel
theorem d_89_221 : decode (xB 89) 221 = .ok (.ireturn, 1) := by decide +kernel
theorem d_89_222 : decode (xB 89) 222 = .ok (.iinc 3 1, 3) := by decide +kernel
theorem d_89_225 : decode (xB 89) 225 = .ok (.goto (-35), 3) := by decide +kernel
theorem d_89_228 : decode (xB 89) 228 = .ok (.iconst 0, 1) := by decide +kernel
theorem d_89_229 : decode (xB 89) 229 = .ok (.ireturn, 1) := by decide +kernel
theorem d_90_0 : decode (xB 90) 0 = .ok (.aload_n 0, 1) := by decide +kernel
theorem d_90_1 : decode (xB 90) 1 = .ok (.aload_n 0, 1) := by decide +kernel
theorem d_90_2 : decode (xB 90) 2 = .ok (.getfield 20, 3) := by decide +kernel
theorem d_90_5 : decode (xB 90) 5 = .ok (.iconst 0, 1) := by decide +kernel
theorem d_90_6 : decode (xB 90) 6 = .ok (.laload, 1) := by decide +kernel
theorem d_90_7 : decode (xB 90) 7 = .ok (.iload_n 1, 1) := by decide +kernel
theorem d_90_8 : decode (xB 90) 8 = .ok (.i2l, 1) := by decide +kernel
theorem d_90_9 : decode (xB 90) 9 = .ok (.lmul, 1) := by decide +kernel
theorem d_90_10 : decode (xB 90) 10 = .ok (.aload_n 0, 1) := by decide +kernel
theorem d_90_11 : decode (xB 90) 11 = .ok (.getfield 20, 3) := by decide +kernel
theorem d_90_14 : decode (xB 90) 14 = .ok (.iconst 2, 1) := by decide +kernel
theorem d_90_15 : decode (xB 90) 15 = .ok (.laload, 1) := by decide +kernel
theorem d_90_16 : decode (xB 90) 16 = .ok (.iload_n 2, 1) := by decide +kernel
theorem d_90_17 : decode (xB 90) 17 = .ok (.i2l, 1) := by decide +kernel
theorem d_90_18 : decode (xB 90) 18 = .ok (.lmul, 1) := by decide +kernel
theorem d_90_19 : decode (xB 90) 19 = .ok (.ladd, 1) := by decide +kernel
theorem d_90_20 : decode (xB 90) 20 = .ok (.aload_n 0, 1) := by decide +kernel
theorem d_90_21 : decode (xB 90) 21 = .ok (.getfield 20, 3) := by decide +kernel
theorem d_90_24 : decode (xB 90) 24 = .ok (.iconst 4, 1) := by decide +kernel
theorem d_90_25 : decode (xB 90) 25 = .ok (.laload, 1) := by decide +kernel
theorem d_90_26 : decode (xB 90) 26 = .ok (.ladd, 1) := by decide +kernel
theorem d_90_27 : decode (xB 90) 27 = .ok (.putfield 130, 3) := by decide +kernel
theorem d_90_30 : decode (xB 90) 30 = .ok (.aload_n 0, 1) := by decide +kernel
theorem d_90_31 : decode (xB 90) 31 = .ok (.aload_n 0, 1) := by decide +kernel
theorem d_90_32 : decode (xB 90) 32 = .ok (.getfield 20, 3) := by decide +kernel
theorem d_90_35 : decode (xB 90) 35 = .ok (.iconst 1, 1) := by decide +kernel
theorem d_90_36 : decode (xB 90) 36 = .ok (.laload, 1) := by decide +kernel
theorem d_90_37 : decode (xB 90) 37 = .ok (.iload_n 1, 1) := by decide +kernel
theorem d_90_38 : decode (xB 90) 38 = .ok (.i2l, 1) := by decide +kernel
theorem d_90_39 : decode (xB 90) 39 = .ok (.lmul, 1) := by decide +kernel
theorem d_90_40 : decode (xB 90) 40 = .ok (.aload_n 0, 1) := by decide +kernel
theorem d_90_41 : decode (xB 90) 41 = .ok (.getfield 20, 3) := by decide +kernel
theorem d_90_44 : decode (xB 90) 44 = .ok (.iconst 3, 1) := by decide +kernel
theorem d_90_45 : decode (xB 90) 45 = .ok (.laload, 1) := by decide +kernel
theorem d_90_46 : decode (xB 90) 46 = .ok (.iload_n 2, 1) := by decide +kernel
theorem d_90_47 : decode (xB 90) 47 = .ok (.i2l, 1) := by decide +kernel
theorem d_90_48 : decode (xB 90) 48 = .ok (.lmul, 1) := by decide +kernel
theorem d_90_49 : decode (xB 90) 49 = .ok (.ladd, 1) := by decide +kernel
theorem d_90_50 : decode (xB 90) 50 = .ok (.aload_n 0, 1) := by decide +kernel
theorem d_90_51 : decode (xB 90) 51 = .ok (.getfield 20, 3) := by decide +kernel
theorem d_90_54 : decode (xB 90) 54 = .ok (.iconst 5, 1) := by decide +kernel
theorem d_90_55 : decode (xB 90) 55 = .ok (.laload, 1) := by decide +kernel
theorem d_90_56 : decode (xB 90) 56 = .ok (.ladd, 1) := by decide +kernel
theorem d_90_57 : decode (xB 90) 57 = .ok (.putfield 134, 3) := by decide +kernel
theorem d_90_60 : decode (xB 90) 60 = .ok (.aload_n 0, 1) := by decide +kernel
theorem d_90_61 : decode (xB 90) 61 = .ok (.getfield 130, 3) := by decide +kernel
theorem d_90_64 : decode (xB 90) 64 = .ok (.ldc2_w 137, 3) := by decide +kernel
theorem d_90_67 : decode (xB 90) 67 = .ok (.lcmp, 1) := by decide +kernel
theorem d_90_68 : decode (xB 90) 68 = .ok (.ifCond .lt 36, 3) := by decide +kernel
theorem d_90_71 : decode (xB 90) 71 = .ok (.aload_n 0, 1) := by decide +kernel
theorem d_90_72 : decode (xB 90) 72 = .ok (.getfield 130, 3) := by decide +kernel
theorem d_90_75 : decode (xB 90) 75 = .ok (.ldc2_w 139, 3) := by decide +kernel
theorem d_90_78 : decode (xB 90) 78 = .ok (.lcmp, 1) := by decide +kernel
theorem d_90_79 : decode (xB 90) 79 = .ok (.ifCond .gt 25, 3) := by decide +kernel
theorem d_90_82 : decode (xB 90) 82 = .ok (.aload_n 0, 1) := by decide +kernel
theorem d_90_83 : decode (xB 90) 83 = .ok (.getfield 134, 3) := by decide +kernel
theorem d_90_86 : decode (xB 90) 86 = .ok (.ldc2_w 137, 3) := by decide +kernel
theorem d_90_89 : decode (xB 90) 89 = .ok (.lcmp, 1) := by decide +kernel
theorem d_90_90 : decode (xB 90) 90 = .ok (.ifCond .lt 14, 3) := by decide +kernel
theorem d_90_93 : decode (xB 90) 93 = .ok (.aload_n 0, 1) := by decide +kernel
theorem d_90_94 : decode (xB 90) 94 = .ok (.getfield 134, 3) := by decide +kernel
theorem d_90_97 : decode (xB 90) 97 = .ok (.ldc2_w 139, 3) := by decide +kernel
theorem d_90_100 : decode (xB 90) 100 = .ok (.lcmp, 1) := by decide +kernel
theorem d_90_101 : decode (xB 90) 101 = .ok (.ifCond .le 7, 3) := by decide +kernel
theorem d_90_104 : decode (xB 90) 104 = .ok (.iconst 1, 1) := by decide +kernel
theorem d_90_105 : decode (xB 90) 105 = .ok (.goto 4, 3) := by decide +kernel
theorem d_90_108 : decode (xB 90) 108 = .ok (.iconst 0, 1) := by decide +kernel
theorem d_90_109 : decode (xB 90) 109 = .ok (.ireturn, 1) := by decide +kernel
theorem d_91_0 : decode (xB 91) 0 = .ok (.aload_n 0, 1) := by decide +kernel
theorem d_91_1 : decode (xB 91) 1 = .ok (.getfield 20, 3) := by decide +kernel
theorem d_91_4 : decode (xB 91) 4 = .ok (.astore_n 2, 1) := by decide +kernel
theorem d_91_5 : decode (xB 91) 5 = .ok (.aload_n 0, 1) := by decide +kernel
theorem d_91_6 : decode (xB 91) 6 = .ok (.getfield 45, 3) := by decide +kernel
theorem d_91_9 : decode (xB 91) 9 = .ok (.astore_n 3, 1) := by decide +kernel
theorem d_91_10 : decode (xB 91) 10 = .ok (.iload_n 1, 1) := by decide +kernel
theorem d_91_11 : decode (xB 91) 11 = .ok (.ifCond .ne 21, 3) := by decide +kernel
theorem d_91_14 : decode (xB 91) 14 = .ok (.aload_n 2, 1) := by decide +kernel
theorem d_91_15 : decode (xB 91) 15 = .ok (.iconst 0, 1) := by decide +kernel
theorem d_91_16 : decode (xB 91) 16 = .ok (.laload, 1) := by decide +kernel
theorem d_91_17 : decode (xB 91) 17 = .ok (.aload_n 3, 1) := by decide +kernel
theorem d_91_18 : decode (xB 91) 18 = .ok (.iconst 0, 1) := by decide +kernel
theorem d_91_19 : decode (xB 91) 19 = .ok (.iaload, 1) := by decide +kernel
theorem d_91_20 : decode (xB 91) 20 = .ok (.i2l, 1) := by decide +kernel
theorem d_91_21 : decode (xB 91) 21 = .ok (.lmul, 1) := by decide +kernel
theorem d_91_22 : decode (xB 91) 22 = .ok (.aload_n 2, 1) := by decide +kernel
theorem d_91_23 : decode (xB 91) 23 = .ok (.iconst 2, 1) := by decide +kernel
theorem d_91_24 : decode (xB 91) 24 = .ok (.laload, 1) := by decide +kernel
theorem d_91_25 : decode (xB 91) 25 = .ok (.aload_n 3, 1) := by decide +kernel
theorem d_91_26 : decode (xB 91) 26 = .ok (.iconst 1, 1) := by decide +kernel
theorem d_91_27 : decode (xB 91) 27 = .ok (.iaload, 1) := by decide +kernel
theorem d_91_28 : decode (xB 91) 28 = .ok (.i2l, 1) := by decide +kernel
theorem d_91_29 : decode (xB 91) 29 = .ok (.lmul, 1) := by decide +kernel
theorem d_91_30 : decode (xB 91) 30 = .ok (.ladd, 1) := by decide +kernel
theorem d_91_31 : decode (xB 91) 31 = .ok (.lreturn, 1) := by decide +kernel
theorem d_91_32 : decode (xB 91) 32 = .ok (.iload_n 1, 1) := by decide +kernel
theorem d_91_33 : decode (xB 91) 33 = .ok (.iconst 1, 1) := by decide +kernel
theorem d_91_34 : decode (xB 91) 34 = .ok (.if_icmp .ne 21, 3) := by decide +kernel
theorem d_91_37 : decode (xB 91) 37 = .ok (.aload_n 2, 1) := by decide +kernel
theorem d_91_38 : decode (xB 91) 38 = .ok (.iconst 1, 1) := by decide +kernel
theorem d_91_39 : decode (xB 91) 39 = .ok (.laload, 1) := by decide +kernel
theorem d_91_40 : decode (xB 91) 40 = .ok (.aload_n 3, 1) := by decide +kernel
theorem d_91_41 : decode (xB 91) 41 = .ok (.iconst 0, 1) := by decide +kernel
theorem d_91_42 : decode (xB 91) 42 = .ok (.iaload, 1) := by decide +kernel
theorem d_91_43 : decode (xB 91) 43 = .ok (.i2l, 1) := by decide +kernel
theorem d_91_44 : decode (xB 91) 44 = .ok (.lmul, 1) := by decide +kernel
theorem d_91_45 : decode (xB 91) 45 = .ok (.aload_n 2, 1) := by decide +kernel
theorem d_91_46 : decode (xB 91) 46 = .ok (.iconst 3, 1) := by decide +kernel
theorem d_91_47 : decode (xB 91) 47 = .ok (.laload, 1) := by decide +kernel
theorem d_91_48 : decode (xB 91) 48 = .ok (.aload_n 3, 1) := by decide +kernel
theorem d_91_49 : decode (xB 91) 49 = .ok (.iconst 1, 1) := by decide +kernel
theorem d_91_50 : decode (xB 91) 50 = .ok (.iaload, 1) := by decide +kernel
theorem d_91_51 : decode (xB 91) 51 = .ok (.i2l, 1) := by decide +kernel
theorem d_91_52 : decode (xB 91) 52 = .ok (.lmul, 1) := by decide +kernel
theorem d_91_53 : decode (xB 91) 53 = .ok (.ladd, 1) := by decide +kernel
theorem d_91_54 : decode (xB 91) 54 = .ok (.lreturn, 1) := by decide +kernel
theorem d_91_55 : decode (xB 91) 55 = .ok (.iload_n 1, 1) := by decide +kernel
theorem d_91_56 : decode (xB 91) 56 = .ok (.iconst 2, 1) := by decide +kernel
theorem d_91_57 : decode (xB 91) 57 = .ok (.if_icmp .ne 21, 3) := by decide +kernel
theorem d_91_60 : decode (xB 91) 60 = .ok (.aload_n 2, 1) := by decide +kernel
theorem d_91_61 : decode (xB 91) 61 = .ok (.iconst 0, 1) := by decide +kernel
theorem d_91_62 : decode (xB 91) 62 = .ok (.laload, 1) := by decide +kernel
theorem d_91_63 : decode (xB 91) 63 = .ok (.aload_n 3, 1) := by decide +kernel
theorem d_91_64 : decode (xB 91) 64 = .ok (.iconst 2, 1) := by decide +kernel
theorem d_91_65 : decode (xB 91) 65 = .ok (.iaload, 1) := by decide +kernel
theorem d_91_66 : decode (xB 91) 66 = .ok (.i2l, 1) := by decide +kernel
