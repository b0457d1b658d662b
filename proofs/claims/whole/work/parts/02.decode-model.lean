theorem d_MD_init_0 : decode k_MD_init 0 = .ok (.aload_n 0, 1) := by decide +kernel
theorem d_MD_init_1 : decode k_MD_init 1 = .ok (.invokespecial 1, 3) := by decide +kernel
theorem d_MD_init_4 : decode k_MD_init 4 = .ok (.aload_n 0, 1) := by decide +kernel
theorem d_MD_init_5 : decode k_MD_init 5 = .ok (.bipush 40, 2) := by decide +kernel
theorem d_MD_init_7 : decode k_MD_init 7 = .ok (.newarray .int, 2) := by decide +kernel
theorem d_MD_init_9 : decode k_MD_init 9 = .ok (.putfield 7, 3) := by decide +kernel
theorem d_MD_init_12 : decode k_MD_init 12 = .ok (.aload_n 0, 1) := by decide +kernel
theorem d_MD_init_13 : decode k_MD_init 13 = .ok (.sipush 800, 3) := by decide +kernel
theorem d_MD_init_16 : decode k_MD_init 16 = .ok (.newarray .int, 2) := by decide +kernel
theorem d_MD_init_18 : decode k_MD_init 18 = .ok (.putfield 13, 3) := by decide +kernel
theorem d_MD_init_21 : decode k_MD_init 21 = .ok (.aload_n 0, 1) := by decide +kernel
theorem d_MD_init_22 : decode k_MD_init 22 = .ok (.bipush 20, 2) := by decide +kernel
theorem d_MD_init_24 : decode k_MD_init 24 = .ok (.newarray .int, 2) := by decide +kernel
theorem d_MD_init_26 : decode k_MD_init 26 = .ok (.putfield 16, 3) := by decide +kernel
theorem d_MD_init_29 : decode k_MD_init 29 = .ok (.aload_n 0, 1) := by decide +kernel
theorem d_MD_init_30 : decode k_MD_init 30 = .ok (.bipush 20, 2) := by decide +kernel
theorem d_MD_init_32 : decode k_MD_init 32 = .ok (.newarray .boolean, 2) := by decide +kernel
theorem d_MD_init_34 : decode k_MD_init 34 = .ok (.putfield 19, 3) := by decide +kernel
theorem d_MD_init_37 : decode k_MD_init 37 = .ok (.aload_n 0, 1) := by decide +kernel
theorem d_MD_init_38 : decode k_MD_init 38 = .ok (.bipush 12, 2) := by decide +kernel
theorem d_MD_init_40 : decode k_MD_init 40 = .ok (.newarray .int, 2) := by decide +kernel
theorem d_MD_init_42 : decode k_MD_init 42 = .ok (.putfield 23, 3) := by decide +kernel
theorem d_MD_init_45 : decode k_MD_init 45 = .ok (.aload_n 0, 1) := by decide +kernel
theorem d_MD_init_46 : decode k_MD_init 46 = .ok (.bipush 12, 2) := by decide +kernel
theorem d_MD_init_48 : decode k_MD_init 48 = .ok (.newarray .int, 2) := by decide +kernel
theorem d_MD_init_50 : decode k_MD_init 50 = .ok (.putfield 26, 3) := by decide +kernel
theorem d_MD_init_53 : decode k_MD_init 53 = .ok (.aload_n 0, 1) := by decide +kernel
theorem d_MD_init_54 : decode k_MD_init 54 = .ok (.bipush 16, 2) := by decide +kernel
theorem d_MD_init_56 : decode k_MD_init 56 = .ok (.newarray .int, 2) := by decide +kernel
theorem d_MD_init_58 : decode k_MD_init 58 = .ok (.putfield 29, 3) := by decide +kernel
theorem d_MD_init_61 : decode k_MD_init 61 = .ok (.aload_n 0, 1) := by decide +kernel
theorem d_MD_init_62 : decode k_MD_init 62 = .ok (.bipush 16, 2) := by decide +kernel
theorem d_MD_init_64 : decode k_MD_init 64 = .ok (.newarray .int, 2) := by decide +kernel
theorem d_MD_init_66 : decode k_MD_init 66 = .ok (.putfield 32, 3) := by decide +kernel
theorem d_MD_init_69 : decode k_MD_init 69 = .ok (.aload_n 0, 1) := by decide +kernel
theorem d_MD_init_70 : decode k_MD_init 70 = .ok (.bipush 16, 2) := by decide +kernel
theorem d_MD_init_72 : decode k_MD_init 72 = .ok (.newarray .int, 2) := by decide +kernel
theorem d_MD_init_74 : decode k_MD_init 74 = .ok (.putfield 35, 3) := by decide +kernel
theorem d_MD_init_77 : decode k_MD_init 77 = .ok (.aload_n 0, 1) := by decide +kernel
theorem d_MD_init_78 : decode k_MD_init 78 = .ok (.bipush 96, 2) := by decide +kernel
theorem d_MD_init_80 : decode k_MD_init 80 = .ok (.newarray .long, 2) := by decide +kernel
theorem d_MD_init_82 : decode k_MD_init 82 = .ok (.putfield 38, 3) := by decide +kernel
theorem d_MD_init_85 : decode k_MD_init 85 = .ok (.aload_n 0, 1) := by decide +kernel
theorem d_MD_init_86 : decode k_MD_init 86 = .ok (.bipush 40, 2) := by decide +kernel
theorem d_MD_init_88 : decode k_MD_init 88 = .ok (.newarray .int, 2) := by decide +kernel
theorem d_MD_init_90 : decode k_MD_init 90 = .ok (.putfield 42, 3) := by decide +kernel
theorem d_MD_init_93 : decode k_MD_init 93 = .ok (.aload_n 0, 1) := by decide +kernel
theorem d_MD_init_94 : decode k_MD_init 94 = .ok (.bipush 40, 2) := by decide +kernel
theorem d_MD_init_96 : decode k_MD_init 96 = .ok (.newarray .int, 2) := by decide +kernel
theorem d_MD_init_98 : decode k_MD_init 98 = .ok (.putfield 45, 3) := by decide +kernel
theorem d_MD_init_101 : decode k_MD_init 101 = .ok (.aload_n 0, 1) := by decide +kernel
theorem d_MD_init_102 : decode k_MD_init 102 = .ok (.bipush 40, 2) := by decide +kernel
theorem d_MD_init_104 : decode k_MD_init 104 = .ok (.newarray .int, 2) := by decide +kernel
theorem d_MD_init_106 : decode k_MD_init 106 = .ok (.putfield 48, 3) := by decide +kernel
theorem d_MD_init_109 : decode k_MD_init 109 = .ok (.aload_n 0, 1) := by decide +kernel
theorem d_MD_init_110 : decode k_MD_init 110 = .ok (.bipush 40, 2) := by decide +kernel
theorem d_MD_init_112 : decode k_MD_init 112 = .ok (.newarray .int, 2) := by decide +kernel
theorem d_MD_init_114 : decode k_MD_init 114 = .ok (.putfield 51, 3) := by decide +kernel
theorem d_MD_init_117 : decode k_MD_init 117 = .ok (.aload_n 0, 1) := by decide +kernel
theorem d_MD_init_118 : decode k_MD_init 118 = .ok (.sipush 600, 3) := by decide +kernel
theorem d_MD_init_121 : decode k_MD_init 121 = .ok (.newarray .int, 2) := by decide +kernel
theorem d_MD_init_123 : decode k_MD_init 123 = .ok (.putfield 54, 3) := by decide +kernel
theorem d_MD_init_126 : decode k_MD_init 126 = .ok (.aload_n 0, 1) := by decide +kernel
theorem d_MD_init_127 : decode k_MD_init 127 = .ok (.bipush 16, 2) := by decide +kernel
theorem d_MD_init_129 : decode k_MD_init 129 = .ok (.newarray .int, 2) := by decide +kernel
theorem d_MD_init_131 : decode k_MD_init 131 = .ok (.putfield 57, 3) := by decide +kernel
theorem d_MD_init_134 : decode k_MD_init 134 = .ok (.aload_n 0, 1) := by decide +kernel
theorem d_MD_init_135 : decode k_MD_init 135 = .ok (.bipush 60, 2) := by decide +kernel
theorem d_MD_init_137 : decode k_MD_init 137 = .ok (.newarray .int, 2) := by decide +kernel
theorem d_MD_init_139 : decode k_MD_init 139 = .ok (.putfield 60, 3) := by decide +kernel
theorem d_MD_init_142 : decode k_MD_init 142 = .ok (.aload_n 0, 1) := by decide +kernel
theorem d_MD_init_143 : decode k_MD_init 143 = .ok (.bipush 60, 2) := by decide +kernel
theorem d_MD_init_145 : decode k_MD_init 145 = .ok (.newarray .int, 2) := by decide +kernel
theorem d_MD_init_147 : decode k_MD_init 147 = .ok (.putfield 63, 3) := by decide +kernel
theorem d_MD_init_150 : decode k_MD_init 150 = .ok (.return_, 1) := by decide +kernel
theorem d_MD_thrown_0 : decode k_MD_thrown 0 = .ok (.aload_n 0, 1) := by decide +kernel
theorem d_MD_thrown_1 : decode k_MD_thrown 1 = .ok (.getfield 66, 3) := by decide +kernel
theorem d_MD_thrown_4 : decode k_MD_thrown 4 = .ok (.ireturn, 1) := by decide +kernel
theorem d_MD_throwing_0 : decode k_MD_throwing 0 = .ok (.aload_n 0, 1) := by decide +kernel
theorem d_MD_throwing_1 : decode k_MD_throwing 1 = .ok (.iload_n 1, 1) := by decide +kernel
theorem d_MD_throwing_2 : decode k_MD_throwing 2 = .ok (.ifCond .eq 7, 3) := by decide +kernel
theorem d_MD_throwing_5 : decode k_MD_throwing 5 = .ok (.iconst 1, 1) := by decide +kernel
theorem d_MD_throwing_6 : decode k_MD_throwing 6 = .ok (.goto 20, 3) := by decide +kernel
theorem d_MD_throwing_9 : decode k_MD_throwing 9 = .ok (.iload_n 2, 1) := by decide +kernel
theorem d_MD_throwing_10 : decode k_MD_throwing 10 = .ok (.ifCond .eq 7, 3) := by decide +kernel
theorem d_MD_throwing_13 : decode k_MD_throwing 13 = .ok (.iconst 2, 1) := by decide +kernel
theorem d_MD_throwing_14 : decode k_MD_throwing 14 = .ok (.goto 12, 3) := by decide +kernel
theorem d_MD_throwing_17 : decode k_MD_throwing 17 = .ok (.iload_n 3, 1) := by decide +kernel
theorem d_MD_throwing_18 : decode k_MD_throwing 18 = .ok (.ifCond .eq 7, 3) := by decide +kernel
theorem d_MD_throwing_21 : decode k_MD_throwing 21 = .ok (.iconst 3, 1) := by decide +kernel
theorem d_MD_throwing_22 : decode k_MD_throwing 22 = .ok (.goto 4, 3) := by decide +kernel
theorem d_MD_throwing_25 : decode k_MD_throwing 25 = .ok (.iconst 0, 1) := by decide +kernel
theorem d_MD_throwing_26 : decode k_MD_throwing 26 = .ok (.putfield 66, 3) := by decide +kernel
theorem d_MD_throwing_29 : decode k_MD_throwing 29 = .ok (.aload_n 0, 1) := by decide +kernel
theorem d_MD_throwing_30 : decode k_MD_throwing 30 = .ok (.getfield 66, 3) := by decide +kernel
theorem d_MD_throwing_33 : decode k_MD_throwing 33 = .ok (.ifCond .le 7, 3) := by decide +kernel
theorem d_MD_throwing_36 : decode k_MD_throwing 36 = .ok (.iconst 1, 1) := by decide +kernel
theorem d_MD_throwing_37 : decode k_MD_throwing 37 = .ok (.goto 4, 3) := by decide +kernel
theorem d_MD_throwing_40 : decode k_MD_throwing 40 = .ok (.iconst 0, 1) := by decide +kernel
theorem d_MD_throwing_41 : decode k_MD_throwing 41 = .ok (.ireturn, 1) := by decide +kernel
theorem d_MD_in_0 : decode k_MD_in 0 = .ok (.iload_n 0, 1) := by decide +kernel
theorem d_MD_in_1 : decode k_MD_in 1 = .ok (.iload_n 1, 1) := by decide +kernel
theorem d_MD_in_2 : decode k_MD_in 2 = .ok (.if_icmp .lt 12, 3) := by decide +kernel
theorem d_MD_in_5 : decode k_MD_in 5 = .ok (.iload_n 0, 1) := by decide +kernel
theorem d_MD_in_6 : decode k_MD_in 6 = .ok (.iload_n 2, 1) := by decide +kernel
theorem d_MD_in_7 : decode k_MD_in 7 = .ok (.if_icmp .gt 7, 3) := by decide +kernel
theorem d_MD_in_10 : decode k_MD_in 10 = .ok (.iconst 1, 1) := by decide +kernel
theorem d_MD_in_11 : decode k_MD_in 11 = .ok (.goto 4, 3) := by decide +kernel
theorem d_MD_in_14 : decode k_MD_in 14 = .ok (.iconst 0, 1) := by decide +kernel
theorem d_MD_in_15 : decode k_MD_in 15 = .ok (.ireturn, 1) := by decide +kernel
theorem d_MD_isPerson_0 : decode k_MD_isPerson 0 = .ok (.iload_n 1, 1) := by decide +kernel
theorem d_MD_isPerson_1 : decode k_MD_isPerson 1 = .ok (.iconst 0, 1) := by decide +kernel
theorem d_MD_isPerson_2 : decode k_MD_isPerson 2 = .ok (.aload_n 0, 1) := by decide +kernel
theorem d_MD_isPerson_3 : decode k_MD_isPerson 3 = .ok (.getfield 70, 3) := by decide +kernel
theorem d_MD_isPerson_6 : decode k_MD_isPerson 6 = .ok (.iconst 1, 1) := by decide +kernel
theorem d_MD_isPerson_7 : decode k_MD_isPerson 7 = .ok (.isub, 1) := by decide +kernel
theorem d_MD_isPerson_8 : decode k_MD_isPerson 8 = .ok (.invokestatic 73, 3) := by decide +kernel
theorem d_MD_isPerson_11 : decode k_MD_isPerson 11 = .ok (.ireturn, 1) := by decide +kernel
theorem d_MD_isRecord_0 : decode k_MD_isRecord 0 = .ok (.iload_n 1, 1) := by decide +kernel
theorem d_MD_isRecord_1 : decode k_MD_isRecord 1 = .ok (.iconst 0, 1) := by decide +kernel
theorem d_MD_isRecord_2 : decode k_MD_isRecord 2 = .ok (.aload_n 0, 1) := by decide +kernel
theorem d_MD_isRecord_3 : decode k_MD_isRecord 3 = .ok (.getfield 77, 3) := by decide +kernel
theorem d_MD_isRecord_6 : decode k_MD_isRecord 6 = .ok (.iconst 1, 1) := by decide +kernel
theorem d_MD_isRecord_7 : decode k_MD_isRecord 7 = .ok (.isub, 1) := by decide +kernel
theorem d_MD_isRecord_8 : decode k_MD_isRecord 8 = .ok (.invokestatic 73, 3) := by decide +kernel
theorem d_MD_isRecord_11 : decode k_MD_isRecord 11 = .ok (.ireturn, 1) := by decide +kernel
theorem d_MD_isField_0 : decode k_MD_isField 0 = .ok (.iload_n 0, 1) := by decide +kernel
theorem d_MD_isField_1 : decode k_MD_isField 1 = .ok (.iconst 0, 1) := by decide +kernel
theorem d_MD_isField_2 : decode k_MD_isField 2 = .ok (.iconst 5, 1) := by decide +kernel
theorem d_MD_isField_3 : decode k_MD_isField 3 = .ok (.invokestatic 73, 3) := by decide +kernel
theorem d_MD_isField_6 : decode k_MD_isField 6 = .ok (.ireturn, 1) := by decide +kernel
theorem d_MD_isDay_0 : decode k_MD_isDay 0 = .ok (.iload_n 0, 1) := by decide +kernel
theorem d_MD_isDay_1 : decode k_MD_isDay 1 = .ok (.iconst 0, 1) := by decide +kernel
theorem d_MD_isDay_2 : decode k_MD_isDay 2 = .ok (.ldc 80, 2) := by decide +kernel
theorem d_MD_isDay_4 : decode k_MD_isDay 4 = .ok (.invokestatic 73, 3) := by decide +kernel
theorem d_MD_isDay_7 : decode k_MD_isDay 7 = .ok (.ireturn, 1) := by decide +kernel
theorem d_MD_signOf_0 : decode k_MD_signOf 0 = .ok (.iload_n 0, 1) := by decide +kernel
theorem d_MD_signOf_1 : decode k_MD_signOf 1 = .ok (.bipush 8, 2) := by decide +kernel
theorem d_MD_signOf_3 : decode k_MD_signOf 3 = .ok (.iload_n 1, 1) := by decide +kernel
theorem d_MD_signOf_4 : decode k_MD_signOf 4 = .ok (.imul, 1) := by decide +kernel
theorem d_MD_signOf_5 : decode k_MD_signOf 5 = .ok (.ishr, 1) := by decide +kernel
theorem d_MD_signOf_6 : decode k_MD_signOf 6 = .ok (.sipush 255, 3) := by decide +kernel
theorem d_MD_signOf_9 : decode k_MD_signOf 9 = .ok (.iand, 1) := by decide +kernel
theorem d_MD_signOf_10 : decode k_MD_signOf 10 = .ok (.ireturn, 1) := by decide +kernel
theorem d_MD_unit_0 : decode k_MD_unit 0 = .ok (.iconst 0, 1) := by decide +kernel
theorem d_MD_unit_1 : decode k_MD_unit 1 = .ok (.istore 5, 2) := by decide +kernel
theorem d_MD_unit_3 : decode k_MD_unit 3 = .ok (.iconst 0, 1) := by decide +kernel
theorem d_MD_unit_4 : decode k_MD_unit 4 = .ok (.istore 6, 2) := by decide +kernel
theorem d_MD_unit_6 : decode k_MD_unit 6 = .ok (.iload 6, 2) := by decide +kernel
theorem d_MD_unit_8 : decode k_MD_unit 8 = .ok (.iconst 4, 1) := by decide +kernel
theorem d_MD_unit_9 : decode k_MD_unit 9 = .ok (.if_icmp .ge 74, 3) := by decide +kernel
theorem d_MD_unit_12 : decode k_MD_unit 12 = .ok (.iload 5, 2) := by decide +kernel
theorem d_MD_unit_14 : decode k_MD_unit 14 = .ok (.iload_n 1, 1) := by decide +kernel
theorem d_MD_unit_15 : decode k_MD_unit 15 = .ok (.iload 6, 2) := by decide +kernel
theorem d_MD_unit_17 : decode k_MD_unit 17 = .ok (.invokestatic 81, 3) := by decide +kernel
theorem d_MD_unit_20 : decode k_MD_unit 20 = .ok (.ifCond .le 7, 3) := by decide +kernel
theorem d_MD_unit_23 : decode k_MD_unit 23 = .ok (.iconst 1, 1) := by decide +kernel
theorem d_MD_unit_24 : decode k_MD_unit 24 = .ok (.goto 4, 3) := by decide +kernel
theorem d_MD_unit_27 : decode k_MD_unit 27 = .ok (.iconst 0, 1) := by decide +kernel
theorem d_MD_unit_28 : decode k_MD_unit 28 = .ok (.iload_n 2, 1) := by decide +kernel
theorem d_MD_unit_29 : decode k_MD_unit 29 = .ok (.iload 6, 2) := by decide +kernel
theorem d_MD_unit_31 : decode k_MD_unit 31 = .ok (.invokestatic 81, 3) := by decide +kernel
theorem d_MD_unit_34 : decode k_MD_unit 34 = .ok (.ifCond .le 7, 3) := by decide +kernel
theorem d_MD_unit_37 : decode k_MD_unit 37 = .ok (.iconst 1, 1) := by decide +kernel
theorem d_MD_unit_38 : decode k_MD_unit 38 = .ok (.goto 4, 3) := by decide +kernel
theorem d_MD_unit_41 : decode k_MD_unit 41 = .ok (.iconst 0, 1) := by decide +kernel
theorem d_MD_unit_42 : decode k_MD_unit 42 = .ok (.iadd, 1) := by decide +kernel
theorem d_MD_unit_43 : decode k_MD_unit 43 = .ok (.iload_n 3, 1) := by decide +kernel
theorem d_MD_unit_44 : decode k_MD_unit 44 = .ok (.iload 6, 2) := by decide +kernel
theorem d_MD_unit_46 : decode k_MD_unit 46 = .ok (.invokestatic 81, 3) := by decide +kernel
theorem d_MD_unit_49 : decode k_MD_unit 49 = .ok (.ifCond .le 7, 3) := by decide +kernel
theorem d_MD_unit_52 : decode k_MD_unit 52 = .ok (.iconst 1, 1) := by decide +kernel
theorem d_MD_unit_53 : decode k_MD_unit 53 = .ok (.goto 4, 3) := by decide +kernel
theorem d_MD_unit_56 : decode k_MD_unit 56 = .ok (.iconst 0, 1) := by decide +kernel
theorem d_MD_unit_57 : decode k_MD_unit 57 = .ok (.iadd, 1) := by decide +kernel
theorem d_MD_unit_58 : decode k_MD_unit 58 = .ok (.iload 4, 2) := by decide +kernel
theorem d_MD_unit_60 : decode k_MD_unit 60 = .ok (.iload 6, 2) := by decide +kernel
theorem d_MD_unit_62 : decode k_MD_unit 62 = .ok (.invokestatic 81, 3) := by decide +kernel
theorem d_MD_unit_65 : decode k_MD_unit 65 = .ok (.ifCond .le 7, 3) := by decide +kernel
theorem d_MD_unit_68 : decode k_MD_unit 68 = .ok (.iconst 1, 1) := by decide +kernel
theorem d_MD_unit_69 : decode k_MD_unit 69 = .ok (.goto 4, 3) := by decide +kernel
theorem d_MD_unit_72 : decode k_MD_unit 72 = .ok (.iconst 0, 1) := by decide +kernel
theorem d_MD_unit_73 : decode k_MD_unit 73 = .ok (.iadd, 1) := by decide +kernel
theorem d_MD_unit_74 : decode k_MD_unit 74 = .ok (.iadd, 1) := by decide +kernel
theorem d_MD_unit_75 : decode k_MD_unit 75 = .ok (.istore 5, 2) := by decide +kernel
theorem d_MD_unit_77 : decode k_MD_unit 77 = .ok (.iinc 6 1, 3) := by decide +kernel
theorem d_MD_unit_80 : decode k_MD_unit 80 = .ok (.goto (-74), 3) := by decide +kernel
theorem d_MD_unit_83 : decode k_MD_unit 83 = .ok (.aload_n 0, 1) := by decide +kernel
theorem d_MD_unit_84 : decode k_MD_unit 84 = .ok (.aload_n 0, 1) := by decide +kernel
theorem d_MD_unit_85 : decode k_MD_unit 85 = .ok (.getfield 85, 3) := by decide +kernel
theorem d_MD_unit_88 : decode k_MD_unit 88 = .ok (.iload 5, 2) := by decide +kernel
theorem d_MD_unit_90 : decode k_MD_unit 90 = .ok (.iadd, 1) := by decide +kernel
theorem d_MD_unit_91 : decode k_MD_unit 91 = .ok (.bipush 40, 2) := by decide +kernel
theorem d_MD_unit_93 : decode k_MD_unit 93 = .ok (.if_icmp .le 7, 3) := by decide +kernel
theorem d_MD_unit_96 : decode k_MD_unit 96 = .ok (.iconst 1, 1) := by decide +kernel
theorem d_MD_unit_97 : decode k_MD_unit 97 = .ok (.goto 4, 3) := by decide +kernel
theorem d_MD_unit_100 : decode k_MD_unit 100 = .ok (.iconst 0, 1) := by decide +kernel
theorem d_MD_unit_101 : decode k_MD_unit 101 = .ok (.iconst 0, 1) := by decide +kernel
theorem d_MD_unit_102 : decode k_MD_unit 102 = .ok (.iconst 0, 1) := by decide +kernel
theorem d_MD_unit_103 : decode k_MD_unit 103 = .ok (.invokevirtual 88, 3) := by decide +kernel
theorem d_MD_unit_106 : decode k_MD_unit 106 = .ok (.ifCond .eq 5, 3) := by decide +kernel
theorem d_MD_unit_109 : decode k_MD_unit 109 = .ok (.iconst 0, 1) := by decide +kernel
theorem d_MD_unit_110 : decode k_MD_unit 110 = .ok (.ireturn, 1) := by decide +kernel
theorem d_MD_unit_111 : decode k_MD_unit 111 = .ok (.iconst 0, 1) := by decide +kernel
theorem d_MD_unit_112 : decode k_MD_unit 112 = .ok (.istore 6, 2) := by decide +kernel
theorem d_MD_unit_114 : decode k_MD_unit 114 = .ok (.iload 6, 2) := by decide +kernel
theorem d_MD_unit_116 : decode k_MD_unit 116 = .ok (.bipush 16, 2) := by decide +kernel
theorem d_MD_unit_118 : decode k_MD_unit 118 = .ok (.if_icmp .ge 81, 3) := by decide +kernel
theorem d_MD_unit_121 : decode k_MD_unit 121 = .ok (.iload 6, 2) := by decide +kernel
theorem d_MD_unit_123 : decode k_MD_unit 123 = .ok (.iconst 4, 1) := by decide +kernel
theorem d_MD_unit_124 : decode k_MD_unit 124 = .ok (.if_icmp .ge 7, 3) := by decide +kernel
theorem d_MD_unit_127 : decode k_MD_unit 127 = .ok (.iload_n 1, 1) := by decide +kernel
theorem d_MD_unit_128 : decode k_MD_unit 128 = .ok (.goto 27, 3) := by decide +kernel
theorem d_MD_unit_131 : decode k_MD_unit 131 = .ok (.iload 6, 2) := by decide +kernel
theorem d_MD_unit_133 : decode k_MD_unit 133 = .ok (.bipush 8, 2) := by decide +kernel
theorem d_MD_unit_135 : decode k_MD_unit 135 = .ok (.if_icmp .ge 7, 3) := by decide +kernel
theorem d_MD_unit_138 : decode k_MD_unit 138 = .ok (.iload_n 2, 1) := by decide +kernel
theorem d_MD_unit_139 : decode k_MD_unit 139 = .ok (.goto 16, 3) := by decide +kernel
theorem d_MD_unit_142 : decode k_MD_unit 142 = .ok (.iload 6, 2) := by decide +kernel
theorem d_MD_unit_144 : decode k_MD_unit 144 = .ok (.bipush 12, 2) := by decide +kernel
theorem d_MD_unit_146 : decode k_MD_unit 146 = .ok (.if_icmp .ge 7, 3) := by decide +kernel
theorem d_MD_unit_149 : decode k_MD_unit 149 = .ok (.iload_n 3, 1) := by decide +kernel
theorem d_MD_unit_150 : decode k_MD_unit 150 = .ok (.goto 5, 3) := by decide +kernel
theorem d_MD_unit_153 : decode k_MD_unit 153 = .ok (.iload 4, 2) := by decide +kernel
theorem d_MD_unit_155 : decode k_MD_unit 155 = .ok (.iload 6, 2) := by decide +kernel
theorem d_MD_unit_157 : decode k_MD_unit 157 = .ok (.iconst 4, 1) := by decide +kernel
theorem d_MD_unit_158 : decode k_MD_unit 158 = .ok (.irem, 1) := by decide +kernel
theorem d_MD_unit_159 : decode k_MD_unit 159 = .ok (.invokestatic 81, 3) := by decide +kernel
theorem d_MD_unit_162 : decode k_MD_unit 162 = .ok (.istore 7, 2) := by decide +kernel
theorem d_MD_unit_164 : decode k_MD_unit 164 = .ok (.iload 7, 2) := by decide +kernel
theorem d_MD_unit_166 : decode k_MD_unit 166 = .ok (.ifCond .ne 6, 3) := by decide +kernel
theorem d_MD_unit_169 : decode k_MD_unit 169 = .ok (.goto 24, 3) := by decide +kernel
theorem d_MD_unit_172 : decode k_MD_unit 172 = .ok (.aload_n 0, 1) := by decide +kernel
theorem d_MD_unit_173 : decode k_MD_unit 173 = .ok (.getfield 7, 3) := by decide +kernel
theorem d_MD_unit_176 : decode k_MD_unit 176 = .ok (.aload_n 0, 1) := by decide +kernel
theorem d_MD_unit_177 : decode k_MD_unit 177 = .ok (.getfield 85, 3) := by decide +kernel
theorem d_MD_unit_180 : decode k_MD_unit 180 = .ok (.iload 7, 2) := by decide +kernel
theorem d_MD_unit_182 : decode k_MD_unit 182 = .ok (.iastore, 1) := by decide +kernel
theorem d_MD_unit_183 : decode k_MD_unit 183 = .ok (.aload_n 0, 1) := by decide +kernel
theorem d_MD_unit_184 : decode k_MD_unit 184 = .ok (.dup, 1) := by decide +kernel
theorem d_MD_unit_185 : decode k_MD_unit 185 = .ok (.getfield 85, 3) := by decide +kernel
theorem d_MD_unit_188 : decode k_MD_unit 188 = .ok (.iconst 1, 1) := by decide +kernel
theorem d_MD_unit_189 : decode k_MD_unit 189 = .ok (.iadd, 1) := by decide +kernel
theorem d_MD_unit_190 : decode k_MD_unit 190 = .ok (.putfield 85, 3) := by decide +kernel
theorem d_MD_unit_193 : decode k_MD_unit 193 = .ok (.iinc 6 1, 3) := by decide +kernel
theorem d_MD_unit_196 : decode k_MD_unit 196 = .ok (.goto (-82), 3) := by decide +kernel
theorem d_MD_unit_199 : decode k_MD_unit 199 = .ok (.aload_n 0, 1) := by decide +kernel
theorem d_MD_unit_200 : decode k_MD_unit 200 = .ok (.getfield 85, 3) := by decide +kernel
theorem d_MD_unit_203 : decode k_MD_unit 203 = .ok (.ireturn, 1) := by decide +kernel
theorem d_MD_digitsOf_0 : decode k_MD_digitsOf 0 = .ok (.iload_n 0, 1) := by decide +kernel
theorem d_MD_digitsOf_1 : decode k_MD_digitsOf 1 = .ok (.bipush 114, 2) := by decide +kernel
theorem d_MD_digitsOf_3 : decode k_MD_digitsOf 3 = .ok (.if_icmp .eq 9, 3) := by decide +kernel
theorem d_MD_digitsOf_6 : decode k_MD_digitsOf 6 = .ok (.iload_n 0, 1) := by decide +kernel
theorem d_MD_digitsOf_7 : decode k_MD_digitsOf 7 = .ok (.bipush 99, 2) := by decide +kernel
theorem d_MD_digitsOf_9 : decode k_MD_digitsOf 9 = .ok (.if_icmp .ne 6, 3) := by decide +kernel
theorem d_MD_digitsOf_12 : decode k_MD_digitsOf 12 = .ok (.bipush 8, 2) := by decide +kernel
theorem d_MD_digitsOf_14 : decode k_MD_digitsOf 14 = .ok (.ireturn, 1) := by decide +kernel
theorem d_MD_digitsOf_15 : decode k_MD_digitsOf 15 = .ok (.iload_n 0, 1) := by decide +kernel
theorem d_MD_digitsOf_16 : decode k_MD_digitsOf 16 = .ok (.bipush 107, 2) := by decide +kernel
theorem d_MD_digitsOf_18 : decode k_MD_digitsOf 18 = .ok (.if_icmp .eq 9, 3) := by decide +kernel
theorem d_MD_digitsOf_21 : decode k_MD_digitsOf 21 = .ok (.iload_n 0, 1) := by decide +kernel
theorem d_MD_digitsOf_22 : decode k_MD_digitsOf 22 = .ok (.bipush 112, 2) := by decide +kernel
theorem d_MD_digitsOf_24 : decode k_MD_digitsOf 24 = .ok (.if_icmp .ne 5, 3) := by decide +kernel
theorem d_MD_digitsOf_27 : decode k_MD_digitsOf 27 = .ok (.iconst 4, 1) := by decide +kernel
theorem d_MD_digitsOf_28 : decode k_MD_digitsOf 28 = .ok (.ireturn, 1) := by decide +kernel
theorem d_MD_digitsOf_29 : decode k_MD_digitsOf 29 = .ok (.iload_n 0, 1) := by decide +kernel
theorem d_MD_digitsOf_30 : decode k_MD_digitsOf 30 = .ok (.bipush 102, 2) := by decide +kernel
theorem d_MD_digitsOf_32 : decode k_MD_digitsOf 32 = .ok (.if_icmp .ne 8, 3) := by decide +kernel
theorem d_MD_digitsOf_35 : decode k_MD_digitsOf 35 = .ok (.bipush 6, 2) := by decide +kernel
theorem d_MD_digitsOf_37 : decode k_MD_digitsOf 37 = .ok (.goto 4, 3) := by decide +kernel
theorem d_MD_digitsOf_40 : decode k_MD_digitsOf 40 = .ok (.iconst 0, 1) := by decide +kernel
theorem d_MD_digitsOf_41 : decode k_MD_digitsOf 41 = .ok (.ireturn, 1) := by decide +kernel
theorem d_MD_padAt_0 : decode k_MD_padAt 0 = .ok (.iload_n 1, 1) := by decide +kernel
theorem d_MD_padAt_1 : decode k_MD_padAt 1 = .ok (.aload_n 0, 1) := by decide +kernel
theorem d_MD_padAt_2 : decode k_MD_padAt 2 = .ok (.getfield 85, 3) := by decide +kernel
theorem d_MD_padAt_5 : decode k_MD_padAt 5 = .ok (.if_icmp .ge 12, 3) := by decide +kernel
theorem d_MD_padAt_8 : decode k_MD_padAt 8 = .ok (.aload_n 0, 1) := by decide +kernel
theorem d_MD_padAt_9 : decode k_MD_padAt 9 = .ok (.getfield 7, 3) := by decide +kernel
theorem d_MD_padAt_12 : decode k_MD_padAt 12 = .ok (.iload_n 1, 1) := by decide +kernel
theorem d_MD_padAt_13 : decode k_MD_padAt 13 = .ok (.iaload, 1) := by decide +kernel
theorem d_MD_padAt_14 : decode k_MD_padAt 14 = .ok (.goto 4, 3) := by decide +kernel
theorem d_MD_padAt_17 : decode k_MD_padAt 17 = .ok (.iconst (-1), 1) := by decide +kernel
theorem d_MD_padAt_18 : decode k_MD_padAt 18 = .ok (.ireturn, 1) := by decide +kernel
theorem d_MD_wrongAt_0 : decode k_MD_wrongAt 0 = .ok (.aload_n 0, 1) := by decide +kernel
theorem d_MD_wrongAt_1 : decode k_MD_wrongAt 1 = .ok (.iconst 0, 1) := by decide +kernel
theorem d_MD_wrongAt_2 : decode k_MD_wrongAt 2 = .ok (.invokevirtual 92, 3) := by decide +kernel
theorem d_MD_wrongAt_5 : decode k_MD_wrongAt 5 = .ok (.istore_n 1, 1) := by decide +kernel
theorem d_MD_wrongAt_6 : decode k_MD_wrongAt 6 = .ok (.iload_n 1, 1) := by decide +kernel
theorem d_MD_wrongAt_7 : decode k_MD_wrongAt 7 = .ok (.bipush 115, 2) := by decide +kernel
theorem d_MD_wrongAt_9 : decode k_MD_wrongAt 9 = .ok (.if_icmp .eq 17, 3) := by decide +kernel
theorem d_MD_wrongAt_12 : decode k_MD_wrongAt 12 = .ok (.iload_n 1, 1) := by decide +kernel
theorem d_MD_wrongAt_13 : decode k_MD_wrongAt 13 = .ok (.bipush 109, 2) := by decide +kernel
theorem d_MD_wrongAt_15 : decode k_MD_wrongAt 15 = .ok (.if_icmp .eq 11, 3) := by decide +kernel
theorem d_MD_wrongAt_18 : decode k_MD_wrongAt 18 = .ok (.iload_n 1, 1) := by decide +kernel
theorem d_MD_wrongAt_19 : decode k_MD_wrongAt 19 = .ok (.bipush 97, 2) := by decide +kernel
theorem d_MD_wrongAt_21 : decode k_MD_wrongAt 21 = .ok (.if_icmp .eq 5, 3) := by decide +kernel
theorem d_MD_wrongAt_24 : decode k_MD_wrongAt 24 = .ok (.iconst 0, 1) := by decide +kernel
theorem d_MD_wrongAt_25 : decode k_MD_wrongAt 25 = .ok (.ireturn, 1) := by decide +kernel
theorem d_MD_wrongAt_26 : decode k_MD_wrongAt 26 = .ok (.iconst 1, 1) := by decide +kernel
theorem d_MD_wrongAt_27 : decode k_MD_wrongAt 27 = .ok (.istore_n 2, 1) := by decide +kernel
theorem d_MD_wrongAt_28 : decode k_MD_wrongAt 28 = .ok (.iload_n 2, 1) := by decide +kernel
theorem d_MD_wrongAt_29 : decode k_MD_wrongAt 29 = .ok (.aload_n 0, 1) := by decide +kernel
theorem d_MD_wrongAt_30 : decode k_MD_wrongAt 30 = .ok (.getfield 85, 3) := by decide +kernel
theorem d_MD_wrongAt_33 : decode k_MD_wrongAt 33 = .ok (.if_icmp .ge 92, 3) := by decide +kernel
theorem d_MD_wrongAt_36 : decode k_MD_wrongAt 36 = .ok (.aload_n 0, 1) := by decide +kernel
theorem d_MD_wrongAt_37 : decode k_MD_wrongAt 37 = .ok (.iload_n 2, 1) := by decide +kernel
theorem d_MD_wrongAt_38 : decode k_MD_wrongAt 38 = .ok (.invokevirtual 92, 3) := by decide +kernel
theorem d_MD_wrongAt_41 : decode k_MD_wrongAt 41 = .ok (.bipush 32, 2) := by decide +kernel
theorem d_MD_wrongAt_43 : decode k_MD_wrongAt 43 = .ok (.if_icmp .eq 5, 3) := by decide +kernel
theorem d_MD_wrongAt_46 : decode k_MD_wrongAt 46 = .ok (.iload_n 2, 1) := by decide +kernel
theorem d_MD_wrongAt_47 : decode k_MD_wrongAt 47 = .ok (.ireturn, 1) := by decide +kernel
theorem d_MD_wrongAt_48 : decode k_MD_wrongAt 48 = .ok (.iinc 2 1, 3) := by decide +kernel
theorem d_MD_wrongAt_51 : decode k_MD_wrongAt 51 = .ok (.aload_n 0, 1) := by decide +kernel
theorem d_MD_wrongAt_52 : decode k_MD_wrongAt 52 = .ok (.iload_n 2, 1) := by decide +kernel
theorem d_MD_wrongAt_53 : decode k_MD_wrongAt 53 = .ok (.invokevirtual 92, 3) := by decide +kernel
theorem d_MD_wrongAt_56 : decode k_MD_wrongAt 56 = .ok (.bipush 33, 2) := by decide +kernel
theorem d_MD_wrongAt_58 : decode k_MD_wrongAt 58 = .ok (.if_icmp .ne 6, 3) := by decide +kernel
theorem d_MD_wrongAt_61 : decode k_MD_wrongAt 61 = .ok (.iinc 2 1, 3) := by decide +kernel
theorem d_MD_wrongAt_64 : decode k_MD_wrongAt 64 = .ok (.aload_n 0, 1) := by decide +kernel
theorem d_MD_wrongAt_65 : decode k_MD_wrongAt 65 = .ok (.iload_n 2, 1) := by decide +kernel
theorem d_MD_wrongAt_66 : decode k_MD_wrongAt 66 = .ok (.invokevirtual 92, 3) := by decide +kernel
theorem d_MD_wrongAt_69 : decode k_MD_wrongAt 69 = .ok (.istore_n 3, 1) := by decide +kernel
theorem d_MD_wrongAt_70 : decode k_MD_wrongAt 70 = .ok (.iload_n 3, 1) := by decide +kernel
theorem d_MD_wrongAt_71 : decode k_MD_wrongAt 71 = .ok (.bipush 103, 2) := by decide +kernel
theorem d_MD_wrongAt_73 : decode k_MD_wrongAt 73 = .ok (.if_icmp .eq 12, 3) := by decide +kernel
theorem d_MD_wrongAt_76 : decode k_MD_wrongAt 76 = .ok (.iload_n 3, 1) := by decide +kernel
theorem d_MD_wrongAt_77 : decode k_MD_wrongAt 77 = .ok (.invokestatic 96, 3) := by decide +kernel
theorem d_MD_wrongAt_80 : decode k_MD_wrongAt 80 = .ok (.ifCond .ne 5, 3) := by decide +kernel
theorem d_MD_wrongAt_83 : decode k_MD_wrongAt 83 = .ok (.iload_n 2, 1) := by decide +kernel
theorem d_MD_wrongAt_84 : decode k_MD_wrongAt 84 = .ok (.ireturn, 1) := by decide +kernel
theorem d_MD_wrongAt_85 : decode k_MD_wrongAt 85 = .ok (.iinc 2 1, 3) := by decide +kernel
theorem d_MD_wrongAt_88 : decode k_MD_wrongAt 88 = .ok (.iload_n 3, 1) := by decide +kernel
theorem d_MD_wrongAt_89 : decode k_MD_wrongAt 89 = .ok (.bipush 103, 2) := by decide +kernel
theorem d_MD_wrongAt_91 : decode k_MD_wrongAt 91 = .ok (.if_icmp .ne 6, 3) := by decide +kernel
theorem d_MD_wrongAt_94 : decode k_MD_wrongAt 94 = .ok (.goto (-66), 3) := by decide +kernel
theorem d_MD_wrongAt_97 : decode k_MD_wrongAt 97 = .ok (.aload_n 0, 1) := by decide +kernel
theorem d_MD_wrongAt_98 : decode k_MD_wrongAt 98 = .ok (.iload_n 2, 1) := by decide +kernel
theorem d_MD_wrongAt_99 : decode k_MD_wrongAt 99 = .ok (.invokevirtual 92, 3) := by decide +kernel
theorem d_MD_wrongAt_102 : decode k_MD_wrongAt 102 = .ok (.bipush 48, 2) := by decide +kernel
theorem d_MD_wrongAt_104 : decode k_MD_wrongAt 104 = .ok (.bipush 47, 2) := by decide +kernel
theorem d_MD_wrongAt_106 : decode k_MD_wrongAt 106 = .ok (.iload_n 3, 1) := by decide +kernel
theorem d_MD_wrongAt_107 : decode k_MD_wrongAt 107 = .ok (.invokestatic 96, 3) := by decide +kernel
theorem d_MD_wrongAt_110 : decode k_MD_wrongAt 110 = .ok (.iadd, 1) := by decide +kernel
theorem d_MD_wrongAt_111 : decode k_MD_wrongAt 111 = .ok (.invokestatic 73, 3) := by decide +kernel
theorem d_MD_wrongAt_114 : decode k_MD_wrongAt 114 = .ok (.ifCond .ne 5, 3) := by decide +kernel
theorem d_MD_wrongAt_117 : decode k_MD_wrongAt 117 = .ok (.iload_n 2, 1) := by decide +kernel
theorem d_MD_wrongAt_118 : decode k_MD_wrongAt 118 = .ok (.ireturn, 1) := by decide +kernel
theorem d_MD_wrongAt_119 : decode k_MD_wrongAt 119 = .ok (.iinc 2 1, 3) := by decide +kernel
theorem d_MD_wrongAt_122 : decode k_MD_wrongAt 122 = .ok (.goto (-94), 3) := by decide +kernel
theorem d_MD_wrongAt_125 : decode k_MD_wrongAt 125 = .ok (.iconst (-1), 1) := by decide +kernel
theorem d_MD_wrongAt_126 : decode k_MD_wrongAt 126 = .ok (.ireturn, 1) := by decide +kernel
theorem d_MD_rule_0 : decode k_MD_rule 0 = .ok (.aload_n 0, 1) := by decide +kernel
theorem d_MD_rule_1 : decode k_MD_rule 1 = .ok (.aload_n 0, 1) := by decide +kernel
theorem d_MD_rule_2 : decode k_MD_rule 2 = .ok (.getfield 99, 3) := by decide +kernel
theorem d_MD_rule_5 : decode k_MD_rule 5 = .ok (.bipush 20, 2) := by decide +kernel
theorem d_MD_rule_7 : decode k_MD_rule 7 = .ok (.if_icmp .ne 7, 3) := by decide +kernel
theorem d_MD_rule_10 : decode k_MD_rule 10 = .ok (.iconst 1, 1) := by decide +kernel
theorem d_MD_rule_11 : decode k_MD_rule 11 = .ok (.goto 4, 3) := by decide +kernel
theorem d_MD_rule_14 : decode k_MD_rule 14 = .ok (.iconst 0, 1) := by decide +kernel
theorem d_MD_rule_15 : decode k_MD_rule 15 = .ok (.iconst 0, 1) := by decide +kernel
theorem d_MD_rule_16 : decode k_MD_rule 16 = .ok (.iconst 0, 1) := by decide +kernel
theorem d_MD_rule_17 : decode k_MD_rule 17 = .ok (.invokevirtual 88, 3) := by decide +kernel
theorem d_MD_rule_20 : decode k_MD_rule 20 = .ok (.ifCond .eq 5, 3) := by decide +kernel
theorem d_MD_rule_23 : decode k_MD_rule 23 = .ok (.iconst 0, 1) := by decide +kernel
theorem d_MD_rule_24 : decode k_MD_rule 24 = .ok (.ireturn, 1) := by decide +kernel
theorem d_MD_rule_25 : decode k_MD_rule 25 = .ok (.aload_n 0, 1) := by decide +kernel
theorem d_MD_rule_26 : decode k_MD_rule 26 = .ok (.invokevirtual 102, 3) := by decide +kernel
theorem d_MD_rule_29 : decode k_MD_rule 29 = .ok (.istore_n 1, 1) := by decide +kernel
theorem d_MD_rule_30 : decode k_MD_rule 30 = .ok (.aload_n 0, 1) := by decide +kernel
theorem d_MD_rule_31 : decode k_MD_rule 31 = .ok (.getfield 85, 3) := by decide +kernel
theorem d_MD_rule_34 : decode k_MD_rule 34 = .ok (.istore_n 2, 1) := by decide +kernel
theorem d_MD_rule_35 : decode k_MD_rule 35 = .ok (.aload_n 0, 1) := by decide +kernel
theorem d_MD_rule_36 : decode k_MD_rule 36 = .ok (.iconst 0, 1) := by decide +kernel
theorem d_MD_rule_37 : decode k_MD_rule 37 = .ok (.putfield 85, 3) := by decide +kernel
theorem d_MD_rule_40 : decode k_MD_rule 40 = .ok (.iload_n 1, 1) := by decide +kernel
theorem d_MD_rule_41 : decode k_MD_rule 41 = .ok (.ifCond .lt 7, 3) := by decide +kernel
theorem d_MD_rule_44 : decode k_MD_rule 44 = .ok (.iconst (-1), 1) := by decide +kernel
theorem d_MD_rule_45 : decode k_MD_rule 45 = .ok (.iload_n 1, 1) := by decide +kernel
theorem d_MD_rule_46 : decode k_MD_rule 46 = .ok (.isub, 1) := by decide +kernel
theorem d_MD_rule_47 : decode k_MD_rule 47 = .ok (.ireturn, 1) := by decide +kernel
theorem d_MD_rule_48 : decode k_MD_rule 48 = .ok (.iconst 0, 1) := by decide +kernel
theorem d_MD_rule_49 : decode k_MD_rule 49 = .ok (.istore_n 3, 1) := by decide +kernel
theorem d_MD_rule_50 : decode k_MD_rule 50 = .ok (.iload_n 3, 1) := by decide +kernel
theorem d_MD_rule_51 : decode k_MD_rule 51 = .ok (.iload_n 2, 1) := by decide +kernel
theorem d_MD_rule_52 : decode k_MD_rule 52 = .ok (.if_icmp .ge 29, 3) := by decide +kernel
theorem d_MD_rule_55 : decode k_MD_rule 55 = .ok (.aload_n 0, 1) := by decide +kernel
theorem d_MD_rule_56 : decode k_MD_rule 56 = .ok (.getfield 13, 3) := by decide +kernel
theorem d_MD_rule_59 : decode k_MD_rule 59 = .ok (.bipush 40, 2) := by decide +kernel
theorem d_MD_rule_61 : decode k_MD_rule 61 = .ok (.aload_n 0, 1) := by decide +kernel
theorem d_MD_rule_62 : decode k_MD_rule 62 = .ok (.getfield 99, 3) := by decide +kernel
theorem d_MD_rule_65 : decode k_MD_rule 65 = .ok (.imul, 1) := by decide +kernel
theorem d_MD_rule_66 : decode k_MD_rule 66 = .ok (.iload_n 3, 1) := by decide +kernel
theorem d_MD_rule_67 : decode k_MD_rule 67 = .ok (.iadd, 1) := by decide +kernel
theorem d_MD_rule_68 : decode k_MD_rule 68 = .ok (.aload_n 0, 1) := by decide +kernel
theorem d_MD_rule_69 : decode k_MD_rule 69 = .ok (.getfield 7, 3) := by decide +kernel
theorem d_MD_rule_72 : decode k_MD_rule 72 = .ok (.iload_n 3, 1) := by decide +kernel
theorem d_MD_rule_73 : decode k_MD_rule 73 = .ok (.iaload, 1) := by decide +kernel
theorem d_MD_rule_74 : decode k_MD_rule 74 = .ok (.iastore, 1) := by decide +kernel
theorem d_MD_rule_75 : decode k_MD_rule 75 = .ok (.iinc 3 1, 3) := by decide +kernel
theorem d_MD_rule_78 : decode k_MD_rule 78 = .ok (.goto (-28), 3) := by decide +kernel
theorem d_MD_rule_81 : decode k_MD_rule 81 = .ok (.aload_n 0, 1) := by decide +kernel
theorem d_MD_rule_82 : decode k_MD_rule 82 = .ok (.getfield 16, 3) := by decide +kernel
theorem d_MD_rule_85 : decode k_MD_rule 85 = .ok (.aload_n 0, 1) := by decide +kernel
theorem d_MD_rule_86 : decode k_MD_rule 86 = .ok (.getfield 99, 3) := by decide +kernel
theorem d_MD_rule_89 : decode k_MD_rule 89 = .ok (.iload_n 2, 1) := by decide +kernel
theorem d_MD_rule_90 : decode k_MD_rule 90 = .ok (.iastore, 1) := by decide +kernel
theorem d_MD_rule_91 : decode k_MD_rule 91 = .ok (.aload_n 0, 1) := by decide +kernel
theorem d_MD_rule_92 : decode k_MD_rule 92 = .ok (.getfield 19, 3) := by decide +kernel
theorem d_MD_rule_95 : decode k_MD_rule 95 = .ok (.aload_n 0, 1) := by decide +kernel
theorem d_MD_rule_96 : decode k_MD_rule 96 = .ok (.getfield 99, 3) := by decide +kernel
theorem d_MD_rule_99 : decode k_MD_rule 99 = .ok (.iconst 1, 1) := by decide +kernel
theorem d_MD_rule_100 : decode k_MD_rule 100 = .ok (.bastore, 1) := by decide +kernel
theorem d_MD_rule_101 : decode k_MD_rule 101 = .ok (.aload_n 0, 1) := by decide +kernel
theorem d_MD_rule_102 : decode k_MD_rule 102 = .ok (.dup, 1) := by decide +kernel
theorem d_MD_rule_103 : decode k_MD_rule 103 = .ok (.getfield 99, 3) := by decide +kernel
theorem d_MD_rule_106 : decode k_MD_rule 106 = .ok (.iconst 1, 1) := by decide +kernel
theorem d_MD_rule_107 : decode k_MD_rule 107 = .ok (.iadd, 1) := by decide +kernel
theorem d_MD_rule_108 : decode k_MD_rule 108 = .ok (.putfield 99, 3) := by decide +kernel
theorem d_MD_rule_111 : decode k_MD_rule 111 = .ok (.aload_n 0, 1) := by decide +kernel
theorem d_MD_rule_112 : decode k_MD_rule 112 = .ok (.getfield 99, 3) := by decide +kernel
theorem d_MD_rule_115 : decode k_MD_rule 115 = .ok (.iconst 1, 1) := by decide +kernel
theorem d_MD_rule_116 : decode k_MD_rule 116 = .ok (.isub, 1) := by decide +kernel
theorem d_MD_rule_117 : decode k_MD_rule 117 = .ok (.ireturn, 1) := by decide +kernel
theorem d_MD_drop_0 : decode k_MD_drop 0 = .ok (.aload_n 0, 1) := by decide +kernel
theorem d_MD_drop_1 : decode k_MD_drop 1 = .ok (.iload_n 1, 1) := by decide +kernel
theorem d_MD_drop_2 : decode k_MD_drop 2 = .ok (.iconst 0, 1) := by decide +kernel
theorem d_MD_drop_3 : decode k_MD_drop 3 = .ok (.aload_n 0, 1) := by decide +kernel
theorem d_MD_drop_4 : decode k_MD_drop 4 = .ok (.getfield 99, 3) := by decide +kernel
theorem d_MD_drop_7 : decode k_MD_drop 7 = .ok (.iconst 1, 1) := by decide +kernel
theorem d_MD_drop_8 : decode k_MD_drop 8 = .ok (.isub, 1) := by decide +kernel
theorem d_MD_drop_9 : decode k_MD_drop 9 = .ok (.invokestatic 73, 3) := by decide +kernel
theorem d_MD_drop_12 : decode k_MD_drop 12 = .ok (.ifCond .ne 7, 3) := by decide +kernel
theorem d_MD_drop_15 : decode k_MD_drop 15 = .ok (.iconst 1, 1) := by decide +kernel
theorem d_MD_drop_16 : decode k_MD_drop 16 = .ok (.goto 4, 3) := by decide +kernel
theorem d_MD_drop_19 : decode k_MD_drop 19 = .ok (.iconst 0, 1) := by decide +kernel
theorem d_MD_drop_20 : decode k_MD_drop 20 = .ok (.iconst 0, 1) := by decide +kernel
theorem d_MD_drop_21 : decode k_MD_drop 21 = .ok (.iconst 0, 1) := by decide +kernel
theorem d_MD_drop_22 : decode k_MD_drop 22 = .ok (.invokevirtual 88, 3) := by decide +kernel
theorem d_MD_drop_25 : decode k_MD_drop 25 = .ok (.ifCond .eq 5, 3) := by decide +kernel
theorem d_MD_drop_28 : decode k_MD_drop 28 = .ok (.iconst 0, 1) := by decide +kernel
theorem d_MD_drop_29 : decode k_MD_drop 29 = .ok (.ireturn, 1) := by decide +kernel
theorem d_MD_drop_30 : decode k_MD_drop 30 = .ok (.aload_n 0, 1) := by decide +kernel
theorem d_MD_drop_31 : decode k_MD_drop 31 = .ok (.getfield 19, 3) := by decide +kernel
theorem d_MD_drop_34 : decode k_MD_drop 34 = .ok (.iload_n 1, 1) := by decide +kernel
theorem d_MD_drop_35 : decode k_MD_drop 35 = .ok (.baload, 1) := by decide +kernel
theorem d_MD_drop_36 : decode k_MD_drop 36 = .ok (.istore_n 2, 1) := by decide +kernel
theorem d_MD_drop_37 : decode k_MD_drop 37 = .ok (.aload_n 0, 1) := by decide +kernel
theorem d_MD_drop_38 : decode k_MD_drop 38 = .ok (.getfield 19, 3) := by decide +kernel
theorem d_MD_drop_41 : decode k_MD_drop 41 = .ok (.iload_n 1, 1) := by decide +kernel
theorem d_MD_drop_42 : decode k_MD_drop 42 = .ok (.iconst 0, 1) := by decide +kernel
theorem d_MD_drop_43 : decode k_MD_drop 43 = .ok (.bastore, 1) := by decide +kernel
theorem d_MD_drop_44 : decode k_MD_drop 44 = .ok (.iload_n 2, 1) := by decide +kernel
theorem d_MD_drop_45 : decode k_MD_drop 45 = .ok (.ireturn, 1) := by decide +kernel
theorem d_MD_person_0 : decode k_MD_person 0 = .ok (.aload_n 0, 1) := by decide +kernel
theorem d_MD_person_1 : decode k_MD_person 1 = .ok (.iload_n 1, 1) := by decide +kernel
theorem d_MD_person_2 : decode k_MD_person 2 = .ok (.iconst 0, 1) := by decide +kernel
theorem d_MD_person_3 : decode k_MD_person 3 = .ok (.sipush 255, 3) := by decide +kernel
theorem d_MD_person_6 : decode k_MD_person 6 = .ok (.invokestatic 73, 3) := by decide +kernel
theorem d_MD_person_9 : decode k_MD_person 9 = .ok (.ifCond .ne 7, 3) := by decide +kernel
theorem d_MD_person_12 : decode k_MD_person 12 = .ok (.iconst 1, 1) := by decide +kernel
theorem d_MD_person_13 : decode k_MD_person 13 = .ok (.goto 4, 3) := by decide +kernel
theorem d_MD_person_16 : decode k_MD_person 16 = .ok (.iconst 0, 1) := by decide +kernel
theorem d_MD_person_17 : decode k_MD_person 17 = .ok (.aload_n 0, 1) := by decide +kernel
theorem d_MD_person_18 : decode k_MD_person 18 = .ok (.getfield 70, 3) := by decide +kernel
theorem d_MD_person_21 : decode k_MD_person 21 = .ok (.bipush 12, 2) := by decide +kernel
theorem d_MD_person_23 : decode k_MD_person 23 = .ok (.if_icmp .ne 7, 3) := by decide +kernel
theorem d_MD_person_26 : decode k_MD_person 26 = .ok (.iconst 1, 1) := by decide +kernel
theorem d_MD_person_27 : decode k_MD_person 27 = .ok (.goto 4, 3) := by decide +kernel
theorem d_MD_person_30 : decode k_MD_person 30 = .ok (.iconst 0, 1) := by decide +kernel
theorem d_MD_person_31 : decode k_MD_person 31 = .ok (.iconst 0, 1) := by decide +kernel
theorem d_MD_person_32 : decode k_MD_person 32 = .ok (.invokevirtual 88, 3) := by decide +kernel
theorem d_MD_person_35 : decode k_MD_person 35 = .ok (.ifCond .eq 5, 3) := by decide +kernel
theorem d_MD_person_38 : decode k_MD_person 38 = .ok (.iconst 0, 1) := by decide +kernel
theorem d_MD_person_39 : decode k_MD_person 39 = .ok (.ireturn, 1) := by decide +kernel
theorem d_MD_person_40 : decode k_MD_person 40 = .ok (.aload_n 0, 1) := by decide +kernel
theorem d_MD_person_41 : decode k_MD_person 41 = .ok (.getfield 23, 3) := by decide +kernel
theorem d_MD_person_44 : decode k_MD_person 44 = .ok (.aload_n 0, 1) := by decide +kernel
theorem d_MD_person_45 : decode k_MD_person 45 = .ok (.getfield 70, 3) := by decide +kernel
theorem d_MD_person_48 : decode k_MD_person 48 = .ok (.iload_n 1, 1) := by decide +kernel
theorem d_MD_person_49 : decode k_MD_person 49 = .ok (.iastore, 1) := by decide +kernel
theorem d_MD_person_50 : decode k_MD_person 50 = .ok (.aload_n 0, 1) := by decide +kernel
theorem d_MD_person_51 : decode k_MD_person 51 = .ok (.getfield 26, 3) := by decide +kernel
theorem d_MD_person_54 : decode k_MD_person 54 = .ok (.aload_n 0, 1) := by decide +kernel
theorem d_MD_person_55 : decode k_MD_person 55 = .ok (.getfield 70, 3) := by decide +kernel
theorem d_MD_person_58 : decode k_MD_person 58 = .ok (.iconst 3, 1) := by decide +kernel
theorem d_MD_person_59 : decode k_MD_person 59 = .ok (.iastore, 1) := by decide +kernel
theorem d_MD_person_60 : decode k_MD_person 60 = .ok (.aload_n 0, 1) := by decide +kernel
theorem d_MD_person_61 : decode k_MD_person 61 = .ok (.dup, 1) := by decide +kernel
theorem d_MD_person_62 : decode k_MD_person 62 = .ok (.getfield 70, 3) := by decide +kernel
theorem d_MD_person_65 : decode k_MD_person 65 = .ok (.iconst 1, 1) := by decide +kernel
theorem d_MD_person_66 : decode k_MD_person 66 = .ok (.iadd, 1) := by decide +kernel
theorem d_MD_person_67 : decode k_MD_person 67 = .ok (.putfield 70, 3) := by decide +kernel
theorem d_MD_person_70 : decode k_MD_person 70 = .ok (.aload_n 0, 1) := by decide +kernel
theorem d_MD_person_71 : decode k_MD_person 71 = .ok (.getfield 70, 3) := by decide +kernel
theorem d_MD_person_74 : decode k_MD_person 74 = .ok (.iconst 1, 1) := by decide +kernel
theorem d_MD_person_75 : decode k_MD_person 75 = .ok (.isub, 1) := by decide +kernel
theorem d_MD_person_76 : decode k_MD_person 76 = .ok (.ireturn, 1) := by decide +kernel
theorem d_MD_record_0 : decode k_MD_record 0 = .ok (.aload_n 0, 1) := by decide +kernel
theorem d_MD_record_1 : decode k_MD_record 1 = .ok (.iload_n 1, 1) := by decide +kernel
theorem d_MD_record_2 : decode k_MD_record 2 = .ok (.iconst 0, 1) := by decide +kernel
theorem d_MD_record_3 : decode k_MD_record 3 = .ok (.iconst 3, 1) := by decide +kernel
theorem d_MD_record_4 : decode k_MD_record 4 = .ok (.invokestatic 73, 3) := by decide +kernel
theorem d_MD_record_7 : decode k_MD_record 7 = .ok (.ifCond .eq 13, 3) := by decide +kernel
theorem d_MD_record_10 : decode k_MD_record 10 = .ok (.iload_n 2, 1) := by decide +kernel
theorem d_MD_record_11 : decode k_MD_record 11 = .ok (.iconst (-1), 1) := by decide +kernel
theorem d_MD_record_12 : decode k_MD_record 12 = .ok (.bipush 7, 2) := by decide +kernel
theorem d_MD_record_14 : decode k_MD_record 14 = .ok (.invokestatic 73, 3) := by decide +kernel
theorem d_MD_record_17 : decode k_MD_record 17 = .ok (.ifCond .ne 7, 3) := by decide +kernel
theorem d_MD_record_20 : decode k_MD_record 20 = .ok (.iconst 1, 1) := by decide +kernel
theorem d_MD_record_21 : decode k_MD_record 21 = .ok (.goto 4, 3) := by decide +kernel
theorem d_MD_record_24 : decode k_MD_record 24 = .ok (.iconst 0, 1) := by decide +kernel
theorem d_MD_record_25 : decode k_MD_record 25 = .ok (.aload_n 0, 1) := by decide +kernel
theorem d_MD_record_26 : decode k_MD_record 26 = .ok (.getfield 77, 3) := by decide +kernel
theorem d_MD_record_29 : decode k_MD_record 29 = .ok (.bipush 16, 2) := by decide +kernel
theorem d_MD_record_31 : decode k_MD_record 31 = .ok (.if_icmp .ne 7, 3) := by decide +kernel
theorem d_MD_record_34 : decode k_MD_record 34 = .ok (.iconst 1, 1) := by decide +kernel
theorem d_MD_record_35 : decode k_MD_record 35 = .ok (.goto 4, 3) := by decide +kernel
theorem d_MD_record_38 : decode k_MD_record 38 = .ok (.iconst 0, 1) := by decide +kernel
theorem d_MD_record_39 : decode k_MD_record 39 = .ok (.iconst 0, 1) := by decide +kernel
theorem d_MD_record_40 : decode k_MD_record 40 = .ok (.invokevirtual 88, 3) := by decide +kernel
theorem d_MD_record_43 : decode k_MD_record 43 = .ok (.ifCond .eq 5, 3) := by decide +kernel
theorem d_MD_record_46 : decode k_MD_record 46 = .ok (.iconst 0, 1) := by decide +kernel
theorem d_MD_record_47 : decode k_MD_record 47 = .ok (.ireturn, 1) := by decide +kernel
theorem d_MD_record_48 : decode k_MD_record 48 = .ok (.aload_n 0, 1) := by decide +kernel
theorem d_MD_record_49 : decode k_MD_record 49 = .ok (.getfield 29, 3) := by decide +kernel
theorem d_MD_record_52 : decode k_MD_record 52 = .ok (.aload_n 0, 1) := by decide +kernel
theorem d_MD_record_53 : decode k_MD_record 53 = .ok (.getfield 77, 3) := by decide +kernel
theorem d_MD_record_56 : decode k_MD_record 56 = .ok (.iload_n 1, 1) := by decide +kernel
theorem d_MD_record_57 : decode k_MD_record 57 = .ok (.iastore, 1) := by decide +kernel
theorem d_MD_record_58 : decode k_MD_record 58 = .ok (.aload_n 0, 1) := by decide +kernel
theorem d_MD_record_59 : decode k_MD_record 59 = .ok (.getfield 32, 3) := by decide +kernel
theorem d_MD_record_62 : decode k_MD_record 62 = .ok (.aload_n 0, 1) := by decide +kernel
theorem d_MD_record_63 : decode k_MD_record 63 = .ok (.getfield 77, 3) := by decide +kernel
theorem d_MD_record_66 : decode k_MD_record 66 = .ok (.iload_n 2, 1) := by decide +kernel
theorem d_MD_record_67 : decode k_MD_record 67 = .ok (.iastore, 1) := by decide +kernel
theorem d_MD_record_68 : decode k_MD_record 68 = .ok (.aload_n 0, 1) := by decide +kernel
theorem d_MD_record_69 : decode k_MD_record 69 = .ok (.getfield 35, 3) := by decide +kernel
theorem d_MD_record_72 : decode k_MD_record 72 = .ok (.aload_n 0, 1) := by decide +kernel
theorem d_MD_record_73 : decode k_MD_record 73 = .ok (.getfield 77, 3) := by decide +kernel
theorem d_MD_record_76 : decode k_MD_record 76 = .ok (.iconst (-1), 1) := by decide +kernel
theorem d_MD_record_77 : decode k_MD_record 77 = .ok (.iastore, 1) := by decide +kernel
theorem d_MD_record_78 : decode k_MD_record 78 = .ok (.aload_n 0, 1) := by decide +kernel
theorem d_MD_record_79 : decode k_MD_record 79 = .ok (.dup, 1) := by decide +kernel
theorem d_MD_record_80 : decode k_MD_record 80 = .ok (.getfield 77, 3) := by decide +kernel
theorem d_MD_record_83 : decode k_MD_record 83 = .ok (.iconst 1, 1) := by decide +kernel
theorem d_MD_record_84 : decode k_MD_record 84 = .ok (.iadd, 1) := by decide +kernel
theorem d_MD_record_85 : decode k_MD_record 85 = .ok (.putfield 77, 3) := by decide +kernel
theorem d_MD_record_88 : decode k_MD_record 88 = .ok (.aload_n 0, 1) := by decide +kernel
theorem d_MD_record_89 : decode k_MD_record 89 = .ok (.getfield 77, 3) := by decide +kernel
theorem d_MD_record_92 : decode k_MD_record 92 = .ok (.iconst 1, 1) := by decide +kernel
theorem d_MD_record_93 : decode k_MD_record 93 = .ok (.isub, 1) := by decide +kernel
theorem d_MD_record_94 : decode k_MD_record 94 = .ok (.ireturn, 1) := by decide +kernel
theorem d_MD_value_0 : decode k_MD_value 0 = .ok (.aload_n 0, 1) := by decide +kernel
theorem d_MD_value_1 : decode k_MD_value 1 = .ok (.aload_n 0, 1) := by decide +kernel
theorem d_MD_value_2 : decode k_MD_value 2 = .ok (.iload_n 1, 1) := by decide +kernel
theorem d_MD_value_3 : decode k_MD_value 3 = .ok (.invokevirtual 106, 3) := by decide +kernel
theorem d_MD_value_6 : decode k_MD_value 6 = .ok (.ifCond .eq 10, 3) := by decide +kernel
theorem d_MD_value_9 : decode k_MD_value 9 = .ok (.iload_n 2, 1) := by decide +kernel
theorem d_MD_value_10 : decode k_MD_value 10 = .ok (.invokestatic 110, 3) := by decide +kernel
theorem d_MD_value_13 : decode k_MD_value 13 = .ok (.ifCond .ne 7, 3) := by decide +kernel
theorem d_MD_value_16 : decode k_MD_value 16 = .ok (.iconst 1, 1) := by decide +kernel
theorem d_MD_value_17 : decode k_MD_value 17 = .ok (.goto 4, 3) := by decide +kernel
theorem d_MD_value_20 : decode k_MD_value 20 = .ok (.iconst 0, 1) := by decide +kernel
theorem d_MD_value_21 : decode k_MD_value 21 = .ok (.iconst 0, 1) := by decide +kernel
theorem d_MD_value_22 : decode k_MD_value 22 = .ok (.iconst 0, 1) := by decide +kernel
theorem d_MD_value_23 : decode k_MD_value 23 = .ok (.invokevirtual 88, 3) := by decide +kernel
theorem d_MD_value_26 : decode k_MD_value 26 = .ok (.ifCond .eq 5, 3) := by decide +kernel
theorem d_MD_value_29 : decode k_MD_value 29 = .ok (.lconst 0, 1) := by decide +kernel
theorem d_MD_value_30 : decode k_MD_value 30 = .ok (.lreturn, 1) := by decide +kernel
theorem d_MD_value_31 : decode k_MD_value 31 = .ok (.aload_n 0, 1) := by decide +kernel
theorem d_MD_value_32 : decode k_MD_value 32 = .ok (.getfield 38, 3) := by decide +kernel
theorem d_MD_value_35 : decode k_MD_value 35 = .ok (.bipush 6, 2) := by decide +kernel
theorem d_MD_value_37 : decode k_MD_value 37 = .ok (.iload_n 1, 1) := by decide +kernel
theorem d_MD_value_38 : decode k_MD_value 38 = .ok (.imul, 1) := by decide +kernel
theorem d_MD_value_39 : decode k_MD_value 39 = .ok (.iload_n 2, 1) := by decide +kernel
theorem d_MD_value_40 : decode k_MD_value 40 = .ok (.iadd, 1) := by decide +kernel
theorem d_MD_value_41 : decode k_MD_value 41 = .ok (.laload, 1) := by decide +kernel
theorem d_MD_value_42 : decode k_MD_value 42 = .ok (.lstore 5, 2) := by decide +kernel
theorem d_MD_value_44 : decode k_MD_value 44 = .ok (.aload_n 0, 1) := by decide +kernel
theorem d_MD_value_45 : decode k_MD_value 45 = .ok (.getfield 38, 3) := by decide +kernel
theorem d_MD_value_48 : decode k_MD_value 48 = .ok (.bipush 6, 2) := by decide +kernel
theorem d_MD_value_50 : decode k_MD_value 50 = .ok (.iload_n 1, 1) := by decide +kernel
theorem d_MD_value_51 : decode k_MD_value 51 = .ok (.imul, 1) := by decide +kernel
theorem d_MD_value_52 : decode k_MD_value 52 = .ok (.iload_n 2, 1) := by decide +kernel
theorem d_MD_value_53 : decode k_MD_value 53 = .ok (.iadd, 1) := by decide +kernel
theorem d_MD_value_54 : decode k_MD_value 54 = .ok (.lload_n 3, 1) := by decide +kernel
theorem d_MD_value_55 : decode k_MD_value 55 = .ok (.lastore, 1) := by decide +kernel
theorem d_MD_value_56 : decode k_MD_value 56 = .ok (.lload 5, 2) := by decide +kernel
theorem d_MD_value_58 : decode k_MD_value 58 = .ok (.lreturn, 1) := by decide +kernel
theorem d_MD_embargo_0 : decode k_MD_embargo 0 = .ok (.aload_n 0, 1) := by decide +kernel
theorem d_MD_embargo_1 : decode k_MD_embargo 1 = .ok (.aload_n 0, 1) := by decide +kernel
theorem d_MD_embargo_2 : decode k_MD_embargo 2 = .ok (.iload_n 1, 1) := by decide +kernel
theorem d_MD_embargo_3 : decode k_MD_embargo 3 = .ok (.invokevirtual 106, 3) := by decide +kernel
theorem d_MD_embargo_6 : decode k_MD_embargo 6 = .ok (.ifCond .ne 7, 3) := by decide +kernel
theorem d_MD_embargo_9 : decode k_MD_embargo 9 = .ok (.iconst 1, 1) := by decide +kernel
theorem d_MD_embargo_10 : decode k_MD_embargo 10 = .ok (.goto 4, 3) := by decide +kernel
theorem d_MD_embargo_13 : decode k_MD_embargo 13 = .ok (.iconst 0, 1) := by decide +kernel
theorem d_MD_embargo_14 : decode k_MD_embargo 14 = .ok (.iload_n 2, 1) := by decide +kernel
theorem d_MD_embargo_15 : decode k_MD_embargo 15 = .ok (.iconst (-1), 1) := by decide +kernel
theorem d_MD_embargo_16 : decode k_MD_embargo 16 = .ok (.if_icmp .eq 14, 3) := by decide +kernel
theorem d_MD_embargo_19 : decode k_MD_embargo 19 = .ok (.iload_n 2, 1) := by decide +kernel
theorem d_MD_embargo_20 : decode k_MD_embargo 20 = .ok (.invokestatic 113, 3) := by decide +kernel
theorem d_MD_embargo_23 : decode k_MD_embargo 23 = .ok (.ifCond .ne 7, 3) := by decide +kernel
theorem d_MD_embargo_26 : decode k_MD_embargo 26 = .ok (.iconst 1, 1) := by decide +kernel
theorem d_MD_embargo_27 : decode k_MD_embargo 27 = .ok (.goto 4, 3) := by decide +kernel
theorem d_MD_embargo_30 : decode k_MD_embargo 30 = .ok (.iconst 0, 1) := by decide +kernel
theorem d_MD_embargo_31 : decode k_MD_embargo 31 = .ok (.iconst 0, 1) := by decide +kernel
theorem d_MD_embargo_32 : decode k_MD_embargo 32 = .ok (.invokevirtual 88, 3) := by decide +kernel
theorem d_MD_embargo_35 : decode k_MD_embargo 35 = .ok (.ifCond .eq 5, 3) := by decide +kernel
theorem d_MD_embargo_38 : decode k_MD_embargo 38 = .ok (.iconst 0, 1) := by decide +kernel
theorem d_MD_embargo_39 : decode k_MD_embargo 39 = .ok (.ireturn, 1) := by decide +kernel
theorem d_MD_embargo_40 : decode k_MD_embargo 40 = .ok (.aload_n 0, 1) := by decide +kernel
theorem d_MD_embargo_41 : decode k_MD_embargo 41 = .ok (.getfield 35, 3) := by decide +kernel
theorem d_MD_embargo_44 : decode k_MD_embargo 44 = .ok (.iload_n 1, 1) := by decide +kernel
theorem d_MD_embargo_45 : decode k_MD_embargo 45 = .ok (.iaload, 1) := by decide +kernel
theorem d_MD_embargo_46 : decode k_MD_embargo 46 = .ok (.istore_n 3, 1) := by decide +kernel
theorem d_MD_embargo_47 : decode k_MD_embargo 47 = .ok (.aload_n 0, 1) := by decide +kernel
theorem d_MD_embargo_48 : decode k_MD_embargo 48 = .ok (.getfield 35, 3) := by decide +kernel
theorem d_MD_embargo_51 : decode k_MD_embargo 51 = .ok (.iload_n 1, 1) := by decide +kernel
theorem d_MD_embargo_52 : decode k_MD_embargo 52 = .ok (.iload_n 2, 1) := by decide +kernel
theorem d_MD_embargo_53 : decode k_MD_embargo 53 = .ok (.iastore, 1) := by decide +kernel
theorem d_MD_embargo_54 : decode k_MD_embargo 54 = .ok (.iload_n 3, 1) := by decide +kernel
theorem d_MD_embargo_55 : decode k_MD_embargo 55 = .ok (.ireturn, 1) := by decide +kernel
theorem d_MD_agreement_0 : decode k_MD_agreement 0 = .ok (.iload_n 3, 1) := by decide +kernel
theorem d_MD_agreement_1 : decode k_MD_agreement 1 = .ok (.invokestatic 113, 3) := by decide +kernel
theorem d_MD_agreement_4 : decode k_MD_agreement 4 = .ok (.ifCond .eq 17, 3) := by decide +kernel
theorem d_MD_agreement_7 : decode k_MD_agreement 7 = .ok (.iload 4, 2) := by decide +kernel
theorem d_MD_agreement_9 : decode k_MD_agreement 9 = .ok (.invokestatic 113, 3) := by decide +kernel
theorem d_MD_agreement_12 : decode k_MD_agreement 12 = .ok (.ifCond .eq 9, 3) := by decide +kernel
theorem d_MD_agreement_15 : decode k_MD_agreement 15 = .ok (.iload_n 3, 1) := by decide +kernel
theorem d_MD_agreement_16 : decode k_MD_agreement 16 = .ok (.iload 4, 2) := by decide +kernel
theorem d_MD_agreement_18 : decode k_MD_agreement 18 = .ok (.if_icmp .le 7, 3) := by decide +kernel
theorem d_MD_agreement_21 : decode k_MD_agreement 21 = .ok (.iconst 1, 1) := by decide +kernel
theorem d_MD_agreement_22 : decode k_MD_agreement 22 = .ok (.goto 4, 3) := by decide +kernel
theorem d_MD_agreement_25 : decode k_MD_agreement 25 = .ok (.iconst 0, 1) := by decide +kernel
theorem d_MD_agreement_26 : decode k_MD_agreement 26 = .ok (.istore 5, 2) := by decide +kernel
theorem d_MD_agreement_28 : decode k_MD_agreement 28 = .ok (.aload_n 0, 1) := by decide +kernel
theorem d_MD_agreement_29 : decode k_MD_agreement 29 = .ok (.aload_n 0, 1) := by decide +kernel
theorem d_MD_agreement_30 : decode k_MD_agreement 30 = .ok (.iload_n 1, 1) := by decide +kernel
theorem d_MD_agreement_31 : decode k_MD_agreement 31 = .ok (.invokevirtual 116, 3) := by decide +kernel
theorem d_MD_agreement_34 : decode k_MD_agreement 34 = .ok (.ifCond .eq 11, 3) := by decide +kernel
theorem d_MD_agreement_37 : decode k_MD_agreement 37 = .ok (.aload_n 0, 1) := by decide +kernel
theorem d_MD_agreement_38 : decode k_MD_agreement 38 = .ok (.iload_n 2, 1) := by decide +kernel
theorem d_MD_agreement_39 : decode k_MD_agreement 39 = .ok (.invokevirtual 106, 3) := by decide +kernel
theorem d_MD_agreement_42 : decode k_MD_agreement 42 = .ok (.ifCond .ne 7, 3) := by decide +kernel
theorem d_MD_agreement_45 : decode k_MD_agreement 45 = .ok (.iconst 1, 1) := by decide +kernel
theorem d_MD_agreement_46 : decode k_MD_agreement 46 = .ok (.goto 4, 3) := by decide +kernel
theorem d_MD_agreement_49 : decode k_MD_agreement 49 = .ok (.iconst 0, 1) := by decide +kernel
theorem d_MD_agreement_50 : decode k_MD_agreement 50 = .ok (.iload 5, 2) := by decide +kernel
theorem d_MD_agreement_52 : decode k_MD_agreement 52 = .ok (.aload_n 0, 1) := by decide +kernel
theorem d_MD_agreement_53 : decode k_MD_agreement 53 = .ok (.getfield 119, 3) := by decide +kernel
theorem d_MD_agreement_56 : decode k_MD_agreement 56 = .ok (.bipush 40, 2) := by decide +kernel
theorem d_MD_agreement_58 : decode k_MD_agreement 58 = .ok (.if_icmp .ne 7, 3) := by decide +kernel
theorem d_MD_agreement_61 : decode k_MD_agreement 61 = .ok (.iconst 1, 1) := by decide +kernel
theorem d_MD_agreement_62 : decode k_MD_agreement 62 = .ok (.goto 4, 3) := by decide +kernel
theorem d_MD_agreement_65 : decode k_MD_agreement 65 = .ok (.iconst 0, 1) := by decide +kernel
theorem d_MD_agreement_66 : decode k_MD_agreement 66 = .ok (.invokevirtual 88, 3) := by decide +kernel
theorem d_MD_agreement_69 : decode k_MD_agreement 69 = .ok (.ifCond .eq 5, 3) := by decide +kernel
theorem d_MD_agreement_72 : decode k_MD_agreement 72 = .ok (.iconst 0, 1) := by decide +kernel
theorem d_MD_agreement_73 : decode k_MD_agreement 73 = .ok (.ireturn, 1) := by decide +kernel
theorem d_MD_agreement_74 : decode k_MD_agreement 74 = .ok (.aload_n 0, 1) := by decide +kernel
theorem d_MD_agreement_75 : decode k_MD_agreement 75 = .ok (.getfield 42, 3) := by decide +kernel
theorem d_MD_agreement_78 : decode k_MD_agreement 78 = .ok (.aload_n 0, 1) := by decide +kernel
theorem d_MD_agreement_79 : decode k_MD_agreement 79 = .ok (.getfield 119, 3) := by decide +kernel
theorem d_MD_agreement_82 : decode k_MD_agreement 82 = .ok (.iload_n 1, 1) := by decide +kernel
theorem d_MD_agreement_83 : decode k_MD_agreement 83 = .ok (.iastore, 1) := by decide +kernel
theorem d_MD_agreement_84 : decode k_MD_agreement 84 = .ok (.aload_n 0, 1) := by decide +kernel
theorem d_MD_agreement_85 : decode k_MD_agreement 85 = .ok (.getfield 45, 3) := by decide +kernel
theorem d_MD_agreement_88 : decode k_MD_agreement 88 = .ok (.aload_n 0, 1) := by decide +kernel
theorem d_MD_agreement_89 : decode k_MD_agreement 89 = .ok (.getfield 119, 3) := by decide +kernel
theorem d_MD_agreement_92 : decode k_MD_agreement 92 = .ok (.iload_n 2, 1) := by decide +kernel
theorem d_MD_agreement_93 : decode k_MD_agreement 93 = .ok (.iastore, 1) := by decide +kernel
theorem d_MD_agreement_94 : decode k_MD_agreement 94 = .ok (.aload_n 0, 1) := by decide +kernel
theorem d_MD_agreement_95 : decode k_MD_agreement 95 = .ok (.getfield 48, 3) := by decide +kernel
theorem d_MD_agreement_98 : decode k_MD_agreement 98 = .ok (.aload_n 0, 1) := by decide +kernel
theorem d_MD_agreement_99 : decode k_MD_agreement 99 = .ok (.getfield 119, 3) := by decide +kernel
theorem d_MD_agreement_102 : decode k_MD_agreement 102 = .ok (.iload_n 3, 1) := by decide +kernel
theorem d_MD_agreement_103 : decode k_MD_agreement 103 = .ok (.iastore, 1) := by decide +kernel
theorem d_MD_agreement_104 : decode k_MD_agreement 104 = .ok (.aload_n 0, 1) := by decide +kernel
theorem d_MD_agreement_105 : decode k_MD_agreement 105 = .ok (.getfield 51, 3) := by decide +kernel
theorem d_MD_agreement_108 : decode k_MD_agreement 108 = .ok (.aload_n 0, 1) := by decide +kernel
theorem d_MD_agreement_109 : decode k_MD_agreement 109 = .ok (.getfield 119, 3) := by decide +kernel
theorem d_MD_agreement_112 : decode k_MD_agreement 112 = .ok (.iload 4, 2) := by decide +kernel
theorem d_MD_agreement_114 : decode k_MD_agreement 114 = .ok (.iastore, 1) := by decide +kernel
theorem d_MD_agreement_115 : decode k_MD_agreement 115 = .ok (.aload_n 0, 1) := by decide +kernel
theorem d_MD_agreement_116 : decode k_MD_agreement 116 = .ok (.dup, 1) := by decide +kernel
theorem d_MD_agreement_117 : decode k_MD_agreement 117 = .ok (.getfield 119, 3) := by decide +kernel
theorem d_MD_agreement_120 : decode k_MD_agreement 120 = .ok (.iconst 1, 1) := by decide +kernel
theorem d_MD_agreement_121 : decode k_MD_agreement 121 = .ok (.iadd, 1) := by decide +kernel
theorem d_MD_agreement_122 : decode k_MD_agreement 122 = .ok (.putfield 119, 3) := by decide +kernel
theorem d_MD_agreement_125 : decode k_MD_agreement 125 = .ok (.aload_n 0, 1) := by decide +kernel
theorem d_MD_agreement_126 : decode k_MD_agreement 126 = .ok (.getfield 119, 3) := by decide +kernel
theorem d_MD_agreement_129 : decode k_MD_agreement 129 = .ok (.ireturn, 1) := by decide +kernel
theorem d_MD_hasAgreement_0 : decode k_MD_hasAgreement 0 = .ok (.iconst 0, 1) := by decide +kernel
theorem d_MD_hasAgreement_1 : decode k_MD_hasAgreement 1 = .ok (.istore 4, 2) := by decide +kernel
theorem d_MD_hasAgreement_3 : decode k_MD_hasAgreement 3 = .ok (.iconst 0, 1) := by decide +kernel
theorem d_MD_hasAgreement_4 : decode k_MD_hasAgreement 4 = .ok (.istore 5, 2) := by decide +kernel
theorem d_MD_hasAgreement_6 : decode k_MD_hasAgreement 6 = .ok (.iload 5, 2) := by decide +kernel
theorem d_MD_hasAgreement_8 : decode k_MD_hasAgreement 8 = .ok (.aload_n 0, 1) := by decide +kernel
theorem d_MD_hasAgreement_9 : decode k_MD_hasAgreement 9 = .ok (.getfield 119, 3) := by decide +kernel
theorem d_MD_hasAgreement_12 : decode k_MD_hasAgreement 12 = .ok (.if_icmp .ge 65, 3) := by decide +kernel
theorem d_MD_hasAgreement_15 : decode k_MD_hasAgreement 15 = .ok (.iload 4, 2) := by decide +kernel
theorem d_MD_hasAgreement_17 : decode k_MD_hasAgreement 17 = .ok (.ifCond .ne 47, 3) := by decide +kernel
theorem d_MD_hasAgreement_20 : decode k_MD_hasAgreement 20 = .ok (.aload_n 0, 1) := by decide +kernel
theorem d_MD_hasAgreement_21 : decode k_MD_hasAgreement 21 = .ok (.getfield 42, 3) := by decide +kernel
theorem d_MD_hasAgreement_24 : decode k_MD_hasAgreement 24 = .ok (.iload 5, 2) := by decide +kernel
theorem d_MD_hasAgreement_26 : decode k_MD_hasAgreement 26 = .ok (.iaload, 1) := by decide +kernel
theorem d_MD_hasAgreement_27 : decode k_MD_hasAgreement 27 = .ok (.iload_n 1, 1) := by decide +kernel
theorem d_MD_hasAgreement_28 : decode k_MD_hasAgreement 28 = .ok (.if_icmp .ne 40, 3) := by decide +kernel
theorem d_MD_hasAgreement_31 : decode k_MD_hasAgreement 31 = .ok (.aload_n 0, 1) := by decide +kernel
theorem d_MD_hasAgreement_32 : decode k_MD_hasAgreement 32 = .ok (.getfield 45, 3) := by decide +kernel
theorem d_MD_hasAgreement_35 : decode k_MD_hasAgreement 35 = .ok (.iload 5, 2) := by decide +kernel
theorem d_MD_hasAgreement_37 : decode k_MD_hasAgreement 37 = .ok (.iaload, 1) := by decide +kernel
theorem d_MD_hasAgreement_38 : decode k_MD_hasAgreement 38 = .ok (.iload_n 2, 1) := by decide +kernel
theorem d_MD_hasAgreement_39 : decode k_MD_hasAgreement 39 = .ok (.if_icmp .ne 29, 3) := by decide +kernel
theorem d_MD_hasAgreement_42 : decode k_MD_hasAgreement 42 = .ok (.aload_n 0, 1) := by decide +kernel
theorem d_MD_hasAgreement_43 : decode k_MD_hasAgreement 43 = .ok (.getfield 48, 3) := by decide +kernel
theorem d_MD_hasAgreement_46 : decode k_MD_hasAgreement 46 = .ok (.iload 5, 2) := by decide +kernel
theorem d_MD_hasAgreement_48 : decode k_MD_hasAgreement 48 = .ok (.iaload, 1) := by decide +kernel
theorem d_MD_hasAgreement_49 : decode k_MD_hasAgreement 49 = .ok (.iload_n 3, 1) := by decide +kernel
theorem d_MD_hasAgreement_50 : decode k_MD_hasAgreement 50 = .ok (.if_icmp .gt 18, 3) := by decide +kernel
theorem d_MD_hasAgreement_53 : decode k_MD_hasAgreement 53 = .ok (.iload_n 3, 1) := by decide +kernel
theorem d_MD_hasAgreement_54 : decode k_MD_hasAgreement 54 = .ok (.aload_n 0, 1) := by decide +kernel
theorem d_MD_hasAgreement_55 : decode k_MD_hasAgreement 55 = .ok (.getfield 51, 3) := by decide +kernel
theorem d_MD_hasAgreement_58 : decode k_MD_hasAgreement 58 = .ok (.iload 5, 2) := by decide +kernel
theorem d_MD_hasAgreement_60 : decode k_MD_hasAgreement 60 = .ok (.iaload, 1) := by decide +kernel
theorem d_MD_hasAgreement_61 : decode k_MD_hasAgreement 61 = .ok (.if_icmp .gt 7, 3) := by decide +kernel
theorem d_MD_hasAgreement_64 : decode k_MD_hasAgreement 64 = .ok (.iconst 1, 1) := by decide +kernel
theorem d_MD_hasAgreement_65 : decode k_MD_hasAgreement 65 = .ok (.goto 4, 3) := by decide +kernel
theorem d_MD_hasAgreement_68 : decode k_MD_hasAgreement 68 = .ok (.iconst 0, 1) := by decide +kernel
theorem d_MD_hasAgreement_69 : decode k_MD_hasAgreement 69 = .ok (.istore 4, 2) := by decide +kernel
theorem d_MD_hasAgreement_71 : decode k_MD_hasAgreement 71 = .ok (.iinc 5 1, 3) := by decide +kernel
theorem d_MD_hasAgreement_74 : decode k_MD_hasAgreement 74 = .ok (.goto (-68), 3) := by decide +kernel
theorem d_MD_hasAgreement_77 : decode k_MD_hasAgreement 77 = .ok (.iload 4, 2) := by decide +kernel
theorem d_MD_hasAgreement_79 : decode k_MD_hasAgreement 79 = .ok (.ireturn, 1) := by decide +kernel
theorem d_MD_holds_0 : decode k_MD_holds 0 = .ok (.iload_n 1, 1) := by decide +kernel
theorem d_MD_holds_1 : decode k_MD_holds 1 = .ok (.lookupswitch 140 #[(99, 121), (102, 93), (107, 74), (112, 107), (114, 51)], 51) := by decide +kernel
theorem d_MD_holds_52 : decode k_MD_holds 52 = .ok (.aload_n 0, 1) := by decide +kernel
theorem d_MD_holds_53 : decode k_MD_holds 53 = .ok (.getfield 23, 3) := by decide +kernel
theorem d_MD_holds_56 : decode k_MD_holds 56 = .ok (.aload_n 0, 1) := by decide +kernel
theorem d_MD_holds_57 : decode k_MD_holds 57 = .ok (.getfield 122, 3) := by decide +kernel
theorem d_MD_holds_60 : decode k_MD_holds 60 = .ok (.iaload, 1) := by decide +kernel
theorem d_MD_holds_61 : decode k_MD_holds 61 = .ok (.iload_n 2, 1) := by decide +kernel
theorem d_MD_holds_62 : decode k_MD_holds 62 = .ok (.ishr, 1) := by decide +kernel
theorem d_MD_holds_63 : decode k_MD_holds 63 = .ok (.iconst 1, 1) := by decide +kernel
theorem d_MD_holds_64 : decode k_MD_holds 64 = .ok (.iand, 1) := by decide +kernel
theorem d_MD_holds_65 : decode k_MD_holds 65 = .ok (.iconst 1, 1) := by decide +kernel
theorem d_MD_holds_66 : decode k_MD_holds 66 = .ok (.if_icmp .ne 7, 3) := by decide +kernel
theorem d_MD_holds_69 : decode k_MD_holds 69 = .ok (.iconst 1, 1) := by decide +kernel
theorem d_MD_holds_70 : decode k_MD_holds 70 = .ok (.goto 4, 3) := by decide +kernel
theorem d_MD_holds_73 : decode k_MD_holds 73 = .ok (.iconst 0, 1) := by decide +kernel
theorem d_MD_holds_74 : decode k_MD_holds 74 = .ok (.ireturn, 1) := by decide +kernel
theorem d_MD_holds_75 : decode k_MD_holds 75 = .ok (.aload_n 0, 1) := by decide +kernel
theorem d_MD_holds_76 : decode k_MD_holds 76 = .ok (.getfield 29, 3) := by decide +kernel
theorem d_MD_holds_79 : decode k_MD_holds 79 = .ok (.aload_n 0, 1) := by decide +kernel
theorem d_MD_holds_80 : decode k_MD_holds 80 = .ok (.getfield 125, 3) := by decide +kernel
theorem d_MD_holds_83 : decode k_MD_holds 83 = .ok (.iaload, 1) := by decide +kernel
theorem d_MD_holds_84 : decode k_MD_holds 84 = .ok (.iload_n 2, 1) := by decide +kernel
theorem d_MD_holds_85 : decode k_MD_holds 85 = .ok (.if_icmp .ne 7, 3) := by decide +kernel
theorem d_MD_holds_88 : decode k_MD_holds 88 = .ok (.iconst 1, 1) := by decide +kernel
theorem d_MD_holds_89 : decode k_MD_holds 89 = .ok (.goto 4, 3) := by decide +kernel
theorem d_MD_holds_92 : decode k_MD_holds 92 = .ok (.iconst 0, 1) := by decide +kernel
theorem d_MD_holds_93 : decode k_MD_holds 93 = .ok (.ireturn, 1) := by decide +kernel
theorem d_MD_holds_94 : decode k_MD_holds 94 = .ok (.aload_n 0, 1) := by decide +kernel
theorem d_MD_holds_95 : decode k_MD_holds 95 = .ok (.getfield 128, 3) := by decide +kernel
theorem d_MD_holds_98 : decode k_MD_holds 98 = .ok (.iload_n 2, 1) := by decide +kernel
theorem d_MD_holds_99 : decode k_MD_holds 99 = .ok (.if_icmp .ne 7, 3) := by decide +kernel
theorem d_MD_holds_102 : decode k_MD_holds 102 = .ok (.iconst 1, 1) := by decide +kernel
theorem d_MD_holds_103 : decode k_MD_holds 103 = .ok (.goto 4, 3) := by decide +kernel
theorem d_MD_holds_106 : decode k_MD_holds 106 = .ok (.iconst 0, 1) := by decide +kernel
theorem d_MD_holds_107 : decode k_MD_holds 107 = .ok (.ireturn, 1) := by decide +kernel
theorem d_MD_holds_108 : decode k_MD_holds 108 = .ok (.aload_n 0, 1) := by decide +kernel
theorem d_MD_holds_109 : decode k_MD_holds 109 = .ok (.getfield 131, 3) := by decide +kernel
theorem d_MD_holds_112 : decode k_MD_holds 112 = .ok (.iload_n 2, 1) := by decide +kernel
theorem d_MD_holds_113 : decode k_MD_holds 113 = .ok (.if_icmp .ne 7, 3) := by decide +kernel
theorem d_MD_holds_116 : decode k_MD_holds 116 = .ok (.iconst 1, 1) := by decide +kernel
theorem d_MD_holds_117 : decode k_MD_holds 117 = .ok (.goto 4, 3) := by decide +kernel
theorem d_MD_holds_120 : decode k_MD_holds 120 = .ok (.iconst 0, 1) := by decide +kernel
theorem d_MD_holds_121 : decode k_MD_holds 121 = .ok (.ireturn, 1) := by decide +kernel
theorem d_MD_holds_122 : decode k_MD_holds 122 = .ok (.aload_n 0, 1) := by decide +kernel
theorem d_MD_holds_123 : decode k_MD_holds 123 = .ok (.getfield 32, 3) := by decide +kernel
theorem d_MD_holds_126 : decode k_MD_holds 126 = .ok (.aload_n 0, 1) := by decide +kernel
theorem d_MD_holds_127 : decode k_MD_holds 127 = .ok (.getfield 125, 3) := by decide +kernel
theorem d_MD_holds_130 : decode k_MD_holds 130 = .ok (.iaload, 1) := by decide +kernel
theorem d_MD_holds_131 : decode k_MD_holds 131 = .ok (.iload_n 2, 1) := by decide +kernel
theorem d_MD_holds_132 : decode k_MD_holds 132 = .ok (.if_icmp .ne 7, 3) := by decide +kernel
theorem d_MD_holds_135 : decode k_MD_holds 135 = .ok (.iconst 1, 1) := by decide +kernel
theorem d_MD_holds_136 : decode k_MD_holds 136 = .ok (.goto 4, 3) := by decide +kernel
theorem d_MD_holds_139 : decode k_MD_holds 139 = .ok (.iconst 0, 1) := by decide +kernel
theorem d_MD_holds_140 : decode k_MD_holds 140 = .ok (.ireturn, 1) := by decide +kernel
theorem d_MD_holds_141 : decode k_MD_holds 141 = .ok (.aload_n 0, 1) := by decide +kernel
theorem d_MD_holds_142 : decode k_MD_holds 142 = .ok (.aload_n 0, 1) := by decide +kernel
theorem d_MD_holds_143 : decode k_MD_holds 143 = .ok (.getfield 122, 3) := by decide +kernel
theorem d_MD_holds_146 : decode k_MD_holds 146 = .ok (.aload_n 0, 1) := by decide +kernel
theorem d_MD_holds_147 : decode k_MD_holds 147 = .ok (.getfield 125, 3) := by decide +kernel
theorem d_MD_holds_150 : decode k_MD_holds 150 = .ok (.aload_n 0, 1) := by decide +kernel
theorem d_MD_holds_151 : decode k_MD_holds 151 = .ok (.getfield 134, 3) := by decide +kernel
theorem d_MD_holds_154 : decode k_MD_holds 154 = .ok (.invokevirtual 137, 3) := by decide +kernel
theorem d_MD_holds_157 : decode k_MD_holds 157 = .ok (.ireturn, 1) := by decide +kernel
theorem d_MD_suits_0 : decode k_MD_suits 0 = .ok (.bipush 40, 2) := by decide +kernel
theorem d_MD_suits_2 : decode k_MD_suits 2 = .ok (.iload_n 1, 1) := by decide +kernel
theorem d_MD_suits_3 : decode k_MD_suits 3 = .ok (.imul, 1) := by decide +kernel
theorem d_MD_suits_4 : decode k_MD_suits 4 = .ok (.iconst 1, 1) := by decide +kernel
theorem d_MD_suits_5 : decode k_MD_suits 5 = .ok (.iadd, 1) := by decide +kernel
theorem d_MD_suits_6 : decode k_MD_suits 6 = .ok (.istore_n 2, 1) := by decide +kernel
theorem d_MD_suits_7 : decode k_MD_suits 7 = .ok (.bipush 40, 2) := by decide +kernel
theorem d_MD_suits_9 : decode k_MD_suits 9 = .ok (.iload_n 1, 1) := by decide +kernel
theorem d_MD_suits_10 : decode k_MD_suits 10 = .ok (.imul, 1) := by decide +kernel
theorem d_MD_suits_11 : decode k_MD_suits 11 = .ok (.aload_n 0, 1) := by decide +kernel
theorem d_MD_suits_12 : decode k_MD_suits 12 = .ok (.getfield 16, 3) := by decide +kernel
theorem d_MD_suits_15 : decode k_MD_suits 15 = .ok (.iload_n 1, 1) := by decide +kernel
theorem d_MD_suits_16 : decode k_MD_suits 16 = .ok (.iaload, 1) := by decide +kernel
theorem d_MD_suits_17 : decode k_MD_suits 17 = .ok (.iadd, 1) := by decide +kernel
theorem d_MD_suits_18 : decode k_MD_suits 18 = .ok (.istore_n 3, 1) := by decide +kernel
theorem d_MD_suits_19 : decode k_MD_suits 19 = .ok (.iconst 1, 1) := by decide +kernel
theorem d_MD_suits_20 : decode k_MD_suits 20 = .ok (.istore 4, 2) := by decide +kernel
theorem d_MD_suits_22 : decode k_MD_suits 22 = .ok (.iload_n 2, 1) := by decide +kernel
theorem d_MD_suits_23 : decode k_MD_suits 23 = .ok (.iload_n 3, 1) := by decide +kernel
theorem d_MD_suits_24 : decode k_MD_suits 24 = .ok (.if_icmp .ge 107, 3) := by decide +kernel
theorem d_MD_suits_27 : decode k_MD_suits 27 = .ok (.iinc 2 1, 3) := by decide +kernel
theorem d_MD_suits_30 : decode k_MD_suits 30 = .ok (.aload_n 0, 1) := by decide +kernel
theorem d_MD_suits_31 : decode k_MD_suits 31 = .ok (.getfield 13, 3) := by decide +kernel
theorem d_MD_suits_34 : decode k_MD_suits 34 = .ok (.iload_n 2, 1) := by decide +kernel
theorem d_MD_suits_35 : decode k_MD_suits 35 = .ok (.iaload, 1) := by decide +kernel
theorem d_MD_suits_36 : decode k_MD_suits 36 = .ok (.bipush 33, 2) := by decide +kernel
theorem d_MD_suits_38 : decode k_MD_suits 38 = .ok (.if_icmp .ne 7, 3) := by decide +kernel
theorem d_MD_suits_41 : decode k_MD_suits 41 = .ok (.iconst 1, 1) := by decide +kernel
theorem d_MD_suits_42 : decode k_MD_suits 42 = .ok (.goto 4, 3) := by decide +kernel
theorem d_MD_suits_45 : decode k_MD_suits 45 = .ok (.iconst 0, 1) := by decide +kernel
theorem d_MD_suits_46 : decode k_MD_suits 46 = .ok (.istore 5, 2) := by decide +kernel
theorem d_MD_suits_48 : decode k_MD_suits 48 = .ok (.iload 5, 2) := by decide +kernel
theorem d_MD_suits_50 : decode k_MD_suits 50 = .ok (.ifCond .eq 6, 3) := by decide +kernel
theorem d_MD_suits_53 : decode k_MD_suits 53 = .ok (.iinc 2 1, 3) := by decide +kernel
theorem d_MD_suits_56 : decode k_MD_suits 56 = .ok (.aload_n 0, 1) := by decide +kernel
theorem d_MD_suits_57 : decode k_MD_suits 57 = .ok (.getfield 13, 3) := by decide +kernel
theorem d_MD_suits_60 : decode k_MD_suits 60 = .ok (.iload_n 2, 1) := by decide +kernel
theorem d_MD_suits_61 : decode k_MD_suits 61 = .ok (.iaload, 1) := by decide +kernel
theorem d_MD_suits_62 : decode k_MD_suits 62 = .ok (.istore 6, 2) := by decide +kernel
theorem d_MD_suits_64 : decode k_MD_suits 64 = .ok (.iload 6, 2) := by decide +kernel
theorem d_MD_suits_66 : decode k_MD_suits 66 = .ok (.bipush 103, 2) := by decide +kernel
theorem d_MD_suits_68 : decode k_MD_suits 68 = .ok (.if_icmp .ne 7, 3) := by decide +kernel
theorem d_MD_suits_71 : decode k_MD_suits 71 = .ok (.iconst 0, 1) := by decide +kernel
theorem d_MD_suits_72 : decode k_MD_suits 72 = .ok (.goto 14, 3) := by decide +kernel
theorem d_MD_suits_75 : decode k_MD_suits 75 = .ok (.aload_n 0, 1) := by decide +kernel
theorem d_MD_suits_76 : decode k_MD_suits 76 = .ok (.getfield 13, 3) := by decide +kernel
theorem d_MD_suits_79 : decode k_MD_suits 79 = .ok (.iload_n 2, 1) := by decide +kernel
theorem d_MD_suits_80 : decode k_MD_suits 80 = .ok (.iconst 1, 1) := by decide +kernel
theorem d_MD_suits_81 : decode k_MD_suits 81 = .ok (.iadd, 1) := by decide +kernel
theorem d_MD_suits_82 : decode k_MD_suits 82 = .ok (.iaload, 1) := by decide +kernel
theorem d_MD_suits_83 : decode k_MD_suits 83 = .ok (.bipush 48, 2) := by decide +kernel
theorem d_MD_suits_85 : decode k_MD_suits 85 = .ok (.isub, 1) := by decide +kernel
theorem d_MD_suits_86 : decode k_MD_suits 86 = .ok (.istore 7, 2) := by decide +kernel
theorem d_MD_suits_88 : decode k_MD_suits 88 = .ok (.iload 4, 2) := by decide +kernel
theorem d_MD_suits_90 : decode k_MD_suits 90 = .ok (.ifCond .eq 20, 3) := by decide +kernel
theorem d_MD_suits_93 : decode k_MD_suits 93 = .ok (.aload_n 0, 1) := by decide +kernel
theorem d_MD_suits_94 : decode k_MD_suits 94 = .ok (.iload 6, 2) := by decide +kernel
theorem d_MD_suits_96 : decode k_MD_suits 96 = .ok (.iload 7, 2) := by decide +kernel
theorem d_MD_suits_98 : decode k_MD_suits 98 = .ok (.invokevirtual 140, 3) := by decide +kernel
theorem d_MD_suits_101 : decode k_MD_suits 101 = .ok (.iload 5, 2) := by decide +kernel
theorem d_MD_suits_103 : decode k_MD_suits 103 = .ok (.if_icmp .eq 7, 3) := by decide +kernel
theorem d_MD_suits_106 : decode k_MD_suits 106 = .ok (.iconst 1, 1) := by decide +kernel
theorem d_MD_suits_107 : decode k_MD_suits 107 = .ok (.goto 4, 3) := by decide +kernel
theorem d_MD_suits_110 : decode k_MD_suits 110 = .ok (.iconst 0, 1) := by decide +kernel
theorem d_MD_suits_111 : decode k_MD_suits 111 = .ok (.istore 4, 2) := by decide +kernel
theorem d_MD_suits_113 : decode k_MD_suits 113 = .ok (.iload_n 2, 1) := by decide +kernel
theorem d_MD_suits_114 : decode k_MD_suits 114 = .ok (.iload 6, 2) := by decide +kernel
theorem d_MD_suits_116 : decode k_MD_suits 116 = .ok (.bipush 103, 2) := by decide +kernel
theorem d_MD_suits_118 : decode k_MD_suits 118 = .ok (.if_icmp .ne 7, 3) := by decide +kernel
theorem d_MD_suits_121 : decode k_MD_suits 121 = .ok (.iconst 1, 1) := by decide +kernel
theorem d_MD_suits_122 : decode k_MD_suits 122 = .ok (.goto 4, 3) := by decide +kernel
theorem d_MD_suits_125 : decode k_MD_suits 125 = .ok (.iconst 2, 1) := by decide +kernel
theorem d_MD_suits_126 : decode k_MD_suits 126 = .ok (.iadd, 1) := by decide +kernel
theorem d_MD_suits_127 : decode k_MD_suits 127 = .ok (.istore_n 2, 1) := by decide +kernel
theorem d_MD_suits_128 : decode k_MD_suits 128 = .ok (.goto (-106), 3) := by decide +kernel
theorem d_MD_suits_131 : decode k_MD_suits 131 = .ok (.iload 4, 2) := by decide +kernel
theorem d_MD_suits_133 : decode k_MD_suits 133 = .ok (.ireturn, 1) := by decide +kernel
theorem d_MD_got_0 : decode k_MD_got 0 = .ok (.aload_n 0, 1) := by decide +kernel
theorem d_MD_got_1 : decode k_MD_got 1 = .ok (.getfield 35, 3) := by decide +kernel
theorem d_MD_got_4 : decode k_MD_got 4 = .ok (.aload_n 0, 1) := by decide +kernel
theorem d_MD_got_5 : decode k_MD_got 5 = .ok (.getfield 125, 3) := by decide +kernel
theorem d_MD_got_8 : decode k_MD_got 8 = .ok (.iaload, 1) := by decide +kernel
theorem d_MD_got_9 : decode k_MD_got 9 = .ok (.aload_n 0, 1) := by decide +kernel
theorem d_MD_got_10 : decode k_MD_got 10 = .ok (.getfield 134, 3) := by decide +kernel
theorem d_MD_got_13 : decode k_MD_got 13 = .ok (.if_icmp .lt 20, 3) := by decide +kernel
theorem d_MD_got_16 : decode k_MD_got 16 = .ok (.aload_n 0, 1) := by decide +kernel
theorem d_MD_got_17 : decode k_MD_got 17 = .ok (.getfield 23, 3) := by decide +kernel
theorem d_MD_got_20 : decode k_MD_got 20 = .ok (.aload_n 0, 1) := by decide +kernel
theorem d_MD_got_21 : decode k_MD_got 21 = .ok (.getfield 122, 3) := by decide +kernel
theorem d_MD_got_24 : decode k_MD_got 24 = .ok (.iaload, 1) := by decide +kernel
theorem d_MD_got_25 : decode k_MD_got 25 = .ok (.sipush 128, 3) := by decide +kernel
theorem d_MD_got_28 : decode k_MD_got 28 = .ok (.if_icmp .ge 5, 3) := by decide +kernel
theorem d_MD_got_31 : decode k_MD_got 31 = .ok (.iconst 0, 1) := by decide +kernel
theorem d_MD_got_32 : decode k_MD_got 32 = .ok (.ireturn, 1) := by decide +kernel
theorem d_MD_got_33 : decode k_MD_got 33 = .ok (.iconst 0, 1) := by decide +kernel
theorem d_MD_got_34 : decode k_MD_got 34 = .ok (.istore_n 2, 1) := by decide +kernel
theorem d_MD_got_35 : decode k_MD_got 35 = .ok (.iconst 0, 1) := by decide +kernel
theorem d_MD_got_36 : decode k_MD_got 36 = .ok (.istore_n 3, 1) := by decide +kernel
theorem d_MD_got_37 : decode k_MD_got 37 = .ok (.iconst 0, 1) := by decide +kernel
theorem d_MD_got_38 : decode k_MD_got 38 = .ok (.istore 4, 2) := by decide +kernel
theorem d_MD_got_40 : decode k_MD_got 40 = .ok (.iload 4, 2) := by decide +kernel
theorem d_MD_got_42 : decode k_MD_got 42 = .ok (.aload_n 0, 1) := by decide +kernel
theorem d_MD_got_43 : decode k_MD_got 43 = .ok (.getfield 99, 3) := by decide +kernel
theorem d_MD_got_46 : decode k_MD_got 46 = .ok (.if_icmp .ge 79, 3) := by decide +kernel
theorem d_MD_got_49 : decode k_MD_got 49 = .ok (.aload_n 0, 1) := by decide +kernel
theorem d_MD_got_50 : decode k_MD_got 50 = .ok (.getfield 19, 3) := by decide +kernel
theorem d_MD_got_53 : decode k_MD_got 53 = .ok (.iload 4, 2) := by decide +kernel
theorem d_MD_got_55 : decode k_MD_got 55 = .ok (.baload, 1) := by decide +kernel
theorem d_MD_got_56 : decode k_MD_got 56 = .ok (.ifCond .eq 63, 3) := by decide +kernel
theorem d_MD_got_59 : decode k_MD_got 59 = .ok (.iload 4, 2) := by decide +kernel
theorem d_MD_got_61 : decode k_MD_got 61 = .ok (.iload_n 1, 1) := by decide +kernel
theorem d_MD_got_62 : decode k_MD_got 62 = .ok (.if_icmp .eq 57, 3) := by decide +kernel
theorem d_MD_got_65 : decode k_MD_got 65 = .ok (.aload_n 0, 1) := by decide +kernel
theorem d_MD_got_66 : decode k_MD_got 66 = .ok (.iload 4, 2) := by decide +kernel
theorem d_MD_got_68 : decode k_MD_got 68 = .ok (.invokevirtual 144, 3) := by decide +kernel
theorem d_MD_got_71 : decode k_MD_got 71 = .ok (.ifCond .ne 6, 3) := by decide +kernel
theorem d_MD_got_74 : decode k_MD_got 74 = .ok (.goto 45, 3) := by decide +kernel
theorem d_MD_got_77 : decode k_MD_got 77 = .ok (.aload_n 0, 1) := by decide +kernel
theorem d_MD_got_78 : decode k_MD_got 78 = .ok (.getfield 13, 3) := by decide +kernel
theorem d_MD_got_81 : decode k_MD_got 81 = .ok (.bipush 40, 2) := by decide +kernel
theorem d_MD_got_83 : decode k_MD_got 83 = .ok (.iload 4, 2) := by decide +kernel
theorem d_MD_got_85 : decode k_MD_got 85 = .ok (.imul, 1) := by decide +kernel
theorem d_MD_got_86 : decode k_MD_got 86 = .ok (.iaload, 1) := by decide +kernel
theorem d_MD_got_87 : decode k_MD_got 87 = .ok (.istore 5, 2) := by decide +kernel
theorem d_MD_got_89 : decode k_MD_got 89 = .ok (.iload_n 3, 1) := by decide +kernel
theorem d_MD_got_90 : decode k_MD_got 90 = .ok (.ifCond .ne 10, 3) := by decide +kernel
theorem d_MD_got_93 : decode k_MD_got 93 = .ok (.iload 5, 2) := by decide +kernel
theorem d_MD_got_95 : decode k_MD_got 95 = .ok (.bipush 97, 2) := by decide +kernel
theorem d_MD_got_97 : decode k_MD_got 97 = .ok (.if_icmp .ne 7, 3) := by decide +kernel
theorem d_MD_got_100 : decode k_MD_got 100 = .ok (.iconst 1, 1) := by decide +kernel
theorem d_MD_got_101 : decode k_MD_got 101 = .ok (.goto 4, 3) := by decide +kernel
theorem d_MD_got_104 : decode k_MD_got 104 = .ok (.iconst 0, 1) := by decide +kernel
theorem d_MD_got_105 : decode k_MD_got 105 = .ok (.istore_n 3, 1) := by decide +kernel
theorem d_MD_got_106 : decode k_MD_got 106 = .ok (.iload 5, 2) := by decide +kernel
theorem d_MD_got_108 : decode k_MD_got 108 = .ok (.bipush 115, 2) := by decide +kernel
theorem d_MD_got_110 : decode k_MD_got 110 = .ok (.if_icmp .ne 7, 3) := by decide +kernel
theorem d_MD_got_113 : decode k_MD_got 113 = .ok (.iconst 2, 1) := by decide +kernel
theorem d_MD_got_114 : decode k_MD_got 114 = .ok (.goto 4, 3) := by decide +kernel
theorem d_MD_got_117 : decode k_MD_got 117 = .ok (.iconst 1, 1) := by decide +kernel
theorem d_MD_got_118 : decode k_MD_got 118 = .ok (.istore_n 2, 1) := by decide +kernel
theorem d_MD_got_119 : decode k_MD_got 119 = .ok (.iinc 4 1, 3) := by decide +kernel
theorem d_MD_got_122 : decode k_MD_got 122 = .ok (.goto (-82), 3) := by decide +kernel
theorem d_MD_got_125 : decode k_MD_got 125 = .ok (.iload_n 3, 1) := by decide +kernel
theorem d_MD_got_126 : decode k_MD_got 126 = .ok (.ifCond .eq 7, 3) := by decide +kernel
theorem d_MD_got_129 : decode k_MD_got 129 = .ok (.iconst 0, 1) := by decide +kernel
theorem d_MD_got_130 : decode k_MD_got 130 = .ok (.goto 4, 3) := by decide +kernel
theorem d_MD_got_133 : decode k_MD_got 133 = .ok (.iload_n 2, 1) := by decide +kernel
theorem d_MD_got_134 : decode k_MD_got 134 = .ok (.ireturn, 1) := by decide +kernel
theorem d_MD_put_0 : decode k_MD_put 0 = .ok (.aload_n 0, 1) := by decide +kernel
theorem d_MD_put_1 : decode k_MD_put 1 = .ok (.iload_n 1, 1) := by decide +kernel
theorem d_MD_put_2 : decode k_MD_put 2 = .ok (.putfield 122, 3) := by decide +kernel
theorem d_MD_put_5 : decode k_MD_put 5 = .ok (.aload_n 0, 1) := by decide +kernel
theorem d_MD_put_6 : decode k_MD_put 6 = .ok (.iload_n 2, 1) := by decide +kernel
theorem d_MD_put_7 : decode k_MD_put 7 = .ok (.putfield 125, 3) := by decide +kernel
theorem d_MD_put_10 : decode k_MD_put 10 = .ok (.aload_n 0, 1) := by decide +kernel
theorem d_MD_put_11 : decode k_MD_put 11 = .ok (.iload_n 3, 1) := by decide +kernel
theorem d_MD_put_12 : decode k_MD_put 12 = .ok (.putfield 128, 3) := by decide +kernel
theorem d_MD_put_15 : decode k_MD_put 15 = .ok (.aload_n 0, 1) := by decide +kernel
theorem d_MD_put_16 : decode k_MD_put 16 = .ok (.iload 4, 2) := by decide +kernel
theorem d_MD_put_18 : decode k_MD_put 18 = .ok (.putfield 131, 3) := by decide +kernel
theorem d_MD_put_21 : decode k_MD_put 21 = .ok (.aload_n 0, 1) := by decide +kernel
theorem d_MD_put_22 : decode k_MD_put 22 = .ok (.iload 5, 2) := by decide +kernel
theorem d_MD_put_24 : decode k_MD_put 24 = .ok (.putfield 134, 3) := by decide +kernel
theorem d_MD_put_27 : decode k_MD_put 27 = .ok (.return_, 1) := by decide +kernel
theorem d_MD_asks_0 : decode k_MD_asks 0 = .ok (.aload_n 0, 1) := by decide +kernel
theorem d_MD_asks_1 : decode k_MD_asks 1 = .ok (.iload_n 1, 1) := by decide +kernel
theorem d_MD_asks_2 : decode k_MD_asks 2 = .ok (.invokevirtual 116, 3) := by decide +kernel
theorem d_MD_asks_5 : decode k_MD_asks 5 = .ok (.ifCond .eq 28, 3) := by decide +kernel
theorem d_MD_asks_8 : decode k_MD_asks 8 = .ok (.aload_n 0, 1) := by decide +kernel
theorem d_MD_asks_9 : decode k_MD_asks 9 = .ok (.iload_n 2, 1) := by decide +kernel
theorem d_MD_asks_10 : decode k_MD_asks 10 = .ok (.invokevirtual 106, 3) := by decide +kernel
theorem d_MD_asks_13 : decode k_MD_asks 13 = .ok (.ifCond .eq 20, 3) := by decide +kernel
theorem d_MD_asks_16 : decode k_MD_asks 16 = .ok (.iload_n 3, 1) := by decide +kernel
theorem d_MD_asks_17 : decode k_MD_asks 17 = .ok (.invokestatic 110, 3) := by decide +kernel
theorem d_MD_asks_20 : decode k_MD_asks 20 = .ok (.ifCond .eq 13, 3) := by decide +kernel
theorem d_MD_asks_23 : decode k_MD_asks 23 = .ok (.iload 4, 2) := by decide +kernel
theorem d_MD_asks_25 : decode k_MD_asks 25 = .ok (.iconst 0, 1) := by decide +kernel
theorem d_MD_asks_26 : decode k_MD_asks 26 = .ok (.iconst 3, 1) := by decide +kernel
theorem d_MD_asks_27 : decode k_MD_asks 27 = .ok (.invokestatic 73, 3) := by decide +kernel
theorem d_MD_asks_30 : decode k_MD_asks 30 = .ok (.ifCond .ne 7, 3) := by decide +kernel
theorem d_MD_asks_33 : decode k_MD_asks 33 = .ok (.iconst 1, 1) := by decide +kernel
theorem d_MD_asks_34 : decode k_MD_asks 34 = .ok (.goto 4, 3) := by decide +kernel
theorem d_MD_asks_37 : decode k_MD_asks 37 = .ok (.iconst 0, 1) := by decide +kernel
theorem d_MD_asks_38 : decode k_MD_asks 38 = .ok (.istore 6, 2) := by decide +kernel
theorem d_MD_asks_40 : decode k_MD_asks 40 = .ok (.aload_n 0, 1) := by decide +kernel
theorem d_MD_asks_41 : decode k_MD_asks 41 = .ok (.iload 6, 2) := by decide +kernel
theorem d_MD_asks_43 : decode k_MD_asks 43 = .ok (.iload 5, 2) := by decide +kernel
theorem d_MD_asks_45 : decode k_MD_asks 45 = .ok (.invokestatic 113, 3) := by decide +kernel
theorem d_MD_asks_48 : decode k_MD_asks 48 = .ok (.ifCond .ne 7, 3) := by decide +kernel
theorem d_MD_asks_51 : decode k_MD_asks 51 = .ok (.iconst 1, 1) := by decide +kernel
theorem d_MD_asks_52 : decode k_MD_asks 52 = .ok (.goto 4, 3) := by decide +kernel
theorem d_MD_asks_55 : decode k_MD_asks 55 = .ok (.iconst 0, 1) := by decide +kernel
theorem d_MD_asks_56 : decode k_MD_asks 56 = .ok (.iconst 0, 1) := by decide +kernel
theorem d_MD_asks_57 : decode k_MD_asks 57 = .ok (.invokevirtual 88, 3) := by decide +kernel
theorem d_MD_asks_60 : decode k_MD_asks 60 = .ok (.ifCond .eq 5, 3) := by decide +kernel
theorem d_MD_asks_63 : decode k_MD_asks 63 = .ok (.iconst 0, 1) := by decide +kernel
theorem d_MD_asks_64 : decode k_MD_asks 64 = .ok (.ireturn, 1) := by decide +kernel
theorem d_MD_asks_65 : decode k_MD_asks 65 = .ok (.aload_n 0, 1) := by decide +kernel
theorem d_MD_asks_66 : decode k_MD_asks 66 = .ok (.iload_n 1, 1) := by decide +kernel
theorem d_MD_asks_67 : decode k_MD_asks 67 = .ok (.iload_n 2, 1) := by decide +kernel
theorem d_MD_asks_68 : decode k_MD_asks 68 = .ok (.iload_n 3, 1) := by decide +kernel
theorem d_MD_asks_69 : decode k_MD_asks 69 = .ok (.iload 4, 2) := by decide +kernel
theorem d_MD_asks_71 : decode k_MD_asks 71 = .ok (.iload 5, 2) := by decide +kernel
theorem d_MD_asks_73 : decode k_MD_asks 73 = .ok (.invokevirtual 147, 3) := by decide +kernel
theorem d_MD_asks_76 : decode k_MD_asks 76 = .ok (.aload_n 0, 1) := by decide +kernel
theorem d_MD_asks_77 : decode k_MD_asks 77 = .ok (.iconst (-1), 1) := by decide +kernel
theorem d_MD_asks_78 : decode k_MD_asks 78 = .ok (.invokevirtual 151, 3) := by decide +kernel
theorem d_MD_asks_81 : decode k_MD_asks 81 = .ok (.istore 7, 2) := by decide +kernel
theorem d_MD_asks_83 : decode k_MD_asks 83 = .ok (.iload 7, 2) := by decide +kernel
theorem d_MD_asks_85 : decode k_MD_asks 85 = .ok (.ifCond .eq 12, 3) := by decide +kernel
theorem d_MD_asks_88 : decode k_MD_asks 88 = .ok (.aload_n 0, 1) := by decide +kernel
theorem d_MD_asks_89 : decode k_MD_asks 89 = .ok (.getfield 154, 3) := by decide +kernel
theorem d_MD_asks_92 : decode k_MD_asks 92 = .ok (.bipush 100, 2) := by decide +kernel
theorem d_MD_asks_94 : decode k_MD_asks 94 = .ok (.if_icmp .ne 6, 3) := by decide +kernel
theorem d_MD_asks_97 : decode k_MD_asks 97 = .ok (.iload 7, 2) := by decide +kernel
theorem d_MD_asks_99 : decode k_MD_asks 99 = .ok (.ireturn, 1) := by decide +kernel
theorem d_MD_asks_100 : decode k_MD_asks 100 = .ok (.aload_n 0, 1) := by decide +kernel
theorem d_MD_asks_101 : decode k_MD_asks 101 = .ok (.getfield 54, 3) := by decide +kernel
theorem d_MD_asks_104 : decode k_MD_asks 104 = .ok (.bipush 6, 2) := by decide +kernel
theorem d_MD_asks_106 : decode k_MD_asks 106 = .ok (.aload_n 0, 1) := by decide +kernel
theorem d_MD_asks_107 : decode k_MD_asks 107 = .ok (.getfield 154, 3) := by decide +kernel
theorem d_MD_asks_110 : decode k_MD_asks 110 = .ok (.imul, 1) := by decide +kernel
theorem d_MD_asks_111 : decode k_MD_asks 111 = .ok (.iload_n 1, 1) := by decide +kernel
theorem d_MD_asks_112 : decode k_MD_asks 112 = .ok (.iastore, 1) := by decide +kernel
theorem d_MD_asks_113 : decode k_MD_asks 113 = .ok (.aload_n 0, 1) := by decide +kernel
theorem d_MD_asks_114 : decode k_MD_asks 114 = .ok (.getfield 54, 3) := by decide +kernel
theorem d_MD_asks_117 : decode k_MD_asks 117 = .ok (.bipush 6, 2) := by decide +kernel
theorem d_MD_asks_119 : decode k_MD_asks 119 = .ok (.aload_n 0, 1) := by decide +kernel
theorem d_MD_asks_120 : decode k_MD_asks 120 = .ok (.getfield 154, 3) := by decide +kernel
theorem d_MD_asks_123 : decode k_MD_asks 123 = .ok (.imul, 1) := by decide +kernel
theorem d_MD_asks_124 : decode k_MD_asks 124 = .ok (.iconst 1, 1) := by decide +kernel
theorem d_MD_asks_125 : decode k_MD_asks 125 = .ok (.iadd, 1) := by decide +kernel
theorem d_MD_asks_126 : decode k_MD_asks 126 = .ok (.iload_n 2, 1) := by decide +kernel
theorem d_MD_asks_127 : decode k_MD_asks 127 = .ok (.iastore, 1) := by decide +kernel
theorem d_MD_asks_128 : decode k_MD_asks 128 = .ok (.aload_n 0, 1) := by decide +kernel
theorem d_MD_asks_129 : decode k_MD_asks 129 = .ok (.getfield 54, 3) := by decide +kernel
theorem d_MD_asks_132 : decode k_MD_asks 132 = .ok (.bipush 6, 2) := by decide +kernel
theorem d_MD_asks_134 : decode k_MD_asks 134 = .ok (.aload_n 0, 1) := by decide +kernel
theorem d_MD_asks_135 : decode k_MD_asks 135 = .ok (.getfield 154, 3) := by decide +kernel
theorem d_MD_asks_138 : decode k_MD_asks 138 = .ok (.imul, 1) := by decide +kernel
theorem d_MD_asks_139 : decode k_MD_asks 139 = .ok (.iconst 2, 1) := by decide +kernel
theorem d_MD_asks_140 : decode k_MD_asks 140 = .ok (.iadd, 1) := by decide +kernel
theorem d_MD_asks_141 : decode k_MD_asks 141 = .ok (.iload_n 3, 1) := by decide +kernel
theorem d_MD_asks_142 : decode k_MD_asks 142 = .ok (.iastore, 1) := by decide +kernel
theorem d_MD_asks_143 : decode k_MD_asks 143 = .ok (.aload_n 0, 1) := by decide +kernel
theorem d_MD_asks_144 : decode k_MD_asks 144 = .ok (.getfield 54, 3) := by decide +kernel
theorem d_MD_asks_147 : decode k_MD_asks 147 = .ok (.bipush 6, 2) := by decide +kernel
theorem d_MD_asks_149 : decode k_MD_asks 149 = .ok (.aload_n 0, 1) := by decide +kernel
theorem d_MD_asks_150 : decode k_MD_asks 150 = .ok (.getfield 154, 3) := by decide +kernel
theorem d_MD_asks_153 : decode k_MD_asks 153 = .ok (.imul, 1) := by decide +kernel
theorem d_MD_asks_154 : decode k_MD_asks 154 = .ok (.iconst 3, 1) := by decide +kernel
theorem d_MD_asks_155 : decode k_MD_asks 155 = .ok (.iadd, 1) := by decide +kernel
theorem d_MD_asks_156 : decode k_MD_asks 156 = .ok (.iload 4, 2) := by decide +kernel
theorem d_MD_asks_158 : decode k_MD_asks 158 = .ok (.iastore, 1) := by decide +kernel
theorem d_MD_asks_159 : decode k_MD_asks 159 = .ok (.aload_n 0, 1) := by decide +kernel
theorem d_MD_asks_160 : decode k_MD_asks 160 = .ok (.getfield 54, 3) := by decide +kernel
theorem d_MD_asks_163 : decode k_MD_asks 163 = .ok (.bipush 6, 2) := by decide +kernel
theorem d_MD_asks_165 : decode k_MD_asks 165 = .ok (.aload_n 0, 1) := by decide +kernel
theorem d_MD_asks_166 : decode k_MD_asks 166 = .ok (.getfield 154, 3) := by decide +kernel
theorem d_MD_asks_169 : decode k_MD_asks 169 = .ok (.imul, 1) := by decide +kernel
theorem d_MD_asks_170 : decode k_MD_asks 170 = .ok (.iconst 4, 1) := by decide +kernel
theorem d_MD_asks_171 : decode k_MD_asks 171 = .ok (.iadd, 1) := by decide +kernel
theorem d_MD_asks_172 : decode k_MD_asks 172 = .ok (.iload 5, 2) := by decide +kernel
theorem d_MD_asks_174 : decode k_MD_asks 174 = .ok (.iastore, 1) := by decide +kernel
theorem d_MD_asks_175 : decode k_MD_asks 175 = .ok (.aload_n 0, 1) := by decide +kernel
theorem d_MD_asks_176 : decode k_MD_asks 176 = .ok (.getfield 54, 3) := by decide +kernel
theorem d_MD_asks_179 : decode k_MD_asks 179 = .ok (.bipush 6, 2) := by decide +kernel
theorem d_MD_asks_181 : decode k_MD_asks 181 = .ok (.aload_n 0, 1) := by decide +kernel
theorem d_MD_asks_182 : decode k_MD_asks 182 = .ok (.getfield 154, 3) := by decide +kernel
theorem d_MD_asks_185 : decode k_MD_asks 185 = .ok (.imul, 1) := by decide +kernel
theorem d_MD_asks_186 : decode k_MD_asks 186 = .ok (.iconst 5, 1) := by decide +kernel
theorem d_MD_asks_187 : decode k_MD_asks 187 = .ok (.iadd, 1) := by decide +kernel
theorem d_MD_asks_188 : decode k_MD_asks 188 = .ok (.iload 7, 2) := by decide +kernel
theorem d_MD_asks_190 : decode k_MD_asks 190 = .ok (.iastore, 1) := by decide +kernel
theorem d_MD_asks_191 : decode k_MD_asks 191 = .ok (.aload_n 0, 1) := by decide +kernel
theorem d_MD_asks_192 : decode k_MD_asks 192 = .ok (.dup, 1) := by decide +kernel
theorem d_MD_asks_193 : decode k_MD_asks 193 = .ok (.getfield 154, 3) := by decide +kernel
theorem d_MD_asks_196 : decode k_MD_asks 196 = .ok (.iconst 1, 1) := by decide +kernel
theorem d_MD_asks_197 : decode k_MD_asks 197 = .ok (.iadd, 1) := by decide +kernel
theorem d_MD_asks_198 : decode k_MD_asks 198 = .ok (.putfield 154, 3) := by decide +kernel
theorem d_MD_asks_201 : decode k_MD_asks 201 = .ok (.iload 7, 2) := by decide +kernel
theorem d_MD_asks_203 : decode k_MD_asks 203 = .ok (.ireturn, 1) := by decide +kernel
theorem d_MD_masked_0 : decode k_MD_masked 0 = .ok (.aload_n 0, 1) := by decide +kernel
theorem d_MD_masked_1 : decode k_MD_masked 1 = .ok (.aload_n 0, 1) := by decide +kernel
theorem d_MD_masked_2 : decode k_MD_masked 2 = .ok (.iload_n 1, 1) := by decide +kernel
theorem d_MD_masked_3 : decode k_MD_masked 3 = .ok (.invokevirtual 106, 3) := by decide +kernel
theorem d_MD_masked_6 : decode k_MD_masked 6 = .ok (.ifCond .eq 10, 3) := by decide +kernel
theorem d_MD_masked_9 : decode k_MD_masked 9 = .ok (.iload_n 2, 1) := by decide +kernel
theorem d_MD_masked_10 : decode k_MD_masked 10 = .ok (.invokestatic 110, 3) := by decide +kernel
theorem d_MD_masked_13 : decode k_MD_masked 13 = .ok (.ifCond .ne 7, 3) := by decide +kernel
theorem d_MD_masked_16 : decode k_MD_masked 16 = .ok (.iconst 1, 1) := by decide +kernel
theorem d_MD_masked_17 : decode k_MD_masked 17 = .ok (.goto 4, 3) := by decide +kernel
theorem d_MD_masked_20 : decode k_MD_masked 20 = .ok (.iconst 0, 1) := by decide +kernel
theorem d_MD_masked_21 : decode k_MD_masked 21 = .ok (.iconst 0, 1) := by decide +kernel
theorem d_MD_masked_22 : decode k_MD_masked 22 = .ok (.iconst 0, 1) := by decide +kernel
theorem d_MD_masked_23 : decode k_MD_masked 23 = .ok (.invokevirtual 88, 3) := by decide +kernel
theorem d_MD_masked_26 : decode k_MD_masked 26 = .ok (.ifCond .eq 5, 3) := by decide +kernel
theorem d_MD_masked_29 : decode k_MD_masked 29 = .ok (.lconst 0, 1) := by decide +kernel
theorem d_MD_masked_30 : decode k_MD_masked 30 = .ok (.lreturn, 1) := by decide +kernel
theorem d_MD_masked_31 : decode k_MD_masked 31 = .ok (.aload_n 0, 1) := by decide +kernel
theorem d_MD_masked_32 : decode k_MD_masked 32 = .ok (.getfield 38, 3) := by decide +kernel
theorem d_MD_masked_35 : decode k_MD_masked 35 = .ok (.bipush 6, 2) := by decide +kernel
theorem d_MD_masked_37 : decode k_MD_masked 37 = .ok (.iload_n 1, 1) := by decide +kernel
theorem d_MD_masked_38 : decode k_MD_masked 38 = .ok (.imul, 1) := by decide +kernel
theorem d_MD_masked_39 : decode k_MD_masked 39 = .ok (.iload_n 2, 1) := by decide +kernel
theorem d_MD_masked_40 : decode k_MD_masked 40 = .ok (.iadd, 1) := by decide +kernel
theorem d_MD_masked_41 : decode k_MD_masked 41 = .ok (.laload, 1) := by decide +kernel
theorem d_MD_masked_42 : decode k_MD_masked 42 = .ok (.aload_n 0, 1) := by decide +kernel
theorem d_MD_masked_43 : decode k_MD_masked 43 = .ok (.getfield 38, 3) := by decide +kernel
theorem d_MD_masked_46 : decode k_MD_masked 46 = .ok (.bipush 6, 2) := by decide +kernel
theorem d_MD_masked_48 : decode k_MD_masked 48 = .ok (.iload_n 1, 1) := by decide +kernel
theorem d_MD_masked_49 : decode k_MD_masked 49 = .ok (.imul, 1) := by decide +kernel
theorem d_MD_masked_50 : decode k_MD_masked 50 = .ok (.iload_n 2, 1) := by decide +kernel
theorem d_MD_masked_51 : decode k_MD_masked 51 = .ok (.iadd, 1) := by decide +kernel
theorem d_MD_masked_52 : decode k_MD_masked 52 = .ok (.laload, 1) := by decide +kernel
theorem d_MD_masked_53 : decode k_MD_masked 53 = .ok (.ldc2_w 157, 3) := by decide +kernel
theorem d_MD_masked_56 : decode k_MD_masked 56 = .ok (.lrem, 1) := by decide +kernel
theorem d_MD_masked_57 : decode k_MD_masked 57 = .ok (.lsub, 1) := by decide +kernel
theorem d_MD_masked_58 : decode k_MD_masked 58 = .ok (.lreturn, 1) := by decide +kernel
theorem d_MD_look_0 : decode k_MD_look 0 = .ok (.aload_n 0, 1) := by decide +kernel
theorem d_MD_look_1 : decode k_MD_look 1 = .ok (.iload_n 1, 1) := by decide +kernel
theorem d_MD_look_2 : decode k_MD_look 2 = .ok (.iconst 0, 1) := by decide +kernel
theorem d_MD_look_3 : decode k_MD_look 3 = .ok (.aload_n 0, 1) := by decide +kernel
theorem d_MD_look_4 : decode k_MD_look 4 = .ok (.getfield 154, 3) := by decide +kernel
theorem d_MD_look_7 : decode k_MD_look 7 = .ok (.iconst 1, 1) := by decide +kernel
theorem d_MD_look_8 : decode k_MD_look 8 = .ok (.isub, 1) := by decide +kernel
theorem d_MD_look_9 : decode k_MD_look 9 = .ok (.invokestatic 73, 3) := by decide +kernel
theorem d_MD_look_12 : decode k_MD_look 12 = .ok (.ifCond .eq 12, 3) := by decide +kernel
theorem d_MD_look_15 : decode k_MD_look 15 = .ok (.iload_n 2, 1) := by decide +kernel
theorem d_MD_look_16 : decode k_MD_look 16 = .ok (.iconst 0, 1) := by decide +kernel
theorem d_MD_look_17 : decode k_MD_look 17 = .ok (.iconst 5, 1) := by decide +kernel
theorem d_MD_look_18 : decode k_MD_look 18 = .ok (.invokestatic 73, 3) := by decide +kernel
theorem d_MD_look_21 : decode k_MD_look 21 = .ok (.ifCond .ne 7, 3) := by decide +kernel
theorem d_MD_look_24 : decode k_MD_look 24 = .ok (.iconst 1, 1) := by decide +kernel
theorem d_MD_look_25 : decode k_MD_look 25 = .ok (.goto 4, 3) := by decide +kernel
theorem d_MD_look_28 : decode k_MD_look 28 = .ok (.iconst 0, 1) := by decide +kernel
theorem d_MD_look_29 : decode k_MD_look 29 = .ok (.iconst 0, 1) := by decide +kernel
theorem d_MD_look_30 : decode k_MD_look 30 = .ok (.iconst 0, 1) := by decide +kernel
theorem d_MD_look_31 : decode k_MD_look 31 = .ok (.invokevirtual 88, 3) := by decide +kernel
theorem d_MD_look_34 : decode k_MD_look 34 = .ok (.ifCond .eq 5, 3) := by decide +kernel
theorem d_MD_look_37 : decode k_MD_look 37 = .ok (.iconst 0, 1) := by decide +kernel
theorem d_MD_look_38 : decode k_MD_look 38 = .ok (.ireturn, 1) := by decide +kernel
theorem d_MD_look_39 : decode k_MD_look 39 = .ok (.aload_n 0, 1) := by decide +kernel
theorem d_MD_look_40 : decode k_MD_look 40 = .ok (.getfield 54, 3) := by decide +kernel
theorem d_MD_look_43 : decode k_MD_look 43 = .ok (.bipush 6, 2) := by decide +kernel
theorem d_MD_look_45 : decode k_MD_look 45 = .ok (.iload_n 1, 1) := by decide +kernel
theorem d_MD_look_46 : decode k_MD_look 46 = .ok (.imul, 1) := by decide +kernel
theorem d_MD_look_47 : decode k_MD_look 47 = .ok (.iload_n 2, 1) := by decide +kernel
theorem d_MD_look_48 : decode k_MD_look 48 = .ok (.iadd, 1) := by decide +kernel
theorem d_MD_look_49 : decode k_MD_look 49 = .ok (.iaload, 1) := by decide +kernel
theorem d_MD_look_50 : decode k_MD_look 50 = .ok (.ireturn, 1) := by decide +kernel
theorem d_MD_looked_0 : decode k_MD_looked 0 = .ok (.aload_n 0, 1) := by decide +kernel
theorem d_MD_looked_1 : decode k_MD_looked 1 = .ok (.aload_n 0, 1) := by decide +kernel
theorem d_MD_looked_2 : decode k_MD_looked 2 = .ok (.iload_n 1, 1) := by decide +kernel
theorem d_MD_looked_3 : decode k_MD_looked 3 = .ok (.invokevirtual 106, 3) := by decide +kernel
theorem d_MD_looked_6 : decode k_MD_looked 6 = .ok (.ifCond .eq 7, 3) := by decide +kernel
theorem d_MD_looked_9 : decode k_MD_looked 9 = .ok (.iload_n 2, 1) := by decide +kernel
theorem d_MD_looked_10 : decode k_MD_looked 10 = .ok (.ifCond .ge 7, 3) := by decide +kernel
theorem d_MD_looked_13 : decode k_MD_looked 13 = .ok (.iconst 1, 1) := by decide +kernel
theorem d_MD_looked_14 : decode k_MD_looked 14 = .ok (.goto 4, 3) := by decide +kernel
theorem d_MD_looked_17 : decode k_MD_looked 17 = .ok (.iconst 0, 1) := by decide +kernel
theorem d_MD_looked_18 : decode k_MD_looked 18 = .ok (.iconst 0, 1) := by decide +kernel
theorem d_MD_looked_19 : decode k_MD_looked 19 = .ok (.iconst 0, 1) := by decide +kernel
theorem d_MD_looked_20 : decode k_MD_looked 20 = .ok (.invokevirtual 88, 3) := by decide +kernel
theorem d_MD_looked_23 : decode k_MD_looked 23 = .ok (.ifCond .eq 5, 3) := by decide +kernel
theorem d_MD_looked_26 : decode k_MD_looked 26 = .ok (.iconst 0, 1) := by decide +kernel
theorem d_MD_looked_27 : decode k_MD_looked 27 = .ok (.ireturn, 1) := by decide +kernel
theorem d_MD_looked_28 : decode k_MD_looked 28 = .ok (.iload_n 2, 1) := by decide +kernel
theorem d_MD_looked_29 : decode k_MD_looked 29 = .ok (.istore_n 3, 1) := by decide +kernel
theorem d_MD_looked_30 : decode k_MD_looked 30 = .ok (.iconst 0, 1) := by decide +kernel
theorem d_MD_looked_31 : decode k_MD_looked 31 = .ok (.istore 4, 2) := by decide +kernel
theorem d_MD_looked_33 : decode k_MD_looked 33 = .ok (.iload 4, 2) := by decide +kernel
theorem d_MD_looked_35 : decode k_MD_looked 35 = .ok (.aload_n 0, 1) := by decide +kernel
theorem d_MD_looked_36 : decode k_MD_looked 36 = .ok (.getfield 70, 3) := by decide +kernel
theorem d_MD_looked_39 : decode k_MD_looked 39 = .ok (.if_icmp .ge 98, 3) := by decide +kernel
theorem d_MD_looked_42 : decode k_MD_looked 42 = .ok (.iconst 0, 1) := by decide +kernel
theorem d_MD_looked_43 : decode k_MD_looked 43 = .ok (.istore 5, 2) := by decide +kernel
theorem d_MD_looked_45 : decode k_MD_looked 45 = .ok (.iconst 0, 1) := by decide +kernel
theorem d_MD_looked_46 : decode k_MD_looked 46 = .ok (.istore 6, 2) := by decide +kernel
theorem d_MD_looked_48 : decode k_MD_looked 48 = .ok (.iload 6, 2) := by decide +kernel
theorem d_MD_looked_50 : decode k_MD_looked 50 = .ok (.aload_n 0, 1) := by decide +kernel
theorem d_MD_looked_51 : decode k_MD_looked 51 = .ok (.getfield 154, 3) := by decide +kernel
theorem d_MD_looked_54 : decode k_MD_looked 54 = .ok (.if_icmp .ge 52, 3) := by decide +kernel
theorem d_MD_looked_57 : decode k_MD_looked 57 = .ok (.iload 5, 2) := by decide +kernel
theorem d_MD_looked_59 : decode k_MD_looked 59 = .ok (.ifCond .ne 34, 3) := by decide +kernel
theorem d_MD_looked_62 : decode k_MD_looked 62 = .ok (.aload_n 0, 1) := by decide +kernel
theorem d_MD_looked_63 : decode k_MD_looked 63 = .ok (.getfield 54, 3) := by decide +kernel
theorem d_MD_looked_66 : decode k_MD_looked 66 = .ok (.bipush 6, 2) := by decide +kernel
theorem d_MD_looked_68 : decode k_MD_looked 68 = .ok (.iload 6, 2) := by decide +kernel
theorem d_MD_looked_70 : decode k_MD_looked 70 = .ok (.imul, 1) := by decide +kernel
theorem d_MD_looked_71 : decode k_MD_looked 71 = .ok (.iaload, 1) := by decide +kernel
theorem d_MD_looked_72 : decode k_MD_looked 72 = .ok (.iload 4, 2) := by decide +kernel
theorem d_MD_looked_74 : decode k_MD_looked 74 = .ok (.if_icmp .ne 23, 3) := by decide +kernel
theorem d_MD_looked_77 : decode k_MD_looked 77 = .ok (.aload_n 0, 1) := by decide +kernel
theorem d_MD_looked_78 : decode k_MD_looked 78 = .ok (.getfield 54, 3) := by decide +kernel
theorem d_MD_looked_81 : decode k_MD_looked 81 = .ok (.bipush 6, 2) := by decide +kernel
theorem d_MD_looked_83 : decode k_MD_looked 83 = .ok (.iload 6, 2) := by decide +kernel
theorem d_MD_looked_85 : decode k_MD_looked 85 = .ok (.imul, 1) := by decide +kernel
theorem d_MD_looked_86 : decode k_MD_looked 86 = .ok (.iconst 1, 1) := by decide +kernel
theorem d_MD_looked_87 : decode k_MD_looked 87 = .ok (.iadd, 1) := by decide +kernel
theorem d_MD_looked_88 : decode k_MD_looked 88 = .ok (.iaload, 1) := by decide +kernel
theorem d_MD_looked_89 : decode k_MD_looked 89 = .ok (.iload_n 1, 1) := by decide +kernel
theorem d_MD_looked_90 : decode k_MD_looked 90 = .ok (.if_icmp .ne 7, 3) := by decide +kernel
theorem d_MD_looked_93 : decode k_MD_looked 93 = .ok (.iconst 1, 1) := by decide +kernel
theorem d_MD_looked_94 : decode k_MD_looked 94 = .ok (.goto 4, 3) := by decide +kernel
theorem d_MD_looked_97 : decode k_MD_looked 97 = .ok (.iconst 0, 1) := by decide +kernel
theorem d_MD_looked_98 : decode k_MD_looked 98 = .ok (.istore 5, 2) := by decide +kernel
theorem d_MD_looked_100 : decode k_MD_looked 100 = .ok (.iinc 6 1, 3) := by decide +kernel
theorem d_MD_looked_103 : decode k_MD_looked 103 = .ok (.goto (-55), 3) := by decide +kernel
theorem d_MD_looked_106 : decode k_MD_looked 106 = .ok (.iload 5, 2) := by decide +kernel
theorem d_MD_looked_108 : decode k_MD_looked 108 = .ok (.ifCond .eq 10, 3) := by decide +kernel
theorem d_MD_looked_111 : decode k_MD_looked 111 = .ok (.iload_n 3, 1) := by decide +kernel
theorem d_MD_looked_112 : decode k_MD_looked 112 = .ok (.ifCond .ne 6, 3) := by decide +kernel
theorem d_MD_looked_115 : decode k_MD_looked 115 = .ok (.iload 4, 2) := by decide +kernel
theorem d_MD_looked_117 : decode k_MD_looked 117 = .ok (.ireturn, 1) := by decide +kernel
theorem d_MD_looked_118 : decode k_MD_looked 118 = .ok (.iload_n 3, 1) := by decide +kernel
theorem d_MD_looked_119 : decode k_MD_looked 119 = .ok (.iload 5, 2) := by decide +kernel
theorem d_MD_looked_121 : decode k_MD_looked 121 = .ok (.ifCond .eq 7, 3) := by decide +kernel
theorem d_MD_looked_124 : decode k_MD_looked 124 = .ok (.iconst 1, 1) := by decide +kernel
theorem d_MD_looked_125 : decode k_MD_looked 125 = .ok (.goto 4, 3) := by decide +kernel
theorem d_MD_looked_128 : decode k_MD_looked 128 = .ok (.iconst 0, 1) := by decide +kernel
theorem d_MD_looked_129 : decode k_MD_looked 129 = .ok (.isub, 1) := by decide +kernel
theorem d_MD_looked_130 : decode k_MD_looked 130 = .ok (.istore_n 3, 1) := by decide +kernel
theorem d_MD_looked_131 : decode k_MD_looked 131 = .ok (.iinc 4 1, 3) := by decide +kernel
theorem d_MD_looked_134 : decode k_MD_looked 134 = .ok (.goto (-101), 3) := by decide +kernel
theorem d_MD_looked_137 : decode k_MD_looked 137 = .ok (.iconst (-1), 1) := by decide +kernel
theorem d_MD_looked_138 : decode k_MD_looked 138 = .ok (.ireturn, 1) := by decide +kernel
theorem d_MD_isWhole_0 : decode k_MD_isWhole 0 = .ok (.iconst 1, 1) := by decide +kernel
theorem d_MD_isWhole_1 : decode k_MD_isWhole 1 = .ok (.istore 4, 2) := by decide +kernel
theorem d_MD_isWhole_3 : decode k_MD_isWhole 3 = .ok (.iconst 0, 1) := by decide +kernel
theorem d_MD_isWhole_4 : decode k_MD_isWhole 4 = .ok (.istore 5, 2) := by decide +kernel
theorem d_MD_isWhole_6 : decode k_MD_isWhole 6 = .ok (.iload 5, 2) := by decide +kernel
theorem d_MD_isWhole_8 : decode k_MD_isWhole 8 = .ok (.bipush 6, 2) := by decide +kernel
theorem d_MD_isWhole_10 : decode k_MD_isWhole 10 = .ok (.if_icmp .ge 39, 3) := by decide +kernel
theorem d_MD_isWhole_13 : decode k_MD_isWhole 13 = .ok (.aload_n 0, 1) := by decide +kernel
theorem d_MD_isWhole_14 : decode k_MD_isWhole 14 = .ok (.iload_n 1, 1) := by decide +kernel
theorem d_MD_isWhole_15 : decode k_MD_isWhole 15 = .ok (.iload_n 2, 1) := by decide +kernel
theorem d_MD_isWhole_16 : decode k_MD_isWhole 16 = .ok (.iload 5, 2) := by decide +kernel
theorem d_MD_isWhole_18 : decode k_MD_isWhole 18 = .ok (.iconst 3, 1) := by decide +kernel
theorem d_MD_isWhole_19 : decode k_MD_isWhole 19 = .ok (.iload_n 3, 1) := by decide +kernel
theorem d_MD_isWhole_20 : decode k_MD_isWhole 20 = .ok (.invokevirtual 147, 3) := by decide +kernel
theorem d_MD_isWhole_23 : decode k_MD_isWhole 23 = .ok (.iload 4, 2) := by decide +kernel
theorem d_MD_isWhole_25 : decode k_MD_isWhole 25 = .ok (.ifCond .eq 15, 3) := by decide +kernel
theorem d_MD_isWhole_28 : decode k_MD_isWhole 28 = .ok (.aload_n 0, 1) := by decide +kernel
theorem d_MD_isWhole_29 : decode k_MD_isWhole 29 = .ok (.iconst (-1), 1) := by decide +kernel
theorem d_MD_isWhole_30 : decode k_MD_isWhole 30 = .ok (.invokevirtual 151, 3) := by decide +kernel
theorem d_MD_isWhole_33 : decode k_MD_isWhole 33 = .ok (.ifCond .eq 7, 3) := by decide +kernel
theorem d_MD_isWhole_36 : decode k_MD_isWhole 36 = .ok (.iconst 1, 1) := by decide +kernel
theorem d_MD_isWhole_37 : decode k_MD_isWhole 37 = .ok (.goto 4, 3) := by decide +kernel
theorem d_MD_isWhole_40 : decode k_MD_isWhole 40 = .ok (.iconst 0, 1) := by decide +kernel
theorem d_MD_isWhole_41 : decode k_MD_isWhole 41 = .ok (.istore 4, 2) := by decide +kernel
theorem d_MD_isWhole_43 : decode k_MD_isWhole 43 = .ok (.iinc 5 1, 3) := by decide +kernel
theorem d_MD_isWhole_46 : decode k_MD_isWhole 46 = .ok (.goto (-40), 3) := by decide +kernel
theorem d_MD_isWhole_49 : decode k_MD_isWhole 49 = .ok (.iload 4, 2) := by decide +kernel
theorem d_MD_isWhole_51 : decode k_MD_isWhole 51 = .ok (.ireturn, 1) := by decide +kernel
theorem d_MD_export_0 : decode k_MD_export 0 = .ok (.aload_n 0, 1) := by decide +kernel
theorem d_MD_export_1 : decode k_MD_export 1 = .ok (.aload_n 0, 1) := by decide +kernel
theorem d_MD_export_2 : decode k_MD_export 2 = .ok (.iload_n 1, 1) := by decide +kernel
theorem d_MD_export_3 : decode k_MD_export 3 = .ok (.invokevirtual 116, 3) := by decide +kernel
theorem d_MD_export_6 : decode k_MD_export 6 = .ok (.ifCond .ne 7, 3) := by decide +kernel
theorem d_MD_export_9 : decode k_MD_export 9 = .ok (.iconst 1, 1) := by decide +kernel
theorem d_MD_export_10 : decode k_MD_export 10 = .ok (.goto 4, 3) := by decide +kernel
theorem d_MD_export_13 : decode k_MD_export 13 = .ok (.iconst 0, 1) := by decide +kernel
theorem d_MD_export_14 : decode k_MD_export 14 = .ok (.iload_n 2, 1) := by decide +kernel
theorem d_MD_export_15 : decode k_MD_export 15 = .ok (.invokestatic 113, 3) := by decide +kernel
theorem d_MD_export_18 : decode k_MD_export 18 = .ok (.ifCond .ne 7, 3) := by decide +kernel
theorem d_MD_export_21 : decode k_MD_export 21 = .ok (.iconst 1, 1) := by decide +kernel
theorem d_MD_export_22 : decode k_MD_export 22 = .ok (.goto 4, 3) := by decide +kernel
theorem d_MD_export_25 : decode k_MD_export 25 = .ok (.iconst 0, 1) := by decide +kernel
theorem d_MD_export_26 : decode k_MD_export 26 = .ok (.iconst 0, 1) := by decide +kernel
theorem d_MD_export_27 : decode k_MD_export 27 = .ok (.invokevirtual 88, 3) := by decide +kernel
theorem d_MD_export_30 : decode k_MD_export 30 = .ok (.ifCond .eq 5, 3) := by decide +kernel
theorem d_MD_export_33 : decode k_MD_export 33 = .ok (.iconst 0, 1) := by decide +kernel
theorem d_MD_export_34 : decode k_MD_export 34 = .ok (.ireturn, 1) := by decide +kernel
theorem d_MD_export_35 : decode k_MD_export 35 = .ok (.aload_n 0, 1) := by decide +kernel
theorem d_MD_export_36 : decode k_MD_export 36 = .ok (.iconst 0, 1) := by decide +kernel
theorem d_MD_export_37 : decode k_MD_export 37 = .ok (.putfield 159, 3) := by decide +kernel
theorem d_MD_export_40 : decode k_MD_export 40 = .ok (.iconst 0, 1) := by decide +kernel
theorem d_MD_export_41 : decode k_MD_export 41 = .ok (.istore_n 3, 1) := by decide +kernel
theorem d_MD_export_42 : decode k_MD_export 42 = .ok (.iload_n 3, 1) := by decide +kernel
theorem d_MD_export_43 : decode k_MD_export 43 = .ok (.aload_n 0, 1) := by decide +kernel
theorem d_MD_export_44 : decode k_MD_export 44 = .ok (.getfield 77, 3) := by decide +kernel
theorem d_MD_export_47 : decode k_MD_export 47 = .ok (.if_icmp .ge 42, 3) := by decide +kernel
theorem d_MD_export_50 : decode k_MD_export 50 = .ok (.aload_n 0, 1) := by decide +kernel
theorem d_MD_export_51 : decode k_MD_export 51 = .ok (.iload_n 1, 1) := by decide +kernel
theorem d_MD_export_52 : decode k_MD_export 52 = .ok (.iload_n 3, 1) := by decide +kernel
theorem d_MD_export_53 : decode k_MD_export 53 = .ok (.iload_n 2, 1) := by decide +kernel
theorem d_MD_export_54 : decode k_MD_export 54 = .ok (.invokevirtual 162, 3) := by decide +kernel
theorem d_MD_export_57 : decode k_MD_export 57 = .ok (.ifCond .ne 6, 3) := by decide +kernel
theorem d_MD_export_60 : decode k_MD_export 60 = .ok (.goto 23, 3) := by decide +kernel
theorem d_MD_export_63 : decode k_MD_export 63 = .ok (.aload_n 0, 1) := by decide +kernel
theorem d_MD_export_64 : decode k_MD_export 64 = .ok (.getfield 57, 3) := by decide +kernel
theorem d_MD_export_67 : decode k_MD_export 67 = .ok (.aload_n 0, 1) := by decide +kernel
theorem d_MD_export_68 : decode k_MD_export 68 = .ok (.getfield 159, 3) := by decide +kernel
theorem d_MD_export_71 : decode k_MD_export 71 = .ok (.iload_n 3, 1) := by decide +kernel
theorem d_MD_export_72 : decode k_MD_export 72 = .ok (.iastore, 1) := by decide +kernel
theorem d_MD_export_73 : decode k_MD_export 73 = .ok (.aload_n 0, 1) := by decide +kernel
theorem d_MD_export_74 : decode k_MD_export 74 = .ok (.dup, 1) := by decide +kernel
theorem d_MD_export_75 : decode k_MD_export 75 = .ok (.getfield 159, 3) := by decide +kernel
theorem d_MD_export_78 : decode k_MD_export 78 = .ok (.iconst 1, 1) := by decide +kernel
theorem d_MD_export_79 : decode k_MD_export 79 = .ok (.iadd, 1) := by decide +kernel
theorem d_MD_export_80 : decode k_MD_export 80 = .ok (.putfield 159, 3) := by decide +kernel
theorem d_MD_export_83 : decode k_MD_export 83 = .ok (.iinc 3 1, 3) := by decide +kernel
theorem d_MD_export_86 : decode k_MD_export 86 = .ok (.goto (-44), 3) := by decide +kernel
theorem d_MD_export_89 : decode k_MD_export 89 = .ok (.aload_n 0, 1) := by decide +kernel
theorem d_MD_export_90 : decode k_MD_export 90 = .ok (.getfield 159, 3) := by decide +kernel
theorem d_MD_export_93 : decode k_MD_export 93 = .ok (.ireturn, 1) := by decide +kernel
theorem d_MD_exported_0 : decode k_MD_exported 0 = .ok (.aload_n 0, 1) := by decide +kernel
theorem d_MD_exported_1 : decode k_MD_exported 1 = .ok (.iload_n 1, 1) := by decide +kernel
theorem d_MD_exported_2 : decode k_MD_exported 2 = .ok (.iconst 0, 1) := by decide +kernel
theorem d_MD_exported_3 : decode k_MD_exported 3 = .ok (.aload_n 0, 1) := by decide +kernel
theorem d_MD_exported_4 : decode k_MD_exported 4 = .ok (.getfield 159, 3) := by decide +kernel
theorem d_MD_exported_7 : decode k_MD_exported 7 = .ok (.iconst 1, 1) := by decide +kernel
theorem d_MD_exported_8 : decode k_MD_exported 8 = .ok (.isub, 1) := by decide +kernel
theorem d_MD_exported_9 : decode k_MD_exported 9 = .ok (.invokestatic 73, 3) := by decide +kernel
theorem d_MD_exported_12 : decode k_MD_exported 12 = .ok (.ifCond .ne 7, 3) := by decide +kernel
theorem d_MD_exported_15 : decode k_MD_exported 15 = .ok (.iconst 1, 1) := by decide +kernel
theorem d_MD_exported_16 : decode k_MD_exported 16 = .ok (.goto 4, 3) := by decide +kernel
theorem d_MD_exported_19 : decode k_MD_exported 19 = .ok (.iconst 0, 1) := by decide +kernel
theorem d_MD_exported_20 : decode k_MD_exported 20 = .ok (.iconst 0, 1) := by decide +kernel
theorem d_MD_exported_21 : decode k_MD_exported 21 = .ok (.iconst 0, 1) := by decide +kernel
theorem d_MD_exported_22 : decode k_MD_exported 22 = .ok (.invokevirtual 88, 3) := by decide +kernel
theorem d_MD_exported_25 : decode k_MD_exported 25 = .ok (.ifCond .eq 5, 3) := by decide +kernel
theorem d_MD_exported_28 : decode k_MD_exported 28 = .ok (.iconst 0, 1) := by decide +kernel
theorem d_MD_exported_29 : decode k_MD_exported 29 = .ok (.ireturn, 1) := by decide +kernel
theorem d_MD_exported_30 : decode k_MD_exported 30 = .ok (.aload_n 0, 1) := by decide +kernel
theorem d_MD_exported_31 : decode k_MD_exported 31 = .ok (.getfield 57, 3) := by decide +kernel
theorem d_MD_exported_34 : decode k_MD_exported 34 = .ok (.iload_n 1, 1) := by decide +kernel
theorem d_MD_exported_35 : decode k_MD_exported 35 = .ok (.iaload, 1) := by decide +kernel
theorem d_MD_exported_36 : decode k_MD_exported 36 = .ok (.ireturn, 1) := by decide +kernel
theorem d_MD_request_0 : decode k_MD_request 0 = .ok (.aload_n 0, 1) := by decide +kernel
theorem d_MD_request_1 : decode k_MD_request 1 = .ok (.aload_n 0, 1) := by decide +kernel
theorem d_MD_request_2 : decode k_MD_request 2 = .ok (.iload_n 1, 1) := by decide +kernel
theorem d_MD_request_3 : decode k_MD_request 3 = .ok (.invokevirtual 116, 3) := by decide +kernel
theorem d_MD_request_6 : decode k_MD_request 6 = .ok (.ifCond .eq 11, 3) := by decide +kernel
theorem d_MD_request_9 : decode k_MD_request 9 = .ok (.aload_n 0, 1) := by decide +kernel
theorem d_MD_request_10 : decode k_MD_request 10 = .ok (.iload_n 2, 1) := by decide +kernel
theorem d_MD_request_11 : decode k_MD_request 11 = .ok (.invokevirtual 106, 3) := by decide +kernel
theorem d_MD_request_14 : decode k_MD_request 14 = .ok (.ifCond .ne 7, 3) := by decide +kernel
theorem d_MD_request_17 : decode k_MD_request 17 = .ok (.iconst 1, 1) := by decide +kernel
theorem d_MD_request_18 : decode k_MD_request 18 = .ok (.goto 4, 3) := by decide +kernel
theorem d_MD_request_21 : decode k_MD_request 21 = .ok (.iconst 0, 1) := by decide +kernel
theorem d_MD_request_22 : decode k_MD_request 22 = .ok (.iload_n 3, 1) := by decide +kernel
theorem d_MD_request_23 : decode k_MD_request 23 = .ok (.invokestatic 113, 3) := by decide +kernel
theorem d_MD_request_26 : decode k_MD_request 26 = .ok (.ifCond .ne 7, 3) := by decide +kernel
theorem d_MD_request_29 : decode k_MD_request 29 = .ok (.iconst 1, 1) := by decide +kernel
theorem d_MD_request_30 : decode k_MD_request 30 = .ok (.goto 4, 3) := by decide +kernel
theorem d_MD_request_33 : decode k_MD_request 33 = .ok (.iconst 0, 1) := by decide +kernel
theorem d_MD_request_34 : decode k_MD_request 34 = .ok (.aload_n 0, 1) := by decide +kernel
theorem d_MD_request_35 : decode k_MD_request 35 = .ok (.getfield 165, 3) := by decide +kernel
theorem d_MD_request_38 : decode k_MD_request 38 = .ok (.bipush 60, 2) := by decide +kernel
theorem d_MD_request_40 : decode k_MD_request 40 = .ok (.if_icmp .ne 7, 3) := by decide +kernel
theorem d_MD_request_43 : decode k_MD_request 43 = .ok (.iconst 1, 1) := by decide +kernel
theorem d_MD_request_44 : decode k_MD_request 44 = .ok (.goto 4, 3) := by decide +kernel
theorem d_MD_request_47 : decode k_MD_request 47 = .ok (.iconst 0, 1) := by decide +kernel
theorem d_MD_request_48 : decode k_MD_request 48 = .ok (.invokevirtual 88, 3) := by decide +kernel
theorem d_MD_request_51 : decode k_MD_request 51 = .ok (.ifCond .eq 5, 3) := by decide +kernel
theorem d_MD_request_54 : decode k_MD_request 54 = .ok (.iconst 0, 1) := by decide +kernel
theorem d_MD_request_55 : decode k_MD_request 55 = .ok (.ireturn, 1) := by decide +kernel
theorem d_MD_request_56 : decode k_MD_request 56 = .ok (.iconst 1, 1) := by decide +kernel
theorem d_MD_request_57 : decode k_MD_request 57 = .ok (.istore 4, 2) := by decide +kernel
theorem d_MD_request_59 : decode k_MD_request 59 = .ok (.iconst 0, 1) := by decide +kernel
theorem d_MD_request_60 : decode k_MD_request 60 = .ok (.istore 5, 2) := by decide +kernel
theorem d_MD_request_62 : decode k_MD_request 62 = .ok (.iload 5, 2) := by decide +kernel
theorem d_MD_request_64 : decode k_MD_request 64 = .ok (.aload_n 0, 1) := by decide +kernel
theorem d_MD_request_65 : decode k_MD_request 65 = .ok (.getfield 165, 3) := by decide +kernel
theorem d_MD_request_68 : decode k_MD_request 68 = .ok (.if_icmp .ge 48, 3) := by decide +kernel
theorem d_MD_request_71 : decode k_MD_request 71 = .ok (.iload 4, 2) := by decide +kernel
theorem d_MD_request_73 : decode k_MD_request 73 = .ok (.aload_n 0, 1) := by decide +kernel
theorem d_MD_request_74 : decode k_MD_request 74 = .ok (.getfield 60, 3) := by decide +kernel
theorem d_MD_request_77 : decode k_MD_request 77 = .ok (.iload 5, 2) := by decide +kernel
theorem d_MD_request_79 : decode k_MD_request 79 = .ok (.iaload, 1) := by decide +kernel
theorem d_MD_request_80 : decode k_MD_request 80 = .ok (.iload_n 1, 1) := by decide +kernel
theorem d_MD_request_81 : decode k_MD_request 81 = .ok (.if_icmp .ne 25, 3) := by decide +kernel
theorem d_MD_request_84 : decode k_MD_request 84 = .ok (.aload_n 0, 1) := by decide +kernel
theorem d_MD_request_85 : decode k_MD_request 85 = .ok (.getfield 63, 3) := by decide +kernel
theorem d_MD_request_88 : decode k_MD_request 88 = .ok (.iload 5, 2) := by decide +kernel
theorem d_MD_request_90 : decode k_MD_request 90 = .ok (.iaload, 1) := by decide +kernel
theorem d_MD_request_91 : decode k_MD_request 91 = .ok (.iload_n 3, 1) := by decide +kernel
theorem d_MD_request_92 : decode k_MD_request 92 = .ok (.bipush 29, 2) := by decide +kernel
theorem d_MD_request_94 : decode k_MD_request 94 = .ok (.isub, 1) := by decide +kernel
theorem d_MD_request_95 : decode k_MD_request 95 = .ok (.iload_n 3, 1) := by decide +kernel
theorem d_MD_request_96 : decode k_MD_request 96 = .ok (.invokestatic 73, 3) := by decide +kernel
theorem d_MD_request_99 : decode k_MD_request 99 = .ok (.ifCond .eq 7, 3) := by decide +kernel
theorem d_MD_request_102 : decode k_MD_request 102 = .ok (.iconst 1, 1) := by decide +kernel
theorem d_MD_request_103 : decode k_MD_request 103 = .ok (.goto 4, 3) := by decide +kernel
theorem d_MD_request_106 : decode k_MD_request 106 = .ok (.iconst 0, 1) := by decide +kernel
theorem d_MD_request_107 : decode k_MD_request 107 = .ok (.iadd, 1) := by decide +kernel
theorem d_MD_request_108 : decode k_MD_request 108 = .ok (.istore 4, 2) := by decide +kernel
theorem d_MD_request_110 : decode k_MD_request 110 = .ok (.iinc 5 1, 3) := by decide +kernel
theorem d_MD_request_113 : decode k_MD_request 113 = .ok (.goto (-51), 3) := by decide +kernel
theorem d_MD_request_116 : decode k_MD_request 116 = .ok (.iload 4, 2) := by decide +kernel
theorem d_MD_request_118 : decode k_MD_request 118 = .ok (.aload_n 0, 1) := by decide +kernel
theorem d_MD_request_119 : decode k_MD_request 119 = .ok (.getfield 26, 3) := by decide +kernel
theorem d_MD_request_122 : decode k_MD_request 122 = .ok (.iload_n 1, 1) := by decide +kernel
theorem d_MD_request_123 : decode k_MD_request 123 = .ok (.iaload, 1) := by decide +kernel
theorem d_MD_request_124 : decode k_MD_request 124 = .ok (.if_icmp .le 5, 3) := by decide +kernel
theorem d_MD_request_127 : decode k_MD_request 127 = .ok (.iconst (-1), 1) := by decide +kernel
theorem d_MD_request_128 : decode k_MD_request 128 = .ok (.ireturn, 1) := by decide +kernel
theorem d_MD_request_129 : decode k_MD_request 129 = .ok (.aload_n 0, 1) := by decide +kernel
theorem d_MD_request_130 : decode k_MD_request 130 = .ok (.getfield 60, 3) := by decide +kernel
theorem d_MD_request_133 : decode k_MD_request 133 = .ok (.aload_n 0, 1) := by decide +kernel
theorem d_MD_request_134 : decode k_MD_request 134 = .ok (.getfield 165, 3) := by decide +kernel
theorem d_MD_request_137 : decode k_MD_request 137 = .ok (.iload_n 1, 1) := by decide +kernel
theorem d_MD_request_138 : decode k_MD_request 138 = .ok (.iastore, 1) := by decide +kernel
theorem d_MD_request_139 : decode k_MD_request 139 = .ok (.aload_n 0, 1) := by decide +kernel
theorem d_MD_request_140 : decode k_MD_request 140 = .ok (.getfield 63, 3) := by decide +kernel
theorem d_MD_request_143 : decode k_MD_request 143 = .ok (.aload_n 0, 1) := by decide +kernel
theorem d_MD_request_144 : decode k_MD_request 144 = .ok (.getfield 165, 3) := by decide +kernel
theorem d_MD_request_147 : decode k_MD_request 147 = .ok (.iload_n 3, 1) := by decide +kernel
theorem d_MD_request_148 : decode k_MD_request 148 = .ok (.iastore, 1) := by decide +kernel
theorem d_MD_request_149 : decode k_MD_request 149 = .ok (.aload_n 0, 1) := by decide +kernel
theorem d_MD_request_150 : decode k_MD_request 150 = .ok (.dup, 1) := by decide +kernel
theorem d_MD_request_151 : decode k_MD_request 151 = .ok (.getfield 165, 3) := by decide +kernel
theorem d_MD_request_154 : decode k_MD_request 154 = .ok (.iconst 1, 1) := by decide +kernel
theorem d_MD_request_155 : decode k_MD_request 155 = .ok (.iadd, 1) := by decide +kernel
theorem d_MD_request_156 : decode k_MD_request 156 = .ok (.putfield 165, 3) := by decide +kernel
theorem d_MD_request_159 : decode k_MD_request 159 = .ok (.iload 4, 2) := by decide +kernel
theorem d_MD_request_161 : decode k_MD_request 161 = .ok (.ireturn, 1) := by decide +kernel
theorem d_MD_limit_0 : decode k_MD_limit 0 = .ok (.aload_n 0, 1) := by decide +kernel
theorem d_MD_limit_1 : decode k_MD_limit 1 = .ok (.aload_n 0, 1) := by decide +kernel
theorem d_MD_limit_2 : decode k_MD_limit 2 = .ok (.iload_n 1, 1) := by decide +kernel
theorem d_MD_limit_3 : decode k_MD_limit 3 = .ok (.invokevirtual 116, 3) := by decide +kernel
theorem d_MD_limit_6 : decode k_MD_limit 6 = .ok (.ifCond .ne 7, 3) := by decide +kernel
theorem d_MD_limit_9 : decode k_MD_limit 9 = .ok (.iconst 1, 1) := by decide +kernel
theorem d_MD_limit_10 : decode k_MD_limit 10 = .ok (.goto 4, 3) := by decide +kernel
theorem d_MD_limit_13 : decode k_MD_limit 13 = .ok (.iconst 0, 1) := by decide +kernel
theorem d_MD_limit_14 : decode k_MD_limit 14 = .ok (.iload_n 2, 1) := by decide +kernel
theorem d_MD_limit_15 : decode k_MD_limit 15 = .ok (.iconst 0, 1) := by decide +kernel
theorem d_MD_limit_16 : decode k_MD_limit 16 = .ok (.bipush 60, 2) := by decide +kernel
theorem d_MD_limit_18 : decode k_MD_limit 18 = .ok (.invokestatic 73, 3) := by decide +kernel
theorem d_MD_limit_21 : decode k_MD_limit 21 = .ok (.ifCond .ne 7, 3) := by decide +kernel
theorem d_MD_limit_24 : decode k_MD_limit 24 = .ok (.iconst 1, 1) := by decide +kernel
theorem d_MD_limit_25 : decode k_MD_limit 25 = .ok (.goto 4, 3) := by decide +kernel
theorem d_MD_limit_28 : decode k_MD_limit 28 = .ok (.iconst 0, 1) := by decide +kernel
theorem d_MD_limit_29 : decode k_MD_limit 29 = .ok (.iconst 0, 1) := by decide +kernel
theorem d_MD_limit_30 : decode k_MD_limit 30 = .ok (.invokevirtual 88, 3) := by decide +kernel
theorem d_MD_limit_33 : decode k_MD_limit 33 = .ok (.ifCond .eq 5, 3) := by decide +kernel
theorem d_MD_limit_36 : decode k_MD_limit 36 = .ok (.iconst 0, 1) := by decide +kernel
theorem d_MD_limit_37 : decode k_MD_limit 37 = .ok (.ireturn, 1) := by decide +kernel
theorem d_MD_limit_38 : decode k_MD_limit 38 = .ok (.aload_n 0, 1) := by decide +kernel
theorem d_MD_limit_39 : decode k_MD_limit 39 = .ok (.getfield 26, 3) := by decide +kernel
theorem d_MD_limit_42 : decode k_MD_limit 42 = .ok (.iload_n 1, 1) := by decide +kernel
theorem d_MD_limit_43 : decode k_MD_limit 43 = .ok (.iaload, 1) := by decide +kernel
theorem d_MD_limit_44 : decode k_MD_limit 44 = .ok (.istore_n 3, 1) := by decide +kernel
theorem d_MD_limit_45 : decode k_MD_limit 45 = .ok (.aload_n 0, 1) := by decide +kernel
theorem d_MD_limit_46 : decode k_MD_limit 46 = .ok (.getfield 26, 3) := by decide +kernel
theorem d_MD_limit_49 : decode k_MD_limit 49 = .ok (.iload_n 1, 1) := by decide +kernel
theorem d_MD_limit_50 : decode k_MD_limit 50 = .ok (.iload_n 2, 1) := by decide +kernel
theorem d_MD_limit_51 : decode k_MD_limit 51 = .ok (.iastore, 1) := by decide +kernel
theorem d_MD_limit_52 : decode k_MD_limit 52 = .ok (.iload_n 3, 1) := by decide +kernel
theorem d_MD_limit_53 : decode k_MD_limit 53 = .ok (.ireturn, 1) := by decide +kernel
theorem d_MD_changes_0 : decode k_MD_changes 0 = .ok (.iconst 0, 1) := by decide +kernel
theorem d_MD_changes_1 : decode k_MD_changes 1 = .ok (.istore 5, 2) := by decide +kernel
theorem d_MD_changes_3 : decode k_MD_changes 3 = .ok (.iconst 0, 1) := by decide +kernel
theorem d_MD_changes_4 : decode k_MD_changes 4 = .ok (.istore 6, 2) := by decide +kernel
theorem d_MD_changes_6 : decode k_MD_changes 6 = .ok (.iload 6, 2) := by decide +kernel
theorem d_MD_changes_8 : decode k_MD_changes 8 = .ok (.bipush 24, 2) := by decide +kernel
theorem d_MD_changes_10 : decode k_MD_changes 10 = .ok (.if_icmp .ge 58, 3) := by decide +kernel
theorem d_MD_changes_13 : decode k_MD_changes 13 = .ok (.iload 5, 2) := by decide +kernel
theorem d_MD_changes_15 : decode k_MD_changes 15 = .ok (.ifCond .ne 53, 3) := by decide +kernel
theorem d_MD_changes_18 : decode k_MD_changes 18 = .ok (.aload_n 0, 1) := by decide +kernel
theorem d_MD_changes_19 : decode k_MD_changes 19 = .ok (.iload_n 2, 1) := by decide +kernel
theorem d_MD_changes_20 : decode k_MD_changes 20 = .ok (.iload_n 3, 1) := by decide +kernel
theorem d_MD_changes_21 : decode k_MD_changes 21 = .ok (.iload 6, 2) := by decide +kernel
theorem d_MD_changes_23 : decode k_MD_changes 23 = .ok (.iconst 4, 1) := by decide +kernel
theorem d_MD_changes_24 : decode k_MD_changes 24 = .ok (.idiv, 1) := by decide +kernel
theorem d_MD_changes_25 : decode k_MD_changes 25 = .ok (.iload 6, 2) := by decide +kernel
theorem d_MD_changes_27 : decode k_MD_changes 27 = .ok (.iconst 4, 1) := by decide +kernel
theorem d_MD_changes_28 : decode k_MD_changes 28 = .ok (.irem, 1) := by decide +kernel
theorem d_MD_changes_29 : decode k_MD_changes 29 = .ok (.iload 4, 2) := by decide +kernel
theorem d_MD_changes_31 : decode k_MD_changes 31 = .ok (.invokevirtual 147, 3) := by decide +kernel
theorem d_MD_changes_34 : decode k_MD_changes 34 = .ok (.aload_n 0, 1) := by decide +kernel
theorem d_MD_changes_35 : decode k_MD_changes 35 = .ok (.iload_n 1, 1) := by decide +kernel
theorem d_MD_changes_36 : decode k_MD_changes 36 = .ok (.invokevirtual 144, 3) := by decide +kernel
theorem d_MD_changes_39 : decode k_MD_changes 39 = .ok (.ifCond .eq 20, 3) := by decide +kernel
theorem d_MD_changes_42 : decode k_MD_changes 42 = .ok (.aload_n 0, 1) := by decide +kernel
theorem d_MD_changes_43 : decode k_MD_changes 43 = .ok (.iconst (-1), 1) := by decide +kernel
theorem d_MD_changes_44 : decode k_MD_changes 44 = .ok (.invokevirtual 151, 3) := by decide +kernel
theorem d_MD_changes_47 : decode k_MD_changes 47 = .ok (.aload_n 0, 1) := by decide +kernel
theorem d_MD_changes_48 : decode k_MD_changes 48 = .ok (.iload_n 1, 1) := by decide +kernel
theorem d_MD_changes_49 : decode k_MD_changes 49 = .ok (.invokevirtual 151, 3) := by decide +kernel
theorem d_MD_changes_52 : decode k_MD_changes 52 = .ok (.if_icmp .eq 7, 3) := by decide +kernel
theorem d_MD_changes_55 : decode k_MD_changes 55 = .ok (.iconst 1, 1) := by decide +kernel
theorem d_MD_changes_56 : decode k_MD_changes 56 = .ok (.goto 4, 3) := by decide +kernel
theorem d_MD_changes_59 : decode k_MD_changes 59 = .ok (.iconst 0, 1) := by decide +kernel
theorem d_MD_changes_60 : decode k_MD_changes 60 = .ok (.istore 5, 2) := by decide +kernel
theorem d_MD_changes_62 : decode k_MD_changes 62 = .ok (.iinc 6 1, 3) := by decide +kernel
theorem d_MD_changes_65 : decode k_MD_changes 65 = .ok (.goto (-59), 3) := by decide +kernel
theorem d_MD_changes_68 : decode k_MD_changes 68 = .ok (.iload 5, 2) := by decide +kernel
theorem d_MD_changes_70 : decode k_MD_changes 70 = .ok (.ireturn, 1) := by decide +kernel
theorem d_MD_idle_0 : decode k_MD_idle 0 = .ok (.aload_n 0, 1) := by decide +kernel
theorem d_MD_idle_1 : decode k_MD_idle 1 = .ok (.iload_n 1, 1) := by decide +kernel
theorem d_MD_idle_2 : decode k_MD_idle 2 = .ok (.invokestatic 113, 3) := by decide +kernel
theorem d_MD_idle_5 : decode k_MD_idle 5 = .ok (.ifCond .ne 7, 3) := by decide +kernel
theorem d_MD_idle_8 : decode k_MD_idle 8 = .ok (.iconst 1, 1) := by decide +kernel
theorem d_MD_idle_9 : decode k_MD_idle 9 = .ok (.goto 4, 3) := by decide +kernel
theorem d_MD_idle_12 : decode k_MD_idle 12 = .ok (.iconst 0, 1) := by decide +kernel
theorem d_MD_idle_13 : decode k_MD_idle 13 = .ok (.iconst 0, 1) := by decide +kernel
theorem d_MD_idle_14 : decode k_MD_idle 14 = .ok (.iconst 0, 1) := by decide +kernel
theorem d_MD_idle_15 : decode k_MD_idle 15 = .ok (.invokevirtual 88, 3) := by decide +kernel
theorem d_MD_idle_18 : decode k_MD_idle 18 = .ok (.ifCond .eq 5, 3) := by decide +kernel
theorem d_MD_idle_21 : decode k_MD_idle 21 = .ok (.iconst 0, 1) := by decide +kernel
theorem d_MD_idle_22 : decode k_MD_idle 22 = .ok (.ireturn, 1) := by decide +kernel
theorem d_MD_idle_23 : decode k_MD_idle 23 = .ok (.iconst 0, 1) := by decide +kernel
theorem d_MD_idle_24 : decode k_MD_idle 24 = .ok (.istore_n 2, 1) := by decide +kernel
theorem d_MD_idle_25 : decode k_MD_idle 25 = .ok (.iload_n 2, 1) := by decide +kernel
theorem d_MD_idle_26 : decode k_MD_idle 26 = .ok (.aload_n 0, 1) := by decide +kernel
theorem d_MD_idle_27 : decode k_MD_idle 27 = .ok (.getfield 99, 3) := by decide +kernel
theorem d_MD_idle_30 : decode k_MD_idle 30 = .ok (.if_icmp .ge 78, 3) := by decide +kernel
theorem d_MD_idle_33 : decode k_MD_idle 33 = .ok (.aload_n 0, 1) := by decide +kernel
theorem d_MD_idle_34 : decode k_MD_idle 34 = .ok (.getfield 19, 3) := by decide +kernel
theorem d_MD_idle_37 : decode k_MD_idle 37 = .ok (.iload_n 2, 1) := by decide +kernel
theorem d_MD_idle_38 : decode k_MD_idle 38 = .ok (.baload, 1) := by decide +kernel
theorem d_MD_idle_39 : decode k_MD_idle 39 = .ok (.istore_n 3, 1) := by decide +kernel
theorem d_MD_idle_40 : decode k_MD_idle 40 = .ok (.iconst 0, 1) := by decide +kernel
theorem d_MD_idle_41 : decode k_MD_idle 41 = .ok (.istore 4, 2) := by decide +kernel
theorem d_MD_idle_43 : decode k_MD_idle 43 = .ok (.iload 4, 2) := by decide +kernel
theorem d_MD_idle_45 : decode k_MD_idle 45 = .ok (.aload_n 0, 1) := by decide +kernel
theorem d_MD_idle_46 : decode k_MD_idle 46 = .ok (.getfield 70, 3) := by decide +kernel
theorem d_MD_idle_49 : decode k_MD_idle 49 = .ok (.aload_n 0, 1) := by decide +kernel
theorem d_MD_idle_50 : decode k_MD_idle 50 = .ok (.getfield 77, 3) := by decide +kernel
theorem d_MD_idle_53 : decode k_MD_idle 53 = .ok (.imul, 1) := by decide +kernel
theorem d_MD_idle_54 : decode k_MD_idle 54 = .ok (.if_icmp .ge 42, 3) := by decide +kernel
theorem d_MD_idle_57 : decode k_MD_idle 57 = .ok (.iload_n 3, 1) := by decide +kernel
theorem d_MD_idle_58 : decode k_MD_idle 58 = .ok (.ifCond .eq 38, 3) := by decide +kernel
theorem d_MD_idle_61 : decode k_MD_idle 61 = .ok (.aload_n 0, 1) := by decide +kernel
theorem d_MD_idle_62 : decode k_MD_idle 62 = .ok (.iload_n 2, 1) := by decide +kernel
theorem d_MD_idle_63 : decode k_MD_idle 63 = .ok (.iload 4, 2) := by decide +kernel
theorem d_MD_idle_65 : decode k_MD_idle 65 = .ok (.aload_n 0, 1) := by decide +kernel
theorem d_MD_idle_66 : decode k_MD_idle 66 = .ok (.getfield 77, 3) := by decide +kernel
theorem d_MD_idle_69 : decode k_MD_idle 69 = .ok (.idiv, 1) := by decide +kernel
theorem d_MD_idle_70 : decode k_MD_idle 70 = .ok (.iload 4, 2) := by decide +kernel
theorem d_MD_idle_72 : decode k_MD_idle 72 = .ok (.aload_n 0, 1) := by decide +kernel
theorem d_MD_idle_73 : decode k_MD_idle 73 = .ok (.getfield 77, 3) := by decide +kernel
theorem d_MD_idle_76 : decode k_MD_idle 76 = .ok (.irem, 1) := by decide +kernel
theorem d_MD_idle_77 : decode k_MD_idle 77 = .ok (.iload_n 1, 1) := by decide +kernel
theorem d_MD_idle_78 : decode k_MD_idle 78 = .ok (.invokevirtual 168, 3) := by decide +kernel
theorem d_MD_idle_81 : decode k_MD_idle 81 = .ok (.ifCond .ne 7, 3) := by decide +kernel
theorem d_MD_idle_84 : decode k_MD_idle 84 = .ok (.iconst 1, 1) := by decide +kernel
theorem d_MD_idle_85 : decode k_MD_idle 85 = .ok (.goto 4, 3) := by decide +kernel
theorem d_MD_idle_88 : decode k_MD_idle 88 = .ok (.iconst 0, 1) := by decide +kernel
theorem d_MD_idle_89 : decode k_MD_idle 89 = .ok (.istore_n 3, 1) := by decide +kernel
theorem d_MD_idle_90 : decode k_MD_idle 90 = .ok (.iinc 4 1, 3) := by decide +kernel
theorem d_MD_idle_93 : decode k_MD_idle 93 = .ok (.goto (-50), 3) := by decide +kernel
theorem d_MD_idle_96 : decode k_MD_idle 96 = .ok (.iload_n 3, 1) := by decide +kernel
theorem d_MD_idle_97 : decode k_MD_idle 97 = .ok (.ifCond .eq 5, 3) := by decide +kernel
theorem d_MD_idle_100 : decode k_MD_idle 100 = .ok (.iload_n 2, 1) := by decide +kernel
theorem d_MD_idle_101 : decode k_MD_idle 101 = .ok (.ireturn, 1) := by decide +kernel
theorem d_MD_idle_102 : decode k_MD_idle 102 = .ok (.iinc 2 1, 3) := by decide +kernel
theorem d_MD_idle_105 : decode k_MD_idle 105 = .ok (.goto (-80), 3) := by decide +kernel
theorem d_MD_idle_108 : decode k_MD_idle 108 = .ok (.iconst (-1), 1) := by decide +kernel
theorem d_MD_idle_109 : decode k_MD_idle 109 = .ok (.ireturn, 1) := by decide +kernel
theorem d_MD_count_0 : decode k_MD_count 0 = .ok (.aload_n 0, 1) := by decide +kernel
theorem d_MD_count_1 : decode k_MD_count 1 = .ok (.iload_n 1, 1) := by decide +kernel
theorem d_MD_count_2 : decode k_MD_count 2 = .ok (.iconst 0, 1) := by decide +kernel
theorem d_MD_count_3 : decode k_MD_count 3 = .ok (.bipush 6, 2) := by decide +kernel
theorem d_MD_count_5 : decode k_MD_count 5 = .ok (.invokestatic 73, 3) := by decide +kernel
theorem d_MD_count_8 : decode k_MD_count 8 = .ok (.ifCond .ne 7, 3) := by decide +kernel
theorem d_MD_count_11 : decode k_MD_count 11 = .ok (.iconst 1, 1) := by decide +kernel
theorem d_MD_count_12 : decode k_MD_count 12 = .ok (.goto 4, 3) := by decide +kernel
theorem d_MD_count_15 : decode k_MD_count 15 = .ok (.iconst 0, 1) := by decide +kernel
theorem d_MD_count_16 : decode k_MD_count 16 = .ok (.iconst 0, 1) := by decide +kernel
theorem d_MD_count_17 : decode k_MD_count 17 = .ok (.iconst 0, 1) := by decide +kernel
theorem d_MD_count_18 : decode k_MD_count 18 = .ok (.invokevirtual 88, 3) := by decide +kernel
theorem d_MD_count_21 : decode k_MD_count 21 = .ok (.ifCond .eq 5, 3) := by decide +kernel
theorem d_MD_count_24 : decode k_MD_count 24 = .ok (.iconst 0, 1) := by decide +kernel
theorem d_MD_count_25 : decode k_MD_count 25 = .ok (.ireturn, 1) := by decide +kernel
theorem d_MD_count_26 : decode k_MD_count 26 = .ok (.iconst 0, 1) := by decide +kernel
theorem d_MD_count_27 : decode k_MD_count 27 = .ok (.istore_n 2, 1) := by decide +kernel
theorem d_MD_count_28 : decode k_MD_count 28 = .ok (.iconst 0, 1) := by decide +kernel
theorem d_MD_count_29 : decode k_MD_count 29 = .ok (.istore_n 3, 1) := by decide +kernel
theorem d_MD_count_30 : decode k_MD_count 30 = .ok (.iload_n 3, 1) := by decide +kernel
theorem d_MD_count_31 : decode k_MD_count 31 = .ok (.aload_n 0, 1) := by decide +kernel
theorem d_MD_count_32 : decode k_MD_count 32 = .ok (.getfield 99, 3) := by decide +kernel
theorem d_MD_count_35 : decode k_MD_count 35 = .ok (.if_icmp .ge 26, 3) := by decide +kernel
theorem d_MD_count_38 : decode k_MD_count 38 = .ok (.iload_n 2, 1) := by decide +kernel
theorem d_MD_count_39 : decode k_MD_count 39 = .ok (.aload_n 0, 1) := by decide +kernel
theorem d_MD_count_40 : decode k_MD_count 40 = .ok (.getfield 19, 3) := by decide +kernel
theorem d_MD_count_43 : decode k_MD_count 43 = .ok (.iload_n 3, 1) := by decide +kernel
theorem d_MD_count_44 : decode k_MD_count 44 = .ok (.baload, 1) := by decide +kernel
theorem d_MD_count_45 : decode k_MD_count 45 = .ok (.ifCond .eq 7, 3) := by decide +kernel
theorem d_MD_count_48 : decode k_MD_count 48 = .ok (.iconst 1, 1) := by decide +kernel
theorem d_MD_count_49 : decode k_MD_count 49 = .ok (.goto 4, 3) := by decide +kernel
theorem d_MD_count_52 : decode k_MD_count 52 = .ok (.iconst 0, 1) := by decide +kernel
theorem d_MD_count_53 : decode k_MD_count 53 = .ok (.iadd, 1) := by decide +kernel
theorem d_MD_count_54 : decode k_MD_count 54 = .ok (.istore_n 2, 1) := by decide +kernel
theorem d_MD_count_55 : decode k_MD_count 55 = .ok (.iinc 3 1, 3) := by decide +kernel
theorem d_MD_count_58 : decode k_MD_count 58 = .ok (.goto (-28), 3) := by decide +kernel
theorem d_MD_count_61 : decode k_MD_count 61 = .ok (.iload_n 1, 1) := by decide +kernel
theorem d_MD_count_62 : decode k_MD_count 62 = .ok (.tableswitch 65 0 5 #[38, 43, 48, 50, 55, 60], 38) := by decide +kernel
theorem d_MD_count_100 : decode k_MD_count 100 = .ok (.aload_n 0, 1) := by decide +kernel
theorem d_MD_count_101 : decode k_MD_count 101 = .ok (.getfield 85, 3) := by decide +kernel
theorem d_MD_count_104 : decode k_MD_count 104 = .ok (.ireturn, 1) := by decide +kernel
theorem d_MD_count_105 : decode k_MD_count 105 = .ok (.aload_n 0, 1) := by decide +kernel
theorem d_MD_count_106 : decode k_MD_count 106 = .ok (.getfield 99, 3) := by decide +kernel
theorem d_MD_count_109 : decode k_MD_count 109 = .ok (.ireturn, 1) := by decide +kernel
theorem d_MD_count_110 : decode k_MD_count 110 = .ok (.iload_n 2, 1) := by decide +kernel
theorem d_MD_count_111 : decode k_MD_count 111 = .ok (.ireturn, 1) := by decide +kernel
theorem d_MD_count_112 : decode k_MD_count 112 = .ok (.aload_n 0, 1) := by decide +kernel
theorem d_MD_count_113 : decode k_MD_count 113 = .ok (.getfield 70, 3) := by decide +kernel
theorem d_MD_count_116 : decode k_MD_count 116 = .ok (.ireturn, 1) := by decide +kernel
theorem d_MD_count_117 : decode k_MD_count 117 = .ok (.aload_n 0, 1) := by decide +kernel
theorem d_MD_count_118 : decode k_MD_count 118 = .ok (.getfield 77, 3) := by decide +kernel
theorem d_MD_count_121 : decode k_MD_count 121 = .ok (.ireturn, 1) := by decide +kernel
theorem d_MD_count_122 : decode k_MD_count 122 = .ok (.aload_n 0, 1) := by decide +kernel
theorem d_MD_count_123 : decode k_MD_count 123 = .ok (.getfield 154, 3) := by decide +kernel
theorem d_MD_count_126 : decode k_MD_count 126 = .ok (.ireturn, 1) := by decide +kernel
theorem d_MD_count_127 : decode k_MD_count 127 = .ok (.aload_n 0, 1) := by decide +kernel
theorem d_MD_count_128 : decode k_MD_count 128 = .ok (.getfield 165, 3) := by decide +kernel
theorem d_MD_count_131 : decode k_MD_count 131 = .ok (.ireturn, 1) := by decide +kernel
