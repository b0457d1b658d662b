theorem d_RR_init_0 : decode k_RR_init 0 = .ok (.aload_n 0, 1) := by decide +kernel
theorem d_RR_init_1 : decode k_RR_init 1 = .ok (.invokespecial 3, 3) := by decide +kernel
theorem d_RR_init_4 : decode k_RR_init 4 = .ok (.aload_n 0, 1) := by decide +kernel
theorem d_RR_init_5 : decode k_RR_init 5 = .ok (.new 9, 3) := by decide +kernel
theorem d_RR_init_8 : decode k_RR_init 8 = .ok (.dup, 1) := by decide +kernel
theorem d_RR_init_9 : decode k_RR_init 9 = .ok (.invokespecial 11, 3) := by decide +kernel
theorem d_RR_init_12 : decode k_RR_init 12 = .ok (.putfield 12, 3) := by decide +kernel
theorem d_RR_init_15 : decode k_RR_init 15 = .ok (.aload_n 0, 1) := by decide +kernel
theorem d_RR_init_16 : decode k_RR_init 16 = .ok (.new 16, 3) := by decide +kernel
theorem d_RR_init_19 : decode k_RR_init 19 = .ok (.dup, 1) := by decide +kernel
theorem d_RR_init_20 : decode k_RR_init 20 = .ok (.invokespecial 18, 3) := by decide +kernel
theorem d_RR_init_23 : decode k_RR_init 23 = .ok (.putfield 19, 3) := by decide +kernel
theorem d_RR_init_26 : decode k_RR_init 26 = .ok (.aload_n 0, 1) := by decide +kernel
theorem d_RR_init_27 : decode k_RR_init 27 = .ok (.new 23, 3) := by decide +kernel
theorem d_RR_init_30 : decode k_RR_init 30 = .ok (.dup, 1) := by decide +kernel
theorem d_RR_init_31 : decode k_RR_init 31 = .ok (.invokespecial 25, 3) := by decide +kernel
theorem d_RR_init_34 : decode k_RR_init 34 = .ok (.putfield 26, 3) := by decide +kernel
theorem d_RR_init_37 : decode k_RR_init 37 = .ok (.aload_n 0, 1) := by decide +kernel
theorem d_RR_init_38 : decode k_RR_init 38 = .ok (.new 30, 3) := by decide +kernel
theorem d_RR_init_41 : decode k_RR_init 41 = .ok (.dup, 1) := by decide +kernel
theorem d_RR_init_42 : decode k_RR_init 42 = .ok (.invokespecial 32, 3) := by decide +kernel
theorem d_RR_init_45 : decode k_RR_init 45 = .ok (.putfield 33, 3) := by decide +kernel
theorem d_RR_init_48 : decode k_RR_init 48 = .ok (.aload_n 0, 1) := by decide +kernel
theorem d_RR_init_49 : decode k_RR_init 49 = .ok (.new 37, 3) := by decide +kernel
theorem d_RR_init_52 : decode k_RR_init 52 = .ok (.dup, 1) := by decide +kernel
theorem d_RR_init_53 : decode k_RR_init 53 = .ok (.invokespecial 39, 3) := by decide +kernel
theorem d_RR_init_56 : decode k_RR_init 56 = .ok (.putfield 40, 3) := by decide +kernel
theorem d_RR_init_59 : decode k_RR_init 59 = .ok (.aload_n 0, 1) := by decide +kernel
theorem d_RR_init_60 : decode k_RR_init 60 = .ok (.new 44, 3) := by decide +kernel
theorem d_RR_init_63 : decode k_RR_init 63 = .ok (.dup, 1) := by decide +kernel
theorem d_RR_init_64 : decode k_RR_init 64 = .ok (.invokespecial 46, 3) := by decide +kernel
theorem d_RR_init_67 : decode k_RR_init 67 = .ok (.putfield 47, 3) := by decide +kernel
theorem d_RR_init_70 : decode k_RR_init 70 = .ok (.aload_n 0, 1) := by decide +kernel
theorem d_RR_init_71 : decode k_RR_init 71 = .ok (.new 51, 3) := by decide +kernel
theorem d_RR_init_74 : decode k_RR_init 74 = .ok (.dup, 1) := by decide +kernel
theorem d_RR_init_75 : decode k_RR_init 75 = .ok (.invokespecial 53, 3) := by decide +kernel
theorem d_RR_init_78 : decode k_RR_init 78 = .ok (.putfield 54, 3) := by decide +kernel
theorem d_RR_init_81 : decode k_RR_init 81 = .ok (.aload_n 0, 1) := by decide +kernel
theorem d_RR_init_82 : decode k_RR_init 82 = .ok (.new 58, 3) := by decide +kernel
theorem d_RR_init_85 : decode k_RR_init 85 = .ok (.dup, 1) := by decide +kernel
theorem d_RR_init_86 : decode k_RR_init 86 = .ok (.invokespecial 60, 3) := by decide +kernel
theorem d_RR_init_89 : decode k_RR_init 89 = .ok (.putfield 61, 3) := by decide +kernel
theorem d_RR_init_92 : decode k_RR_init 92 = .ok (.aload_n 0, 1) := by decide +kernel
theorem d_RR_init_93 : decode k_RR_init 93 = .ok (.new 65, 3) := by decide +kernel
theorem d_RR_init_96 : decode k_RR_init 96 = .ok (.dup, 1) := by decide +kernel
theorem d_RR_init_97 : decode k_RR_init 97 = .ok (.invokespecial 67, 3) := by decide +kernel
theorem d_RR_init_100 : decode k_RR_init 100 = .ok (.putfield 68, 3) := by decide +kernel
theorem d_RR_init_103 : decode k_RR_init 103 = .ok (.aload_n 0, 1) := by decide +kernel
theorem d_RR_init_104 : decode k_RR_init 104 = .ok (.bipush 24, 2) := by decide +kernel
theorem d_RR_init_106 : decode k_RR_init 106 = .ok (.newarray .int, 2) := by decide +kernel
theorem d_RR_init_108 : decode k_RR_init 108 = .ok (.putfield 72, 3) := by decide +kernel
theorem d_RR_init_111 : decode k_RR_init 111 = .ok (.return_, 1) := by decide +kernel
theorem d_RR_unit_0 : decode k_RR_unit 0 = .ok (.iload_n 1, 1) := by decide +kernel
theorem d_RR_unit_1 : decode k_RR_unit 1 = .ok (.invokestatic 76, 3) := by decide +kernel
theorem d_RR_unit_4 : decode k_RR_unit 4 = .ok (.iload_n 2, 1) := by decide +kernel
theorem d_RR_unit_5 : decode k_RR_unit 5 = .ok (.invokestatic 76, 3) := by decide +kernel
theorem d_RR_unit_8 : decode k_RR_unit 8 = .ok (.iadd, 1) := by decide +kernel
theorem d_RR_unit_9 : decode k_RR_unit 9 = .ok (.iload_n 3, 1) := by decide +kernel
theorem d_RR_unit_10 : decode k_RR_unit 10 = .ok (.invokestatic 76, 3) := by decide +kernel
theorem d_RR_unit_13 : decode k_RR_unit 13 = .ok (.iadd, 1) := by decide +kernel
theorem d_RR_unit_14 : decode k_RR_unit 14 = .ok (.iload 4, 2) := by decide +kernel
theorem d_RR_unit_16 : decode k_RR_unit 16 = .ok (.invokestatic 76, 3) := by decide +kernel
theorem d_RR_unit_19 : decode k_RR_unit 19 = .ok (.iadd, 1) := by decide +kernel
theorem d_RR_unit_20 : decode k_RR_unit 20 = .ok (.istore 5, 2) := by decide +kernel
theorem d_RR_unit_22 : decode k_RR_unit 22 = .ok (.aload_n 0, 1) := by decide +kernel
theorem d_RR_unit_23 : decode k_RR_unit 23 = .ok (.getfield 12, 3) := by decide +kernel
theorem d_RR_unit_26 : decode k_RR_unit 26 = .ok (.getfield 80, 3) := by decide +kernel
theorem d_RR_unit_29 : decode k_RR_unit 29 = .ok (.iload 5, 2) := by decide +kernel
theorem d_RR_unit_31 : decode k_RR_unit 31 = .ok (.iadd, 1) := by decide +kernel
theorem d_RR_unit_32 : decode k_RR_unit 32 = .ok (.bipush 40, 2) := by decide +kernel
theorem d_RR_unit_34 : decode k_RR_unit 34 = .ok (.if_icmp .le 13, 3) := by decide +kernel
theorem d_RR_unit_37 : decode k_RR_unit 37 = .ok (.new 84, 3) := by decide +kernel
theorem d_RR_unit_40 : decode k_RR_unit 40 = .ok (.dup, 1) := by decide +kernel
theorem d_RR_unit_41 : decode k_RR_unit 41 = .ok (.ldc 86, 2) := by decide +kernel
theorem d_RR_unit_43 : decode k_RR_unit 43 = .ok (.invokespecial 88, 3) := by decide +kernel
theorem d_RR_unit_46 : decode k_RR_unit 46 = .ok (.athrow, 1) := by decide +kernel
theorem d_RR_unit_47 : decode k_RR_unit 47 = .ok (.aload_n 0, 1) := by decide +kernel
theorem d_RR_unit_48 : decode k_RR_unit 48 = .ok (.getfield 12, 3) := by decide +kernel
theorem d_RR_unit_51 : decode k_RR_unit 51 = .ok (.iload_n 1, 1) := by decide +kernel
theorem d_RR_unit_52 : decode k_RR_unit 52 = .ok (.invokevirtual 91, 3) := by decide +kernel
theorem d_RR_unit_55 : decode k_RR_unit 55 = .ok (.aload_n 0, 1) := by decide +kernel
theorem d_RR_unit_56 : decode k_RR_unit 56 = .ok (.getfield 12, 3) := by decide +kernel
theorem d_RR_unit_59 : decode k_RR_unit 59 = .ok (.iload_n 2, 1) := by decide +kernel
theorem d_RR_unit_60 : decode k_RR_unit 60 = .ok (.invokevirtual 91, 3) := by decide +kernel
theorem d_RR_unit_63 : decode k_RR_unit 63 = .ok (.aload_n 0, 1) := by decide +kernel
theorem d_RR_unit_64 : decode k_RR_unit 64 = .ok (.getfield 12, 3) := by decide +kernel
theorem d_RR_unit_67 : decode k_RR_unit 67 = .ok (.iload_n 3, 1) := by decide +kernel
theorem d_RR_unit_68 : decode k_RR_unit 68 = .ok (.invokevirtual 91, 3) := by decide +kernel
theorem d_RR_unit_71 : decode k_RR_unit 71 = .ok (.aload_n 0, 1) := by decide +kernel
theorem d_RR_unit_72 : decode k_RR_unit 72 = .ok (.getfield 12, 3) := by decide +kernel
theorem d_RR_unit_75 : decode k_RR_unit 75 = .ok (.iload 4, 2) := by decide +kernel
theorem d_RR_unit_77 : decode k_RR_unit 77 = .ok (.invokevirtual 91, 3) := by decide +kernel
theorem d_RR_unit_80 : decode k_RR_unit 80 = .ok (.aload_n 0, 1) := by decide +kernel
theorem d_RR_unit_81 : decode k_RR_unit 81 = .ok (.getfield 12, 3) := by decide +kernel
theorem d_RR_unit_84 : decode k_RR_unit 84 = .ok (.getfield 80, 3) := by decide +kernel
theorem d_RR_unit_87 : decode k_RR_unit 87 = .ok (.ireturn, 1) := by decide +kernel
theorem d_RR_rule_0 : decode k_RR_rule 0 = .ok (.aload_n 0, 1) := by decide +kernel
theorem d_RR_rule_1 : decode k_RR_rule 1 = .ok (.getfield 26, 3) := by decide +kernel
theorem d_RR_rule_4 : decode k_RR_rule 4 = .ok (.getfield 95, 3) := by decide +kernel
theorem d_RR_rule_7 : decode k_RR_rule 7 = .ok (.bipush 20, 2) := by decide +kernel
theorem d_RR_rule_9 : decode k_RR_rule 9 = .ok (.if_icmp .lt 13, 3) := by decide +kernel
theorem d_RR_rule_12 : decode k_RR_rule 12 = .ok (.new 84, 3) := by decide +kernel
theorem d_RR_rule_15 : decode k_RR_rule 15 = .ok (.dup, 1) := by decide +kernel
theorem d_RR_rule_16 : decode k_RR_rule 16 = .ok (.ldc 98, 2) := by decide +kernel
theorem d_RR_rule_18 : decode k_RR_rule 18 = .ok (.invokespecial 88, 3) := by decide +kernel
theorem d_RR_rule_21 : decode k_RR_rule 21 = .ok (.athrow, 1) := by decide +kernel
theorem d_RR_rule_22 : decode k_RR_rule 22 = .ok (.aload_n 0, 1) := by decide +kernel
theorem d_RR_rule_23 : decode k_RR_rule 23 = .ok (.getfield 19, 3) := by decide +kernel
theorem d_RR_rule_26 : decode k_RR_rule 26 = .ok (.aload_n 0, 1) := by decide +kernel
theorem d_RR_rule_27 : decode k_RR_rule 27 = .ok (.getfield 12, 3) := by decide +kernel
theorem d_RR_rule_30 : decode k_RR_rule 30 = .ok (.invokevirtual 100, 3) := by decide +kernel
theorem d_RR_rule_33 : decode k_RR_rule 33 = .ok (.istore_n 1, 1) := by decide +kernel
theorem d_RR_rule_34 : decode k_RR_rule 34 = .ok (.aload_n 0, 1) := by decide +kernel
theorem d_RR_rule_35 : decode k_RR_rule 35 = .ok (.getfield 12, 3) := by decide +kernel
theorem d_RR_rule_38 : decode k_RR_rule 38 = .ok (.iconst 0, 1) := by decide +kernel
theorem d_RR_rule_39 : decode k_RR_rule 39 = .ok (.putfield 80, 3) := by decide +kernel
theorem d_RR_rule_42 : decode k_RR_rule 42 = .ok (.iload_n 1, 1) := by decide +kernel
theorem d_RR_rule_43 : decode k_RR_rule 43 = .ok (.ifCond .ne 13, 3) := by decide +kernel
theorem d_RR_rule_46 : decode k_RR_rule 46 = .ok (.iconst (-1), 1) := by decide +kernel
theorem d_RR_rule_47 : decode k_RR_rule 47 = .ok (.aload_n 0, 1) := by decide +kernel
theorem d_RR_rule_48 : decode k_RR_rule 48 = .ok (.getfield 19, 3) := by decide +kernel
theorem d_RR_rule_51 : decode k_RR_rule 51 = .ok (.getfield 104, 3) := by decide +kernel
theorem d_RR_rule_54 : decode k_RR_rule 54 = .ok (.isub, 1) := by decide +kernel
theorem d_RR_rule_55 : decode k_RR_rule 55 = .ok (.ireturn, 1) := by decide +kernel
theorem d_RR_rule_56 : decode k_RR_rule 56 = .ok (.aload_n 0, 1) := by decide +kernel
theorem d_RR_rule_57 : decode k_RR_rule 57 = .ok (.getfield 26, 3) := by decide +kernel
theorem d_RR_rule_60 : decode k_RR_rule 60 = .ok (.aload_n 0, 1) := by decide +kernel
theorem d_RR_rule_61 : decode k_RR_rule 61 = .ok (.getfield 19, 3) := by decide +kernel
theorem d_RR_rule_64 : decode k_RR_rule 64 = .ok (.getfield 107, 3) := by decide +kernel
theorem d_RR_rule_67 : decode k_RR_rule 67 = .ok (.aload_n 0, 1) := by decide +kernel
theorem d_RR_rule_68 : decode k_RR_rule 68 = .ok (.getfield 19, 3) := by decide +kernel
theorem d_RR_rule_71 : decode k_RR_rule 71 = .ok (.getfield 110, 3) := by decide +kernel
theorem d_RR_rule_74 : decode k_RR_rule 74 = .ok (.aload_n 0, 1) := by decide +kernel
theorem d_RR_rule_75 : decode k_RR_rule 75 = .ok (.getfield 19, 3) := by decide +kernel
theorem d_RR_rule_78 : decode k_RR_rule 78 = .ok (.getfield 113, 3) := by decide +kernel
theorem d_RR_rule_81 : decode k_RR_rule 81 = .ok (.invokevirtual 116, 3) := by decide +kernel
theorem d_RR_rule_84 : decode k_RR_rule 84 = .ok (.ireturn, 1) := by decide +kernel
theorem d_RR_drop_0 : decode k_RR_drop 0 = .ok (.iload_n 1, 1) := by decide +kernel
theorem d_RR_drop_1 : decode k_RR_drop 1 = .ok (.ifCond .lt 14, 3) := by decide +kernel
theorem d_RR_drop_4 : decode k_RR_drop 4 = .ok (.iload_n 1, 1) := by decide +kernel
theorem d_RR_drop_5 : decode k_RR_drop 5 = .ok (.aload_n 0, 1) := by decide +kernel
theorem d_RR_drop_6 : decode k_RR_drop 6 = .ok (.getfield 26, 3) := by decide +kernel
theorem d_RR_drop_9 : decode k_RR_drop 9 = .ok (.getfield 95, 3) := by decide +kernel
theorem d_RR_drop_12 : decode k_RR_drop 12 = .ok (.if_icmp .lt 13, 3) := by decide +kernel
theorem d_RR_drop_15 : decode k_RR_drop 15 = .ok (.new 120, 3) := by decide +kernel
theorem d_RR_drop_18 : decode k_RR_drop 18 = .ok (.dup, 1) := by decide +kernel
theorem d_RR_drop_19 : decode k_RR_drop 19 = .ok (.ldc 122, 2) := by decide +kernel
theorem d_RR_drop_21 : decode k_RR_drop 21 = .ok (.invokespecial 124, 3) := by decide +kernel
theorem d_RR_drop_24 : decode k_RR_drop 24 = .ok (.athrow, 1) := by decide +kernel
theorem d_RR_drop_25 : decode k_RR_drop 25 = .ok (.aload_n 0, 1) := by decide +kernel
theorem d_RR_drop_26 : decode k_RR_drop 26 = .ok (.getfield 26, 3) := by decide +kernel
theorem d_RR_drop_29 : decode k_RR_drop 29 = .ok (.iload_n 1, 1) := by decide +kernel
theorem d_RR_drop_30 : decode k_RR_drop 30 = .ok (.invokevirtual 125, 3) := by decide +kernel
theorem d_RR_drop_33 : decode k_RR_drop 33 = .ok (.ireturn, 1) := by decide +kernel
theorem d_RR_person_0 : decode k_RR_person 0 = .ok (.iload_n 1, 1) := by decide +kernel
theorem d_RR_person_1 : decode k_RR_person 1 = .ok (.ifCond .lt 10, 3) := by decide +kernel
theorem d_RR_person_4 : decode k_RR_person 4 = .ok (.iload_n 1, 1) := by decide +kernel
theorem d_RR_person_5 : decode k_RR_person 5 = .ok (.sipush 256, 3) := by decide +kernel
theorem d_RR_person_8 : decode k_RR_person 8 = .ok (.if_icmp .lt 13, 3) := by decide +kernel
theorem d_RR_person_11 : decode k_RR_person 11 = .ok (.new 129, 3) := by decide +kernel
theorem d_RR_person_14 : decode k_RR_person 14 = .ok (.dup, 1) := by decide +kernel
theorem d_RR_person_15 : decode k_RR_person 15 = .ok (.ldc 131, 2) := by decide +kernel
theorem d_RR_person_17 : decode k_RR_person 17 = .ok (.invokespecial 133, 3) := by decide +kernel
theorem d_RR_person_20 : decode k_RR_person 20 = .ok (.athrow, 1) := by decide +kernel
theorem d_RR_person_21 : decode k_RR_person 21 = .ok (.aload_n 0, 1) := by decide +kernel
theorem d_RR_person_22 : decode k_RR_person 22 = .ok (.getfield 33, 3) := by decide +kernel
theorem d_RR_person_25 : decode k_RR_person 25 = .ok (.getfield 134, 3) := by decide +kernel
theorem d_RR_person_28 : decode k_RR_person 28 = .ok (.bipush 12, 2) := by decide +kernel
theorem d_RR_person_30 : decode k_RR_person 30 = .ok (.if_icmp .lt 13, 3) := by decide +kernel
theorem d_RR_person_33 : decode k_RR_person 33 = .ok (.new 84, 3) := by decide +kernel
theorem d_RR_person_36 : decode k_RR_person 36 = .ok (.dup, 1) := by decide +kernel
theorem d_RR_person_37 : decode k_RR_person 37 = .ok (.ldc 135, 2) := by decide +kernel
theorem d_RR_person_39 : decode k_RR_person 39 = .ok (.invokespecial 88, 3) := by decide +kernel
theorem d_RR_person_42 : decode k_RR_person 42 = .ok (.athrow, 1) := by decide +kernel
theorem d_RR_person_43 : decode k_RR_person 43 = .ok (.aload_n 0, 1) := by decide +kernel
theorem d_RR_person_44 : decode k_RR_person 44 = .ok (.getfield 33, 3) := by decide +kernel
theorem d_RR_person_47 : decode k_RR_person 47 = .ok (.iload_n 1, 1) := by decide +kernel
theorem d_RR_person_48 : decode k_RR_person 48 = .ok (.invokevirtual 137, 3) := by decide +kernel
theorem d_RR_person_51 : decode k_RR_person 51 = .ok (.ireturn, 1) := by decide +kernel
theorem d_RR_record_0 : decode k_RR_record 0 = .ok (.iload_n 1, 1) := by decide +kernel
theorem d_RR_record_1 : decode k_RR_record 1 = .ok (.ifCond .lt 8, 3) := by decide +kernel
theorem d_RR_record_4 : decode k_RR_record 4 = .ok (.iload_n 1, 1) := by decide +kernel
theorem d_RR_record_5 : decode k_RR_record 5 = .ok (.iconst 4, 1) := by decide +kernel
theorem d_RR_record_6 : decode k_RR_record 6 = .ok (.if_icmp .lt 13, 3) := by decide +kernel
theorem d_RR_record_9 : decode k_RR_record 9 = .ok (.new 129, 3) := by decide +kernel
theorem d_RR_record_12 : decode k_RR_record 12 = .ok (.dup, 1) := by decide +kernel
theorem d_RR_record_13 : decode k_RR_record 13 = .ok (.ldc 140, 2) := by decide +kernel
theorem d_RR_record_15 : decode k_RR_record 15 = .ok (.invokespecial 133, 3) := by decide +kernel
theorem d_RR_record_18 : decode k_RR_record 18 = .ok (.athrow, 1) := by decide +kernel
theorem d_RR_record_19 : decode k_RR_record 19 = .ok (.iload_n 2, 1) := by decide +kernel
theorem d_RR_record_20 : decode k_RR_record 20 = .ok (.iconst (-1), 1) := by decide +kernel
theorem d_RR_record_21 : decode k_RR_record 21 = .ok (.if_icmp .lt 9, 3) := by decide +kernel
theorem d_RR_record_24 : decode k_RR_record 24 = .ok (.iload_n 2, 1) := by decide +kernel
theorem d_RR_record_25 : decode k_RR_record 25 = .ok (.bipush 8, 2) := by decide +kernel
theorem d_RR_record_27 : decode k_RR_record 27 = .ok (.if_icmp .lt 13, 3) := by decide +kernel
theorem d_RR_record_30 : decode k_RR_record 30 = .ok (.new 129, 3) := by decide +kernel
theorem d_RR_record_33 : decode k_RR_record 33 = .ok (.dup, 1) := by decide +kernel
theorem d_RR_record_34 : decode k_RR_record 34 = .ok (.ldc 142, 2) := by decide +kernel
theorem d_RR_record_36 : decode k_RR_record 36 = .ok (.invokespecial 133, 3) := by decide +kernel
theorem d_RR_record_39 : decode k_RR_record 39 = .ok (.athrow, 1) := by decide +kernel
theorem d_RR_record_40 : decode k_RR_record 40 = .ok (.aload_n 0, 1) := by decide +kernel
theorem d_RR_record_41 : decode k_RR_record 41 = .ok (.getfield 40, 3) := by decide +kernel
theorem d_RR_record_44 : decode k_RR_record 44 = .ok (.getfield 144, 3) := by decide +kernel
theorem d_RR_record_47 : decode k_RR_record 47 = .ok (.bipush 16, 2) := by decide +kernel
theorem d_RR_record_49 : decode k_RR_record 49 = .ok (.if_icmp .lt 13, 3) := by decide +kernel
theorem d_RR_record_52 : decode k_RR_record 52 = .ok (.new 84, 3) := by decide +kernel
theorem d_RR_record_55 : decode k_RR_record 55 = .ok (.dup, 1) := by decide +kernel
theorem d_RR_record_56 : decode k_RR_record 56 = .ok (.ldc 145, 2) := by decide +kernel
theorem d_RR_record_58 : decode k_RR_record 58 = .ok (.invokespecial 88, 3) := by decide +kernel
theorem d_RR_record_61 : decode k_RR_record 61 = .ok (.athrow, 1) := by decide +kernel
theorem d_RR_record_62 : decode k_RR_record 62 = .ok (.iload_n 2, 1) := by decide +kernel
theorem d_RR_record_63 : decode k_RR_record 63 = .ok (.iconst (-1), 1) := by decide +kernel
theorem d_RR_record_64 : decode k_RR_record 64 = .ok (.if_icmp .ne 7, 3) := by decide +kernel
theorem d_RR_record_67 : decode k_RR_record 67 = .ok (.iconst 0, 1) := by decide +kernel
theorem d_RR_record_68 : decode k_RR_record 68 = .ok (.goto 9, 3) := by decide +kernel
theorem d_RR_record_71 : decode k_RR_record 71 = .ok (.iconst 1, 1) := by decide +kernel
theorem d_RR_record_72 : decode k_RR_record 72 = .ok (.bipush 22, 2) := by decide +kernel
theorem d_RR_record_74 : decode k_RR_record 74 = .ok (.iload_n 2, 1) := by decide +kernel
theorem d_RR_record_75 : decode k_RR_record 75 = .ok (.iadd, 1) := by decide +kernel
theorem d_RR_record_76 : decode k_RR_record 76 = .ok (.ishl, 1) := by decide +kernel
theorem d_RR_record_77 : decode k_RR_record 77 = .ok (.istore_n 3, 1) := by decide +kernel
theorem d_RR_record_78 : decode k_RR_record 78 = .ok (.aload_n 0, 1) := by decide +kernel
theorem d_RR_record_79 : decode k_RR_record 79 = .ok (.getfield 40, 3) := by decide +kernel
theorem d_RR_record_82 : decode k_RR_record 82 = .ok (.iconst 1, 1) := by decide +kernel
theorem d_RR_record_83 : decode k_RR_record 83 = .ok (.bipush 8, 2) := by decide +kernel
theorem d_RR_record_85 : decode k_RR_record 85 = .ok (.iload_n 1, 1) := by decide +kernel
theorem d_RR_record_86 : decode k_RR_record 86 = .ok (.iadd, 1) := by decide +kernel
theorem d_RR_record_87 : decode k_RR_record 87 = .ok (.ishl, 1) := by decide +kernel
theorem d_RR_record_88 : decode k_RR_record 88 = .ok (.iload_n 3, 1) := by decide +kernel
theorem d_RR_record_89 : decode k_RR_record 89 = .ok (.ior, 1) := by decide +kernel
theorem d_RR_record_90 : decode k_RR_record 90 = .ok (.invokevirtual 147, 3) := by decide +kernel
theorem d_RR_record_93 : decode k_RR_record 93 = .ok (.ireturn, 1) := by decide +kernel
theorem d_RR_value_0 : decode k_RR_value 0 = .ok (.aload_n 0, 1) := by decide +kernel
theorem d_RR_value_1 : decode k_RR_value 1 = .ok (.iload_n 1, 1) := by decide +kernel
theorem d_RR_value_2 : decode k_RR_value 2 = .ok (.invokevirtual 148, 3) := by decide +kernel
theorem d_RR_value_5 : decode k_RR_value 5 = .ok (.iload_n 2, 1) := by decide +kernel
theorem d_RR_value_6 : decode k_RR_value 6 = .ok (.invokestatic 151, 3) := by decide +kernel
theorem d_RR_value_9 : decode k_RR_value 9 = .ok (.aload_n 0, 1) := by decide +kernel
theorem d_RR_value_10 : decode k_RR_value 10 = .ok (.getfield 40, 3) := by decide +kernel
theorem d_RR_value_13 : decode k_RR_value 13 = .ok (.iload_n 1, 1) := by decide +kernel
theorem d_RR_value_14 : decode k_RR_value 14 = .ok (.iload_n 2, 1) := by decide +kernel
theorem d_RR_value_15 : decode k_RR_value 15 = .ok (.lload_n 3, 1) := by decide +kernel
theorem d_RR_value_16 : decode k_RR_value 16 = .ok (.invokevirtual 154, 3) := by decide +kernel
theorem d_RR_value_19 : decode k_RR_value 19 = .ok (.lreturn, 1) := by decide +kernel
theorem d_RR_embargo_0 : decode k_RR_embargo 0 = .ok (.aload_n 0, 1) := by decide +kernel
theorem d_RR_embargo_1 : decode k_RR_embargo 1 = .ok (.iload_n 1, 1) := by decide +kernel
theorem d_RR_embargo_2 : decode k_RR_embargo 2 = .ok (.invokevirtual 148, 3) := by decide +kernel
theorem d_RR_embargo_5 : decode k_RR_embargo 5 = .ok (.iload_n 2, 1) := by decide +kernel
theorem d_RR_embargo_6 : decode k_RR_embargo 6 = .ok (.iconst (-1), 1) := by decide +kernel
theorem d_RR_embargo_7 : decode k_RR_embargo 7 = .ok (.if_icmp .eq 7, 3) := by decide +kernel
theorem d_RR_embargo_10 : decode k_RR_embargo 10 = .ok (.iload_n 2, 1) := by decide +kernel
theorem d_RR_embargo_11 : decode k_RR_embargo 11 = .ok (.invokestatic 158, 3) := by decide +kernel
theorem d_RR_embargo_14 : decode k_RR_embargo 14 = .ok (.aload_n 0, 1) := by decide +kernel
theorem d_RR_embargo_15 : decode k_RR_embargo 15 = .ok (.getfield 40, 3) := by decide +kernel
theorem d_RR_embargo_18 : decode k_RR_embargo 18 = .ok (.getfield 161, 3) := by decide +kernel
theorem d_RR_embargo_21 : decode k_RR_embargo 21 = .ok (.iload_n 1, 1) := by decide +kernel
theorem d_RR_embargo_22 : decode k_RR_embargo 22 = .ok (.iaload, 1) := by decide +kernel
theorem d_RR_embargo_23 : decode k_RR_embargo 23 = .ok (.istore_n 3, 1) := by decide +kernel
theorem d_RR_embargo_24 : decode k_RR_embargo 24 = .ok (.aload_n 0, 1) := by decide +kernel
theorem d_RR_embargo_25 : decode k_RR_embargo 25 = .ok (.getfield 40, 3) := by decide +kernel
theorem d_RR_embargo_28 : decode k_RR_embargo 28 = .ok (.getfield 161, 3) := by decide +kernel
theorem d_RR_embargo_31 : decode k_RR_embargo 31 = .ok (.iload_n 1, 1) := by decide +kernel
theorem d_RR_embargo_32 : decode k_RR_embargo 32 = .ok (.iload_n 2, 1) := by decide +kernel
theorem d_RR_embargo_33 : decode k_RR_embargo 33 = .ok (.iastore, 1) := by decide +kernel
theorem d_RR_embargo_34 : decode k_RR_embargo 34 = .ok (.iload_n 3, 1) := by decide +kernel
theorem d_RR_embargo_35 : decode k_RR_embargo 35 = .ok (.ireturn, 1) := by decide +kernel
theorem d_RR_agreement_0 : decode k_RR_agreement 0 = .ok (.aload_n 0, 1) := by decide +kernel
theorem d_RR_agreement_1 : decode k_RR_agreement 1 = .ok (.iload_n 1, 1) := by decide +kernel
theorem d_RR_agreement_2 : decode k_RR_agreement 2 = .ok (.invokevirtual 164, 3) := by decide +kernel
theorem d_RR_agreement_5 : decode k_RR_agreement 5 = .ok (.aload_n 0, 1) := by decide +kernel
theorem d_RR_agreement_6 : decode k_RR_agreement 6 = .ok (.iload_n 2, 1) := by decide +kernel
theorem d_RR_agreement_7 : decode k_RR_agreement 7 = .ok (.invokevirtual 148, 3) := by decide +kernel
theorem d_RR_agreement_10 : decode k_RR_agreement 10 = .ok (.iload_n 3, 1) := by decide +kernel
theorem d_RR_agreement_11 : decode k_RR_agreement 11 = .ok (.invokestatic 158, 3) := by decide +kernel
theorem d_RR_agreement_14 : decode k_RR_agreement 14 = .ok (.iload 4, 2) := by decide +kernel
theorem d_RR_agreement_16 : decode k_RR_agreement 16 = .ok (.invokestatic 158, 3) := by decide +kernel
theorem d_RR_agreement_19 : decode k_RR_agreement 19 = .ok (.iload_n 3, 1) := by decide +kernel
theorem d_RR_agreement_20 : decode k_RR_agreement 20 = .ok (.iload 4, 2) := by decide +kernel
theorem d_RR_agreement_22 : decode k_RR_agreement 22 = .ok (.if_icmp .le 13, 3) := by decide +kernel
theorem d_RR_agreement_25 : decode k_RR_agreement 25 = .ok (.new 129, 3) := by decide +kernel
theorem d_RR_agreement_28 : decode k_RR_agreement 28 = .ok (.dup, 1) := by decide +kernel
theorem d_RR_agreement_29 : decode k_RR_agreement 29 = .ok (.ldc 167, 2) := by decide +kernel
theorem d_RR_agreement_31 : decode k_RR_agreement 31 = .ok (.invokespecial 133, 3) := by decide +kernel
theorem d_RR_agreement_34 : decode k_RR_agreement 34 = .ok (.athrow, 1) := by decide +kernel
theorem d_RR_agreement_35 : decode k_RR_agreement 35 = .ok (.aload_n 0, 1) := by decide +kernel
theorem d_RR_agreement_36 : decode k_RR_agreement 36 = .ok (.getfield 47, 3) := by decide +kernel
theorem d_RR_agreement_39 : decode k_RR_agreement 39 = .ok (.getfield 169, 3) := by decide +kernel
theorem d_RR_agreement_42 : decode k_RR_agreement 42 = .ok (.bipush 40, 2) := by decide +kernel
theorem d_RR_agreement_44 : decode k_RR_agreement 44 = .ok (.if_icmp .lt 13, 3) := by decide +kernel
theorem d_RR_agreement_47 : decode k_RR_agreement 47 = .ok (.new 84, 3) := by decide +kernel
theorem d_RR_agreement_50 : decode k_RR_agreement 50 = .ok (.dup, 1) := by decide +kernel
theorem d_RR_agreement_51 : decode k_RR_agreement 51 = .ok (.ldc 170, 2) := by decide +kernel
theorem d_RR_agreement_53 : decode k_RR_agreement 53 = .ok (.invokespecial 88, 3) := by decide +kernel
theorem d_RR_agreement_56 : decode k_RR_agreement 56 = .ok (.athrow, 1) := by decide +kernel
theorem d_RR_agreement_57 : decode k_RR_agreement 57 = .ok (.aload_n 0, 1) := by decide +kernel
theorem d_RR_agreement_58 : decode k_RR_agreement 58 = .ok (.getfield 47, 3) := by decide +kernel
theorem d_RR_agreement_61 : decode k_RR_agreement 61 = .ok (.iload_n 1, 1) := by decide +kernel
theorem d_RR_agreement_62 : decode k_RR_agreement 62 = .ok (.iload_n 2, 1) := by decide +kernel
theorem d_RR_agreement_63 : decode k_RR_agreement 63 = .ok (.iload_n 3, 1) := by decide +kernel
theorem d_RR_agreement_64 : decode k_RR_agreement 64 = .ok (.iload 4, 2) := by decide +kernel
theorem d_RR_agreement_66 : decode k_RR_agreement 66 = .ok (.invokevirtual 172, 3) := by decide +kernel
theorem d_RR_agreement_69 : decode k_RR_agreement 69 = .ok (.aload_n 0, 1) := by decide +kernel
theorem d_RR_agreement_70 : decode k_RR_agreement 70 = .ok (.getfield 47, 3) := by decide +kernel
theorem d_RR_agreement_73 : decode k_RR_agreement 73 = .ok (.getfield 169, 3) := by decide +kernel
theorem d_RR_agreement_76 : decode k_RR_agreement 76 = .ok (.ireturn, 1) := by decide +kernel
theorem d_RR_asks_0 : decode k_RR_asks 0 = .ok (.aload_n 0, 1) := by decide +kernel
theorem d_RR_asks_1 : decode k_RR_asks 1 = .ok (.iload_n 1, 1) := by decide +kernel
theorem d_RR_asks_2 : decode k_RR_asks 2 = .ok (.invokevirtual 164, 3) := by decide +kernel
theorem d_RR_asks_5 : decode k_RR_asks 5 = .ok (.aload_n 0, 1) := by decide +kernel
theorem d_RR_asks_6 : decode k_RR_asks 6 = .ok (.iload_n 2, 1) := by decide +kernel
theorem d_RR_asks_7 : decode k_RR_asks 7 = .ok (.invokevirtual 148, 3) := by decide +kernel
theorem d_RR_asks_10 : decode k_RR_asks 10 = .ok (.iload_n 3, 1) := by decide +kernel
theorem d_RR_asks_11 : decode k_RR_asks 11 = .ok (.invokestatic 151, 3) := by decide +kernel
theorem d_RR_asks_14 : decode k_RR_asks 14 = .ok (.iload 4, 2) := by decide +kernel
theorem d_RR_asks_16 : decode k_RR_asks 16 = .ok (.ifCond .lt 9, 3) := by decide +kernel
theorem d_RR_asks_19 : decode k_RR_asks 19 = .ok (.iload 4, 2) := by decide +kernel
theorem d_RR_asks_21 : decode k_RR_asks 21 = .ok (.iconst 4, 1) := by decide +kernel
theorem d_RR_asks_22 : decode k_RR_asks 22 = .ok (.if_icmp .lt 13, 3) := by decide +kernel
theorem d_RR_asks_25 : decode k_RR_asks 25 = .ok (.new 120, 3) := by decide +kernel
theorem d_RR_asks_28 : decode k_RR_asks 28 = .ok (.dup, 1) := by decide +kernel
theorem d_RR_asks_29 : decode k_RR_asks 29 = .ok (.ldc 175, 2) := by decide +kernel
theorem d_RR_asks_31 : decode k_RR_asks 31 = .ok (.invokespecial 124, 3) := by decide +kernel
theorem d_RR_asks_34 : decode k_RR_asks 34 = .ok (.athrow, 1) := by decide +kernel
theorem d_RR_asks_35 : decode k_RR_asks 35 = .ok (.iload 5, 2) := by decide +kernel
theorem d_RR_asks_37 : decode k_RR_asks 37 = .ok (.invokestatic 158, 3) := by decide +kernel
theorem d_RR_asks_40 : decode k_RR_asks 40 = .ok (.aload_n 0, 1) := by decide +kernel
theorem d_RR_asks_41 : decode k_RR_asks 41 = .ok (.getfield 26, 3) := by decide +kernel
theorem d_RR_asks_44 : decode k_RR_asks 44 = .ok (.aload_n 0, 1) := by decide +kernel
theorem d_RR_asks_45 : decode k_RR_asks 45 = .ok (.iload_n 1, 1) := by decide +kernel
theorem d_RR_asks_46 : decode k_RR_asks 46 = .ok (.iload_n 2, 1) := by decide +kernel
theorem d_RR_asks_47 : decode k_RR_asks 47 = .ok (.iload 5, 2) := by decide +kernel
theorem d_RR_asks_49 : decode k_RR_asks 49 = .ok (.invokevirtual 177, 3) := by decide +kernel
theorem d_RR_asks_52 : decode k_RR_asks 52 = .ok (.aload_n 0, 1) := by decide +kernel
theorem d_RR_asks_53 : decode k_RR_asks 53 = .ok (.iload_n 3, 1) := by decide +kernel
theorem d_RR_asks_54 : decode k_RR_asks 54 = .ok (.iload 4, 2) := by decide +kernel
theorem d_RR_asks_56 : decode k_RR_asks 56 = .ok (.invokevirtual 180, 3) := by decide +kernel
theorem d_RR_asks_59 : decode k_RR_asks 59 = .ok (.iand, 1) := by decide +kernel
theorem d_RR_asks_60 : decode k_RR_asks 60 = .ok (.invokevirtual 184, 3) := by decide +kernel
theorem d_RR_asks_63 : decode k_RR_asks 63 = .ok (.istore 6, 2) := by decide +kernel
theorem d_RR_asks_65 : decode k_RR_asks 65 = .ok (.iload 6, 2) := by decide +kernel
theorem d_RR_asks_67 : decode k_RR_asks 67 = .ok (.ifCond .eq 31, 3) := by decide +kernel
theorem d_RR_asks_70 : decode k_RR_asks 70 = .ok (.aload_n 0, 1) := by decide +kernel
theorem d_RR_asks_71 : decode k_RR_asks 71 = .ok (.getfield 54, 3) := by decide +kernel
theorem d_RR_asks_74 : decode k_RR_asks 74 = .ok (.getfield 187, 3) := by decide +kernel
theorem d_RR_asks_77 : decode k_RR_asks 77 = .ok (.bipush 100, 2) := by decide +kernel
theorem d_RR_asks_79 : decode k_RR_asks 79 = .ok (.if_icmp .ge 19, 3) := by decide +kernel
theorem d_RR_asks_82 : decode k_RR_asks 82 = .ok (.aload_n 0, 1) := by decide +kernel
theorem d_RR_asks_83 : decode k_RR_asks 83 = .ok (.getfield 54, 3) := by decide +kernel
theorem d_RR_asks_86 : decode k_RR_asks 86 = .ok (.iload_n 1, 1) := by decide +kernel
theorem d_RR_asks_87 : decode k_RR_asks 87 = .ok (.iload_n 2, 1) := by decide +kernel
theorem d_RR_asks_88 : decode k_RR_asks 88 = .ok (.iload_n 3, 1) := by decide +kernel
theorem d_RR_asks_89 : decode k_RR_asks 89 = .ok (.iload 4, 2) := by decide +kernel
theorem d_RR_asks_91 : decode k_RR_asks 91 = .ok (.iload 5, 2) := by decide +kernel
theorem d_RR_asks_93 : decode k_RR_asks 93 = .ok (.iload 6, 2) := by decide +kernel
theorem d_RR_asks_95 : decode k_RR_asks 95 = .ok (.invokevirtual 188, 3) := by decide +kernel
theorem d_RR_asks_98 : decode k_RR_asks 98 = .ok (.iload 6, 2) := by decide +kernel
theorem d_RR_asks_100 : decode k_RR_asks 100 = .ok (.ireturn, 1) := by decide +kernel
theorem d_RR_masked_0 : decode k_RR_masked 0 = .ok (.aload_n 0, 1) := by decide +kernel
theorem d_RR_masked_1 : decode k_RR_masked 1 = .ok (.iload_n 1, 1) := by decide +kernel
theorem d_RR_masked_2 : decode k_RR_masked 2 = .ok (.invokevirtual 148, 3) := by decide +kernel
theorem d_RR_masked_5 : decode k_RR_masked 5 = .ok (.iload_n 2, 1) := by decide +kernel
theorem d_RR_masked_6 : decode k_RR_masked 6 = .ok (.invokestatic 151, 3) := by decide +kernel
theorem d_RR_masked_9 : decode k_RR_masked 9 = .ok (.aload_n 0, 1) := by decide +kernel
theorem d_RR_masked_10 : decode k_RR_masked 10 = .ok (.getfield 40, 3) := by decide +kernel
theorem d_RR_masked_13 : decode k_RR_masked 13 = .ok (.iload_n 1, 1) := by decide +kernel
theorem d_RR_masked_14 : decode k_RR_masked 14 = .ok (.iload_n 2, 1) := by decide +kernel
theorem d_RR_masked_15 : decode k_RR_masked 15 = .ok (.invokevirtual 192, 3) := by decide +kernel
theorem d_RR_masked_18 : decode k_RR_masked 18 = .ok (.lstore_n 3, 1) := by decide +kernel
theorem d_RR_masked_19 : decode k_RR_masked 19 = .ok (.lload_n 3, 1) := by decide +kernel
theorem d_RR_masked_20 : decode k_RR_masked 20 = .ok (.lload_n 3, 1) := by decide +kernel
theorem d_RR_masked_21 : decode k_RR_masked 21 = .ok (.ldc2_w 196, 3) := by decide +kernel
theorem d_RR_masked_24 : decode k_RR_masked 24 = .ok (.lrem, 1) := by decide +kernel
theorem d_RR_masked_25 : decode k_RR_masked 25 = .ok (.lsub, 1) := by decide +kernel
theorem d_RR_masked_26 : decode k_RR_masked 26 = .ok (.lreturn, 1) := by decide +kernel
theorem d_RR_look_0 : decode k_RR_look 0 = .ok (.iload_n 1, 1) := by decide +kernel
theorem d_RR_look_1 : decode k_RR_look 1 = .ok (.ifCond .lt 14, 3) := by decide +kernel
theorem d_RR_look_4 : decode k_RR_look 4 = .ok (.iload_n 1, 1) := by decide +kernel
theorem d_RR_look_5 : decode k_RR_look 5 = .ok (.aload_n 0, 1) := by decide +kernel
theorem d_RR_look_6 : decode k_RR_look 6 = .ok (.getfield 54, 3) := by decide +kernel
theorem d_RR_look_9 : decode k_RR_look 9 = .ok (.getfield 187, 3) := by decide +kernel
theorem d_RR_look_12 : decode k_RR_look 12 = .ok (.if_icmp .lt 13, 3) := by decide +kernel
theorem d_RR_look_15 : decode k_RR_look 15 = .ok (.new 120, 3) := by decide +kernel
theorem d_RR_look_18 : decode k_RR_look 18 = .ok (.dup, 1) := by decide +kernel
theorem d_RR_look_19 : decode k_RR_look 19 = .ok (.ldc 198, 2) := by decide +kernel
theorem d_RR_look_21 : decode k_RR_look 21 = .ok (.invokespecial 124, 3) := by decide +kernel
theorem d_RR_look_24 : decode k_RR_look 24 = .ok (.athrow, 1) := by decide +kernel
theorem d_RR_look_25 : decode k_RR_look 25 = .ok (.iload_n 2, 1) := by decide +kernel
theorem d_RR_look_26 : decode k_RR_look 26 = .ok (.ifCond .lt 9, 3) := by decide +kernel
theorem d_RR_look_29 : decode k_RR_look 29 = .ok (.iload_n 2, 1) := by decide +kernel
theorem d_RR_look_30 : decode k_RR_look 30 = .ok (.bipush 6, 2) := by decide +kernel
theorem d_RR_look_32 : decode k_RR_look 32 = .ok (.if_icmp .lt 13, 3) := by decide +kernel
theorem d_RR_look_35 : decode k_RR_look 35 = .ok (.new 120, 3) := by decide +kernel
theorem d_RR_look_38 : decode k_RR_look 38 = .ok (.dup, 1) := by decide +kernel
theorem d_RR_look_39 : decode k_RR_look 39 = .ok (.ldc 200, 2) := by decide +kernel
theorem d_RR_look_41 : decode k_RR_look 41 = .ok (.invokespecial 124, 3) := by decide +kernel
theorem d_RR_look_44 : decode k_RR_look 44 = .ok (.athrow, 1) := by decide +kernel
theorem d_RR_look_45 : decode k_RR_look 45 = .ok (.aload_n 0, 1) := by decide +kernel
theorem d_RR_look_46 : decode k_RR_look 46 = .ok (.getfield 54, 3) := by decide +kernel
theorem d_RR_look_49 : decode k_RR_look 49 = .ok (.iload_n 1, 1) := by decide +kernel
theorem d_RR_look_50 : decode k_RR_look 50 = .ok (.iload_n 2, 1) := by decide +kernel
theorem d_RR_look_51 : decode k_RR_look 51 = .ok (.invokevirtual 202, 3) := by decide +kernel
theorem d_RR_look_54 : decode k_RR_look 54 = .ok (.ireturn, 1) := by decide +kernel
theorem d_RR_looked_0 : decode k_RR_looked 0 = .ok (.aload_n 0, 1) := by decide +kernel
theorem d_RR_looked_1 : decode k_RR_looked 1 = .ok (.iload_n 1, 1) := by decide +kernel
theorem d_RR_looked_2 : decode k_RR_looked 2 = .ok (.invokevirtual 148, 3) := by decide +kernel
theorem d_RR_looked_5 : decode k_RR_looked 5 = .ok (.iload_n 2, 1) := by decide +kernel
theorem d_RR_looked_6 : decode k_RR_looked 6 = .ok (.ifCond .ge 13, 3) := by decide +kernel
theorem d_RR_looked_9 : decode k_RR_looked 9 = .ok (.new 120, 3) := by decide +kernel
theorem d_RR_looked_12 : decode k_RR_looked 12 = .ok (.dup, 1) := by decide +kernel
theorem d_RR_looked_13 : decode k_RR_looked 13 = .ok (.ldc 205, 2) := by decide +kernel
theorem d_RR_looked_15 : decode k_RR_looked 15 = .ok (.invokespecial 124, 3) := by decide +kernel
theorem d_RR_looked_18 : decode k_RR_looked 18 = .ok (.athrow, 1) := by decide +kernel
theorem d_RR_looked_19 : decode k_RR_looked 19 = .ok (.aload_n 0, 1) := by decide +kernel
theorem d_RR_looked_20 : decode k_RR_looked 20 = .ok (.getfield 54, 3) := by decide +kernel
theorem d_RR_looked_23 : decode k_RR_looked 23 = .ok (.iload_n 1, 1) := by decide +kernel
theorem d_RR_looked_24 : decode k_RR_looked 24 = .ok (.iload_n 2, 1) := by decide +kernel
theorem d_RR_looked_25 : decode k_RR_looked 25 = .ok (.invokevirtual 207, 3) := by decide +kernel
theorem d_RR_looked_28 : decode k_RR_looked 28 = .ok (.ireturn, 1) := by decide +kernel
theorem d_RR_export_0 : decode k_RR_export 0 = .ok (.aload_n 0, 1) := by decide +kernel
theorem d_RR_export_1 : decode k_RR_export 1 = .ok (.iload_n 1, 1) := by decide +kernel
theorem d_RR_export_2 : decode k_RR_export 2 = .ok (.invokevirtual 164, 3) := by decide +kernel
theorem d_RR_export_5 : decode k_RR_export 5 = .ok (.iload_n 2, 1) := by decide +kernel
theorem d_RR_export_6 : decode k_RR_export 6 = .ok (.invokestatic 158, 3) := by decide +kernel
theorem d_RR_export_9 : decode k_RR_export 9 = .ok (.aload_n 0, 1) := by decide +kernel
theorem d_RR_export_10 : decode k_RR_export 10 = .ok (.getfield 68, 3) := by decide +kernel
theorem d_RR_export_13 : decode k_RR_export 13 = .ok (.iconst 0, 1) := by decide +kernel
theorem d_RR_export_14 : decode k_RR_export 14 = .ok (.putfield 210, 3) := by decide +kernel
theorem d_RR_export_17 : decode k_RR_export 17 = .ok (.iconst 0, 1) := by decide +kernel
theorem d_RR_export_18 : decode k_RR_export 18 = .ok (.istore_n 3, 1) := by decide +kernel
theorem d_RR_export_19 : decode k_RR_export 19 = .ok (.iload_n 3, 1) := by decide +kernel
theorem d_RR_export_20 : decode k_RR_export 20 = .ok (.aload_n 0, 1) := by decide +kernel
theorem d_RR_export_21 : decode k_RR_export 21 = .ok (.getfield 40, 3) := by decide +kernel
theorem d_RR_export_24 : decode k_RR_export 24 = .ok (.getfield 144, 3) := by decide +kernel
theorem d_RR_export_27 : decode k_RR_export 27 = .ok (.if_icmp .ge 31, 3) := by decide +kernel
theorem d_RR_export_30 : decode k_RR_export 30 = .ok (.aload_n 0, 1) := by decide +kernel
theorem d_RR_export_31 : decode k_RR_export 31 = .ok (.aload_n 0, 1) := by decide +kernel
theorem d_RR_export_32 : decode k_RR_export 32 = .ok (.iload_n 1, 1) := by decide +kernel
theorem d_RR_export_33 : decode k_RR_export 33 = .ok (.iload_n 3, 1) := by decide +kernel
theorem d_RR_export_34 : decode k_RR_export 34 = .ok (.iload_n 2, 1) := by decide +kernel
theorem d_RR_export_35 : decode k_RR_export 35 = .ok (.invokevirtual 177, 3) := by decide +kernel
theorem d_RR_export_38 : decode k_RR_export 38 = .ok (.invokevirtual 211, 3) := by decide +kernel
theorem d_RR_export_41 : decode k_RR_export 41 = .ok (.ifCond .eq 11, 3) := by decide +kernel
theorem d_RR_export_44 : decode k_RR_export 44 = .ok (.aload_n 0, 1) := by decide +kernel
theorem d_RR_export_45 : decode k_RR_export 45 = .ok (.getfield 68, 3) := by decide +kernel
theorem d_RR_export_48 : decode k_RR_export 48 = .ok (.iload_n 3, 1) := by decide +kernel
theorem d_RR_export_49 : decode k_RR_export 49 = .ok (.invokevirtual 214, 3) := by decide +kernel
theorem d_RR_export_52 : decode k_RR_export 52 = .ok (.iinc 3 1, 3) := by decide +kernel
theorem d_RR_export_55 : decode k_RR_export 55 = .ok (.goto (-36), 3) := by decide +kernel
theorem d_RR_export_58 : decode k_RR_export 58 = .ok (.aload_n 0, 1) := by decide +kernel
theorem d_RR_export_59 : decode k_RR_export 59 = .ok (.getfield 68, 3) := by decide +kernel
theorem d_RR_export_62 : decode k_RR_export 62 = .ok (.getfield 210, 3) := by decide +kernel
theorem d_RR_export_65 : decode k_RR_export 65 = .ok (.ireturn, 1) := by decide +kernel
theorem d_RR_exported_0 : decode k_RR_exported 0 = .ok (.iload_n 1, 1) := by decide +kernel
theorem d_RR_exported_1 : decode k_RR_exported 1 = .ok (.ifCond .lt 14, 3) := by decide +kernel
theorem d_RR_exported_4 : decode k_RR_exported 4 = .ok (.iload_n 1, 1) := by decide +kernel
theorem d_RR_exported_5 : decode k_RR_exported 5 = .ok (.aload_n 0, 1) := by decide +kernel
theorem d_RR_exported_6 : decode k_RR_exported 6 = .ok (.getfield 68, 3) := by decide +kernel
theorem d_RR_exported_9 : decode k_RR_exported 9 = .ok (.getfield 210, 3) := by decide +kernel
theorem d_RR_exported_12 : decode k_RR_exported 12 = .ok (.if_icmp .lt 13, 3) := by decide +kernel
theorem d_RR_exported_15 : decode k_RR_exported 15 = .ok (.new 120, 3) := by decide +kernel
theorem d_RR_exported_18 : decode k_RR_exported 18 = .ok (.dup, 1) := by decide +kernel
theorem d_RR_exported_19 : decode k_RR_exported 19 = .ok (.ldc 216, 2) := by decide +kernel
theorem d_RR_exported_21 : decode k_RR_exported 21 = .ok (.invokespecial 124, 3) := by decide +kernel
theorem d_RR_exported_24 : decode k_RR_exported 24 = .ok (.athrow, 1) := by decide +kernel
theorem d_RR_exported_25 : decode k_RR_exported 25 = .ok (.aload_n 0, 1) := by decide +kernel
theorem d_RR_exported_26 : decode k_RR_exported 26 = .ok (.getfield 68, 3) := by decide +kernel
theorem d_RR_exported_29 : decode k_RR_exported 29 = .ok (.getfield 218, 3) := by decide +kernel
theorem d_RR_exported_32 : decode k_RR_exported 32 = .ok (.iload_n 1, 1) := by decide +kernel
theorem d_RR_exported_33 : decode k_RR_exported 33 = .ok (.iaload, 1) := by decide +kernel
theorem d_RR_exported_34 : decode k_RR_exported 34 = .ok (.ireturn, 1) := by decide +kernel
theorem d_RR_request_0 : decode k_RR_request 0 = .ok (.aload_n 0, 1) := by decide +kernel
theorem d_RR_request_1 : decode k_RR_request 1 = .ok (.iload_n 1, 1) := by decide +kernel
theorem d_RR_request_2 : decode k_RR_request 2 = .ok (.invokevirtual 164, 3) := by decide +kernel
theorem d_RR_request_5 : decode k_RR_request 5 = .ok (.aload_n 0, 1) := by decide +kernel
theorem d_RR_request_6 : decode k_RR_request 6 = .ok (.iload_n 2, 1) := by decide +kernel
theorem d_RR_request_7 : decode k_RR_request 7 = .ok (.invokevirtual 148, 3) := by decide +kernel
theorem d_RR_request_10 : decode k_RR_request 10 = .ok (.iload_n 3, 1) := by decide +kernel
theorem d_RR_request_11 : decode k_RR_request 11 = .ok (.invokestatic 158, 3) := by decide +kernel
theorem d_RR_request_14 : decode k_RR_request 14 = .ok (.aload_n 0, 1) := by decide +kernel
theorem d_RR_request_15 : decode k_RR_request 15 = .ok (.getfield 61, 3) := by decide +kernel
theorem d_RR_request_18 : decode k_RR_request 18 = .ok (.getfield 221, 3) := by decide +kernel
theorem d_RR_request_21 : decode k_RR_request 21 = .ok (.bipush 60, 2) := by decide +kernel
theorem d_RR_request_23 : decode k_RR_request 23 = .ok (.if_icmp .lt 13, 3) := by decide +kernel
theorem d_RR_request_26 : decode k_RR_request 26 = .ok (.new 84, 3) := by decide +kernel
theorem d_RR_request_29 : decode k_RR_request 29 = .ok (.dup, 1) := by decide +kernel
theorem d_RR_request_30 : decode k_RR_request 30 = .ok (.ldc 222, 2) := by decide +kernel
theorem d_RR_request_32 : decode k_RR_request 32 = .ok (.invokespecial 88, 3) := by decide +kernel
theorem d_RR_request_35 : decode k_RR_request 35 = .ok (.athrow, 1) := by decide +kernel
theorem d_RR_request_36 : decode k_RR_request 36 = .ok (.aload_n 0, 1) := by decide +kernel
theorem d_RR_request_37 : decode k_RR_request 37 = .ok (.getfield 61, 3) := by decide +kernel
theorem d_RR_request_40 : decode k_RR_request 40 = .ok (.iload_n 1, 1) := by decide +kernel
theorem d_RR_request_41 : decode k_RR_request 41 = .ok (.iload_n 3, 1) := by decide +kernel
theorem d_RR_request_42 : decode k_RR_request 42 = .ok (.invokevirtual 224, 3) := by decide +kernel
theorem d_RR_request_45 : decode k_RR_request 45 = .ok (.iconst 1, 1) := by decide +kernel
theorem d_RR_request_46 : decode k_RR_request 46 = .ok (.iadd, 1) := by decide +kernel
theorem d_RR_request_47 : decode k_RR_request 47 = .ok (.istore 4, 2) := by decide +kernel
theorem d_RR_request_49 : decode k_RR_request 49 = .ok (.iload 4, 2) := by decide +kernel
theorem d_RR_request_51 : decode k_RR_request 51 = .ok (.aload_n 0, 1) := by decide +kernel
theorem d_RR_request_52 : decode k_RR_request 52 = .ok (.getfield 33, 3) := by decide +kernel
theorem d_RR_request_55 : decode k_RR_request 55 = .ok (.getfield 227, 3) := by decide +kernel
theorem d_RR_request_58 : decode k_RR_request 58 = .ok (.iload_n 1, 1) := by decide +kernel
theorem d_RR_request_59 : decode k_RR_request 59 = .ok (.iaload, 1) := by decide +kernel
theorem d_RR_request_60 : decode k_RR_request 60 = .ok (.if_icmp .le 5, 3) := by decide +kernel
theorem d_RR_request_63 : decode k_RR_request 63 = .ok (.iconst (-1), 1) := by decide +kernel
theorem d_RR_request_64 : decode k_RR_request 64 = .ok (.ireturn, 1) := by decide +kernel
theorem d_RR_request_65 : decode k_RR_request 65 = .ok (.aload_n 0, 1) := by decide +kernel
theorem d_RR_request_66 : decode k_RR_request 66 = .ok (.getfield 61, 3) := by decide +kernel
theorem d_RR_request_69 : decode k_RR_request 69 = .ok (.iload_n 1, 1) := by decide +kernel
theorem d_RR_request_70 : decode k_RR_request 70 = .ok (.iload_n 3, 1) := by decide +kernel
theorem d_RR_request_71 : decode k_RR_request 71 = .ok (.invokevirtual 230, 3) := by decide +kernel
theorem d_RR_request_74 : decode k_RR_request 74 = .ok (.iload 4, 2) := by decide +kernel
theorem d_RR_request_76 : decode k_RR_request 76 = .ok (.ireturn, 1) := by decide +kernel
theorem d_RR_limit_0 : decode k_RR_limit 0 = .ok (.aload_n 0, 1) := by decide +kernel
theorem d_RR_limit_1 : decode k_RR_limit 1 = .ok (.iload_n 1, 1) := by decide +kernel
theorem d_RR_limit_2 : decode k_RR_limit 2 = .ok (.invokevirtual 164, 3) := by decide +kernel
theorem d_RR_limit_5 : decode k_RR_limit 5 = .ok (.iload_n 2, 1) := by decide +kernel
theorem d_RR_limit_6 : decode k_RR_limit 6 = .ok (.ifCond .lt 9, 3) := by decide +kernel
theorem d_RR_limit_9 : decode k_RR_limit 9 = .ok (.iload_n 2, 1) := by decide +kernel
theorem d_RR_limit_10 : decode k_RR_limit 10 = .ok (.bipush 60, 2) := by decide +kernel
theorem d_RR_limit_12 : decode k_RR_limit 12 = .ok (.if_icmp .le 13, 3) := by decide +kernel
theorem d_RR_limit_15 : decode k_RR_limit 15 = .ok (.new 129, 3) := by decide +kernel
theorem d_RR_limit_18 : decode k_RR_limit 18 = .ok (.dup, 1) := by decide +kernel
theorem d_RR_limit_19 : decode k_RR_limit 19 = .ok (.ldc 233, 2) := by decide +kernel
theorem d_RR_limit_21 : decode k_RR_limit 21 = .ok (.invokespecial 133, 3) := by decide +kernel
theorem d_RR_limit_24 : decode k_RR_limit 24 = .ok (.athrow, 1) := by decide +kernel
theorem d_RR_limit_25 : decode k_RR_limit 25 = .ok (.aload_n 0, 1) := by decide +kernel
theorem d_RR_limit_26 : decode k_RR_limit 26 = .ok (.getfield 33, 3) := by decide +kernel
theorem d_RR_limit_29 : decode k_RR_limit 29 = .ok (.getfield 227, 3) := by decide +kernel
theorem d_RR_limit_32 : decode k_RR_limit 32 = .ok (.iload_n 1, 1) := by decide +kernel
theorem d_RR_limit_33 : decode k_RR_limit 33 = .ok (.iaload, 1) := by decide +kernel
theorem d_RR_limit_34 : decode k_RR_limit 34 = .ok (.istore_n 3, 1) := by decide +kernel
theorem d_RR_limit_35 : decode k_RR_limit 35 = .ok (.aload_n 0, 1) := by decide +kernel
theorem d_RR_limit_36 : decode k_RR_limit 36 = .ok (.getfield 33, 3) := by decide +kernel
theorem d_RR_limit_39 : decode k_RR_limit 39 = .ok (.getfield 227, 3) := by decide +kernel
theorem d_RR_limit_42 : decode k_RR_limit 42 = .ok (.iload_n 1, 1) := by decide +kernel
theorem d_RR_limit_43 : decode k_RR_limit 43 = .ok (.iload_n 2, 1) := by decide +kernel
theorem d_RR_limit_44 : decode k_RR_limit 44 = .ok (.iastore, 1) := by decide +kernel
theorem d_RR_limit_45 : decode k_RR_limit 45 = .ok (.iload_n 3, 1) := by decide +kernel
theorem d_RR_limit_46 : decode k_RR_limit 46 = .ok (.ireturn, 1) := by decide +kernel
theorem d_RR_idle_0 : decode k_RR_idle 0 = .ok (.iload_n 1, 1) := by decide +kernel
theorem d_RR_idle_1 : decode k_RR_idle 1 = .ok (.invokestatic 158, 3) := by decide +kernel
theorem d_RR_idle_4 : decode k_RR_idle 4 = .ok (.aload_n 0, 1) := by decide +kernel
theorem d_RR_idle_5 : decode k_RR_idle 5 = .ok (.invokevirtual 235, 3) := by decide +kernel
theorem d_RR_idle_8 : decode k_RR_idle 8 = .ok (.aload_n 0, 1) := by decide +kernel
theorem d_RR_idle_9 : decode k_RR_idle 9 = .ok (.getfield 26, 3) := by decide +kernel
theorem d_RR_idle_12 : decode k_RR_idle 12 = .ok (.getfield 238, 3) := by decide +kernel
theorem d_RR_idle_15 : decode k_RR_idle 15 = .ok (.istore_n 2, 1) := by decide +kernel
theorem d_RR_idle_16 : decode k_RR_idle 16 = .ok (.iconst 0, 1) := by decide +kernel
theorem d_RR_idle_17 : decode k_RR_idle 17 = .ok (.istore_n 3, 1) := by decide +kernel
theorem d_RR_idle_18 : decode k_RR_idle 18 = .ok (.iload_n 3, 1) := by decide +kernel
theorem d_RR_idle_19 : decode k_RR_idle 19 = .ok (.aload_n 0, 1) := by decide +kernel
theorem d_RR_idle_20 : decode k_RR_idle 20 = .ok (.getfield 33, 3) := by decide +kernel
theorem d_RR_idle_23 : decode k_RR_idle 23 = .ok (.getfield 134, 3) := by decide +kernel
theorem d_RR_idle_26 : decode k_RR_idle 26 = .ok (.if_icmp .ge 51, 3) := by decide +kernel
theorem d_RR_idle_29 : decode k_RR_idle 29 = .ok (.iconst 0, 1) := by decide +kernel
theorem d_RR_idle_30 : decode k_RR_idle 30 = .ok (.istore 4, 2) := by decide +kernel
theorem d_RR_idle_32 : decode k_RR_idle 32 = .ok (.iload 4, 2) := by decide +kernel
theorem d_RR_idle_34 : decode k_RR_idle 34 = .ok (.aload_n 0, 1) := by decide +kernel
theorem d_RR_idle_35 : decode k_RR_idle 35 = .ok (.getfield 40, 3) := by decide +kernel
theorem d_RR_idle_38 : decode k_RR_idle 38 = .ok (.getfield 144, 3) := by decide +kernel
theorem d_RR_idle_41 : decode k_RR_idle 41 = .ok (.if_icmp .ge 30, 3) := by decide +kernel
theorem d_RR_idle_44 : decode k_RR_idle 44 = .ok (.iload_n 2, 1) := by decide +kernel
theorem d_RR_idle_45 : decode k_RR_idle 45 = .ok (.ifCond .eq 26, 3) := by decide +kernel
theorem d_RR_idle_48 : decode k_RR_idle 48 = .ok (.iload_n 2, 1) := by decide +kernel
theorem d_RR_idle_49 : decode k_RR_idle 49 = .ok (.aload_n 0, 1) := by decide +kernel
theorem d_RR_idle_50 : decode k_RR_idle 50 = .ok (.aload_n 0, 1) := by decide +kernel
theorem d_RR_idle_51 : decode k_RR_idle 51 = .ok (.iload_n 3, 1) := by decide +kernel
theorem d_RR_idle_52 : decode k_RR_idle 52 = .ok (.iload 4, 2) := by decide +kernel
theorem d_RR_idle_54 : decode k_RR_idle 54 = .ok (.iload_n 1, 1) := by decide +kernel
theorem d_RR_idle_55 : decode k_RR_idle 55 = .ok (.invokevirtual 177, 3) := by decide +kernel
theorem d_RR_idle_58 : decode k_RR_idle 58 = .ok (.invokevirtual 241, 3) := by decide +kernel
theorem d_RR_idle_61 : decode k_RR_idle 61 = .ok (.iconst (-1), 1) := by decide +kernel
theorem d_RR_idle_62 : decode k_RR_idle 62 = .ok (.ixor, 1) := by decide +kernel
theorem d_RR_idle_63 : decode k_RR_idle 63 = .ok (.iand, 1) := by decide +kernel
theorem d_RR_idle_64 : decode k_RR_idle 64 = .ok (.istore_n 2, 1) := by decide +kernel
theorem d_RR_idle_65 : decode k_RR_idle 65 = .ok (.iinc 4 1, 3) := by decide +kernel
theorem d_RR_idle_68 : decode k_RR_idle 68 = .ok (.goto (-36), 3) := by decide +kernel
theorem d_RR_idle_71 : decode k_RR_idle 71 = .ok (.iinc 3 1, 3) := by decide +kernel
theorem d_RR_idle_74 : decode k_RR_idle 74 = .ok (.goto (-56), 3) := by decide +kernel
theorem d_RR_idle_77 : decode k_RR_idle 77 = .ok (.aload_n 0, 1) := by decide +kernel
theorem d_RR_idle_78 : decode k_RR_idle 78 = .ok (.getfield 26, 3) := by decide +kernel
theorem d_RR_idle_81 : decode k_RR_idle 81 = .ok (.iload_n 2, 1) := by decide +kernel
theorem d_RR_idle_82 : decode k_RR_idle 82 = .ok (.invokevirtual 244, 3) := by decide +kernel
theorem d_RR_idle_85 : decode k_RR_idle 85 = .ok (.ireturn, 1) := by decide +kernel
theorem d_RR_count_0 : decode k_RR_count 0 = .ok (.iload_n 1, 1) := by decide +kernel
theorem d_RR_count_1 : decode k_RR_count 1 = .ok (.tableswitch 102 0 6 #[43, 51, 59, 70, 78, 86, 94], 43) := by decide +kernel
theorem d_RR_count_44 : decode k_RR_count 44 = .ok (.aload_n 0, 1) := by decide +kernel
theorem d_RR_count_45 : decode k_RR_count 45 = .ok (.getfield 12, 3) := by decide +kernel
theorem d_RR_count_48 : decode k_RR_count 48 = .ok (.getfield 80, 3) := by decide +kernel
theorem d_RR_count_51 : decode k_RR_count 51 = .ok (.ireturn, 1) := by decide +kernel
theorem d_RR_count_52 : decode k_RR_count 52 = .ok (.aload_n 0, 1) := by decide +kernel
theorem d_RR_count_53 : decode k_RR_count 53 = .ok (.getfield 26, 3) := by decide +kernel
theorem d_RR_count_56 : decode k_RR_count 56 = .ok (.getfield 95, 3) := by decide +kernel
theorem d_RR_count_59 : decode k_RR_count 59 = .ok (.ireturn, 1) := by decide +kernel
theorem d_RR_count_60 : decode k_RR_count 60 = .ok (.aload_n 0, 1) := by decide +kernel
theorem d_RR_count_61 : decode k_RR_count 61 = .ok (.getfield 26, 3) := by decide +kernel
theorem d_RR_count_64 : decode k_RR_count 64 = .ok (.getfield 238, 3) := by decide +kernel
theorem d_RR_count_67 : decode k_RR_count 67 = .ok (.invokestatic 247, 3) := by decide +kernel
theorem d_RR_count_70 : decode k_RR_count 70 = .ok (.ireturn, 1) := by decide +kernel
theorem d_RR_count_71 : decode k_RR_count 71 = .ok (.aload_n 0, 1) := by decide +kernel
theorem d_RR_count_72 : decode k_RR_count 72 = .ok (.getfield 33, 3) := by decide +kernel
theorem d_RR_count_75 : decode k_RR_count 75 = .ok (.getfield 134, 3) := by decide +kernel
theorem d_RR_count_78 : decode k_RR_count 78 = .ok (.ireturn, 1) := by decide +kernel
theorem d_RR_count_79 : decode k_RR_count 79 = .ok (.aload_n 0, 1) := by decide +kernel
theorem d_RR_count_80 : decode k_RR_count 80 = .ok (.getfield 40, 3) := by decide +kernel
theorem d_RR_count_83 : decode k_RR_count 83 = .ok (.getfield 144, 3) := by decide +kernel
theorem d_RR_count_86 : decode k_RR_count 86 = .ok (.ireturn, 1) := by decide +kernel
theorem d_RR_count_87 : decode k_RR_count 87 = .ok (.aload_n 0, 1) := by decide +kernel
theorem d_RR_count_88 : decode k_RR_count 88 = .ok (.getfield 54, 3) := by decide +kernel
theorem d_RR_count_91 : decode k_RR_count 91 = .ok (.getfield 187, 3) := by decide +kernel
theorem d_RR_count_94 : decode k_RR_count 94 = .ok (.ireturn, 1) := by decide +kernel
theorem d_RR_count_95 : decode k_RR_count 95 = .ok (.aload_n 0, 1) := by decide +kernel
theorem d_RR_count_96 : decode k_RR_count 96 = .ok (.getfield 61, 3) := by decide +kernel
theorem d_RR_count_99 : decode k_RR_count 99 = .ok (.getfield 221, 3) := by decide +kernel
theorem d_RR_count_102 : decode k_RR_count 102 = .ok (.ireturn, 1) := by decide +kernel
theorem d_RR_count_103 : decode k_RR_count 103 = .ok (.new 129, 3) := by decide +kernel
theorem d_RR_count_106 : decode k_RR_count 106 = .ok (.dup, 1) := by decide +kernel
theorem d_RR_count_107 : decode k_RR_count 107 = .ok (.ldc 252, 2) := by decide +kernel
theorem d_RR_count_109 : decode k_RR_count 109 = .ok (.invokespecial 133, 3) := by decide +kernel
theorem d_RR_count_112 : decode k_RR_count 112 = .ok (.athrow, 1) := by decide +kernel
theorem d_RR_requirePerson_0 : decode k_RR_requirePerson 0 = .ok (.iload_n 1, 1) := by decide +kernel
theorem d_RR_requirePerson_1 : decode k_RR_requirePerson 1 = .ok (.ifCond .lt 14, 3) := by decide +kernel
theorem d_RR_requirePerson_4 : decode k_RR_requirePerson 4 = .ok (.iload_n 1, 1) := by decide +kernel
theorem d_RR_requirePerson_5 : decode k_RR_requirePerson 5 = .ok (.aload_n 0, 1) := by decide +kernel
theorem d_RR_requirePerson_6 : decode k_RR_requirePerson 6 = .ok (.getfield 33, 3) := by decide +kernel
theorem d_RR_requirePerson_9 : decode k_RR_requirePerson 9 = .ok (.getfield 134, 3) := by decide +kernel
theorem d_RR_requirePerson_12 : decode k_RR_requirePerson 12 = .ok (.if_icmp .lt 13, 3) := by decide +kernel
theorem d_RR_requirePerson_15 : decode k_RR_requirePerson 15 = .ok (.new 120, 3) := by decide +kernel
theorem d_RR_requirePerson_18 : decode k_RR_requirePerson 18 = .ok (.dup, 1) := by decide +kernel
theorem d_RR_requirePerson_19 : decode k_RR_requirePerson 19 = .ok (.ldc 254, 2) := by decide +kernel
theorem d_RR_requirePerson_21 : decode k_RR_requirePerson 21 = .ok (.invokespecial 124, 3) := by decide +kernel
theorem d_RR_requirePerson_24 : decode k_RR_requirePerson 24 = .ok (.athrow, 1) := by decide +kernel
theorem d_RR_requirePerson_25 : decode k_RR_requirePerson 25 = .ok (.return_, 1) := by decide +kernel
theorem d_RR_requireRecord_0 : decode k_RR_requireRecord 0 = .ok (.iload_n 1, 1) := by decide +kernel
theorem d_RR_requireRecord_1 : decode k_RR_requireRecord 1 = .ok (.ifCond .lt 14, 3) := by decide +kernel
theorem d_RR_requireRecord_4 : decode k_RR_requireRecord 4 = .ok (.iload_n 1, 1) := by decide +kernel
theorem d_RR_requireRecord_5 : decode k_RR_requireRecord 5 = .ok (.aload_n 0, 1) := by decide +kernel
theorem d_RR_requireRecord_6 : decode k_RR_requireRecord 6 = .ok (.getfield 40, 3) := by decide +kernel
theorem d_RR_requireRecord_9 : decode k_RR_requireRecord 9 = .ok (.getfield 144, 3) := by decide +kernel
theorem d_RR_requireRecord_12 : decode k_RR_requireRecord 12 = .ok (.if_icmp .lt 14, 3) := by decide +kernel
theorem d_RR_requireRecord_15 : decode k_RR_requireRecord 15 = .ok (.new 120, 3) := by decide +kernel
theorem d_RR_requireRecord_18 : decode k_RR_requireRecord 18 = .ok (.dup, 1) := by decide +kernel
theorem d_RR_requireRecord_19 : decode k_RR_requireRecord 19 = .ok (.ldc_w 256, 3) := by decide +kernel
theorem d_RR_requireRecord_22 : decode k_RR_requireRecord 22 = .ok (.invokespecial 124, 3) := by decide +kernel
theorem d_RR_requireRecord_25 : decode k_RR_requireRecord 25 = .ok (.athrow, 1) := by decide +kernel
theorem d_RR_requireRecord_26 : decode k_RR_requireRecord 26 = .ok (.return_, 1) := by decide +kernel
theorem d_RR_requireField_0 : decode k_RR_requireField 0 = .ok (.iload_n 0, 1) := by decide +kernel
theorem d_RR_requireField_1 : decode k_RR_requireField 1 = .ok (.ifCond .lt 9, 3) := by decide +kernel
theorem d_RR_requireField_4 : decode k_RR_requireField 4 = .ok (.iload_n 0, 1) := by decide +kernel
theorem d_RR_requireField_5 : decode k_RR_requireField 5 = .ok (.bipush 6, 2) := by decide +kernel
theorem d_RR_requireField_7 : decode k_RR_requireField 7 = .ok (.if_icmp .lt 14, 3) := by decide +kernel
theorem d_RR_requireField_10 : decode k_RR_requireField 10 = .ok (.new 120, 3) := by decide +kernel
theorem d_RR_requireField_13 : decode k_RR_requireField 13 = .ok (.dup, 1) := by decide +kernel
theorem d_RR_requireField_14 : decode k_RR_requireField 14 = .ok (.ldc_w 258, 3) := by decide +kernel
theorem d_RR_requireField_17 : decode k_RR_requireField 17 = .ok (.invokespecial 124, 3) := by decide +kernel
theorem d_RR_requireField_20 : decode k_RR_requireField 20 = .ok (.athrow, 1) := by decide +kernel
theorem d_RR_requireField_21 : decode k_RR_requireField 21 = .ok (.return_, 1) := by decide +kernel
theorem d_RR_requireDay_0 : decode k_RR_requireDay 0 = .ok (.iload_n 0, 1) := by decide +kernel
theorem d_RR_requireDay_1 : decode k_RR_requireDay 1 = .ok (.ifCond .lt 10, 3) := by decide +kernel
theorem d_RR_requireDay_4 : decode k_RR_requireDay 4 = .ok (.iload_n 0, 1) := by decide +kernel
theorem d_RR_requireDay_5 : decode k_RR_requireDay 5 = .ok (.ldc_w 260, 3) := by decide +kernel
theorem d_RR_requireDay_8 : decode k_RR_requireDay 8 = .ok (.if_icmp .le 14, 3) := by decide +kernel
theorem d_RR_requireDay_11 : decode k_RR_requireDay 11 = .ok (.new 129, 3) := by decide +kernel
theorem d_RR_requireDay_14 : decode k_RR_requireDay 14 = .ok (.dup, 1) := by decide +kernel
theorem d_RR_requireDay_15 : decode k_RR_requireDay 15 = .ok (.ldc_w 261, 3) := by decide +kernel
theorem d_RR_requireDay_18 : decode k_RR_requireDay 18 = .ok (.invokespecial 133, 3) := by decide +kernel
theorem d_RR_requireDay_21 : decode k_RR_requireDay 21 = .ok (.athrow, 1) := by decide +kernel
theorem d_RR_requireDay_22 : decode k_RR_requireDay 22 = .ok (.return_, 1) := by decide +kernel
theorem d_RR_openRules_0 : decode k_RR_openRules 0 = .ok (.aload_n 0, 1) := by decide +kernel
theorem d_RR_openRules_1 : decode k_RR_openRules 1 = .ok (.getfield 33, 3) := by decide +kernel
theorem d_RR_openRules_4 : decode k_RR_openRules 4 = .ok (.getfield 263, 3) := by decide +kernel
theorem d_RR_openRules_7 : decode k_RR_openRules 7 = .ok (.iload_n 1, 1) := by decide +kernel
theorem d_RR_openRules_8 : decode k_RR_openRules 8 = .ok (.iaload, 1) := by decide +kernel
theorem d_RR_openRules_9 : decode k_RR_openRules 9 = .ok (.istore 4, 2) := by decide +kernel
theorem d_RR_openRules_11 : decode k_RR_openRules 11 = .ok (.iload_n 3, 1) := by decide +kernel
theorem d_RR_openRules_12 : decode k_RR_openRules 12 = .ok (.aload_n 0, 1) := by decide +kernel
theorem d_RR_openRules_13 : decode k_RR_openRules 13 = .ok (.getfield 40, 3) := by decide +kernel
theorem d_RR_openRules_16 : decode k_RR_openRules 16 = .ok (.getfield 161, 3) := by decide +kernel
theorem d_RR_openRules_19 : decode k_RR_openRules 19 = .ok (.iload_n 2, 1) := by decide +kernel
theorem d_RR_openRules_20 : decode k_RR_openRules 20 = .ok (.iaload, 1) := by decide +kernel
theorem d_RR_openRules_21 : decode k_RR_openRules 21 = .ok (.if_icmp .gt 14, 3) := by decide +kernel
theorem d_RR_openRules_24 : decode k_RR_openRules 24 = .ok (.iload 4, 2) := by decide +kernel
theorem d_RR_openRules_26 : decode k_RR_openRules 26 = .ok (.sipush 128, 3) := by decide +kernel
theorem d_RR_openRules_29 : decode k_RR_openRules 29 = .ok (.iand, 1) := by decide +kernel
theorem d_RR_openRules_30 : decode k_RR_openRules 30 = .ok (.ifCond .ne 5, 3) := by decide +kernel
theorem d_RR_openRules_33 : decode k_RR_openRules 33 = .ok (.iconst 0, 1) := by decide +kernel
theorem d_RR_openRules_34 : decode k_RR_openRules 34 = .ok (.ireturn, 1) := by decide +kernel
theorem d_RR_openRules_35 : decode k_RR_openRules 35 = .ok (.aload_n 0, 1) := by decide +kernel
theorem d_RR_openRules_36 : decode k_RR_openRules 36 = .ok (.getfield 47, 3) := by decide +kernel
theorem d_RR_openRules_39 : decode k_RR_openRules 39 = .ok (.iload_n 1, 1) := by decide +kernel
theorem d_RR_openRules_40 : decode k_RR_openRules 40 = .ok (.iload_n 2, 1) := by decide +kernel
theorem d_RR_openRules_41 : decode k_RR_openRules 41 = .ok (.iload_n 3, 1) := by decide +kernel
theorem d_RR_openRules_42 : decode k_RR_openRules 42 = .ok (.invokevirtual 266, 3) := by decide +kernel
theorem d_RR_openRules_45 : decode k_RR_openRules 45 = .ok (.ifCond .eq 9, 3) := by decide +kernel
theorem d_RR_openRules_48 : decode k_RR_openRules 48 = .ok (.ldc_w 270, 3) := by decide +kernel
theorem d_RR_openRules_51 : decode k_RR_openRules 51 = .ok (.goto 4, 3) := by decide +kernel
theorem d_RR_openRules_54 : decode k_RR_openRules 54 = .ok (.iconst 0, 1) := by decide +kernel
theorem d_RR_openRules_55 : decode k_RR_openRules 55 = .ok (.istore 5, 2) := by decide +kernel
theorem d_RR_openRules_57 : decode k_RR_openRules 57 = .ok (.aload_n 0, 1) := by decide +kernel
theorem d_RR_openRules_58 : decode k_RR_openRules 58 = .ok (.getfield 26, 3) := by decide +kernel
theorem d_RR_openRules_61 : decode k_RR_openRules 61 = .ok (.iload 4, 2) := by decide +kernel
theorem d_RR_openRules_63 : decode k_RR_openRules 63 = .ok (.iconst 0, 1) := by decide +kernel
theorem d_RR_openRules_64 : decode k_RR_openRules 64 = .ok (.ishl, 1) := by decide +kernel
theorem d_RR_openRules_65 : decode k_RR_openRules 65 = .ok (.aload_n 0, 1) := by decide +kernel
theorem d_RR_openRules_66 : decode k_RR_openRules 66 = .ok (.getfield 40, 3) := by decide +kernel
theorem d_RR_openRules_69 : decode k_RR_openRules 69 = .ok (.getfield 271, 3) := by decide +kernel
theorem d_RR_openRules_72 : decode k_RR_openRules 72 = .ok (.iload_n 2, 1) := by decide +kernel
theorem d_RR_openRules_73 : decode k_RR_openRules 73 = .ok (.iaload, 1) := by decide +kernel
theorem d_RR_openRules_74 : decode k_RR_openRules 74 = .ok (.ior, 1) := by decide +kernel
theorem d_RR_openRules_75 : decode k_RR_openRules 75 = .ok (.iload 5, 2) := by decide +kernel
theorem d_RR_openRules_77 : decode k_RR_openRules 77 = .ok (.ior, 1) := by decide +kernel
theorem d_RR_openRules_78 : decode k_RR_openRules 78 = .ok (.ldc_w 274, 3) := by decide +kernel
theorem d_RR_openRules_81 : decode k_RR_openRules 81 = .ok (.invokevirtual 275, 3) := by decide +kernel
theorem d_RR_openRules_84 : decode k_RR_openRules 84 = .ok (.ireturn, 1) := by decide +kernel
theorem d_RR_rulesForField_0 : decode k_RR_rulesForField 0 = .ok (.iconst 1, 1) := by decide +kernel
theorem d_RR_rulesForField_1 : decode k_RR_rulesForField 1 = .ok (.bipush 12, 2) := by decide +kernel
theorem d_RR_rulesForField_3 : decode k_RR_rulesForField 3 = .ok (.iload_n 1, 1) := by decide +kernel
theorem d_RR_rulesForField_4 : decode k_RR_rulesForField 4 = .ok (.iadd, 1) := by decide +kernel
theorem d_RR_rulesForField_5 : decode k_RR_rulesForField 5 = .ok (.ishl, 1) := by decide +kernel
theorem d_RR_rulesForField_6 : decode k_RR_rulesForField 6 = .ok (.iconst 1, 1) := by decide +kernel
theorem d_RR_rulesForField_7 : decode k_RR_rulesForField 7 = .ok (.bipush 18, 2) := by decide +kernel
theorem d_RR_rulesForField_9 : decode k_RR_rulesForField 9 = .ok (.iload_n 2, 1) := by decide +kernel
theorem d_RR_rulesForField_10 : decode k_RR_rulesForField 10 = .ok (.iadd, 1) := by decide +kernel
theorem d_RR_rulesForField_11 : decode k_RR_rulesForField 11 = .ok (.ishl, 1) := by decide +kernel
theorem d_RR_rulesForField_12 : decode k_RR_rulesForField 12 = .ok (.ior, 1) := by decide +kernel
theorem d_RR_rulesForField_13 : decode k_RR_rulesForField 13 = .ok (.istore_n 3, 1) := by decide +kernel
theorem d_RR_rulesForField_14 : decode k_RR_rulesForField 14 = .ok (.aload_n 0, 1) := by decide +kernel
theorem d_RR_rulesForField_15 : decode k_RR_rulesForField 15 = .ok (.getfield 26, 3) := by decide +kernel
theorem d_RR_rulesForField_18 : decode k_RR_rulesForField 18 = .ok (.iload_n 3, 1) := by decide +kernel
theorem d_RR_rulesForField_19 : decode k_RR_rulesForField 19 = .ok (.ldc_w 278, 3) := by decide +kernel
theorem d_RR_rulesForField_22 : decode k_RR_rulesForField 22 = .ok (.invokevirtual 275, 3) := by decide +kernel
theorem d_RR_rulesForField_25 : decode k_RR_rulesForField 25 = .ok (.ireturn, 1) := by decide +kernel
theorem d_RR_isExportable_0 : decode k_RR_isExportable 0 = .ok (.iconst 0, 1) := by decide +kernel
theorem d_RR_isExportable_1 : decode k_RR_isExportable 1 = .ok (.istore_n 2, 1) := by decide +kernel
theorem d_RR_isExportable_2 : decode k_RR_isExportable 2 = .ok (.iload_n 2, 1) := by decide +kernel
theorem d_RR_isExportable_3 : decode k_RR_isExportable 3 = .ok (.bipush 6, 2) := by decide +kernel
theorem d_RR_isExportable_5 : decode k_RR_isExportable 5 = .ok (.if_icmp .ge 29, 3) := by decide +kernel
theorem d_RR_isExportable_8 : decode k_RR_isExportable 8 = .ok (.aload_n 0, 1) := by decide +kernel
theorem d_RR_isExportable_9 : decode k_RR_isExportable 9 = .ok (.getfield 26, 3) := by decide +kernel
theorem d_RR_isExportable_12 : decode k_RR_isExportable 12 = .ok (.iload_n 1, 1) := by decide +kernel
theorem d_RR_isExportable_13 : decode k_RR_isExportable 13 = .ok (.aload_n 0, 1) := by decide +kernel
theorem d_RR_isExportable_14 : decode k_RR_isExportable 14 = .ok (.iload_n 2, 1) := by decide +kernel
theorem d_RR_isExportable_15 : decode k_RR_isExportable 15 = .ok (.iconst 3, 1) := by decide +kernel
theorem d_RR_isExportable_16 : decode k_RR_isExportable 16 = .ok (.invokevirtual 180, 3) := by decide +kernel
theorem d_RR_isExportable_19 : decode k_RR_isExportable 19 = .ok (.iand, 1) := by decide +kernel
theorem d_RR_isExportable_20 : decode k_RR_isExportable 20 = .ok (.invokevirtual 184, 3) := by decide +kernel
theorem d_RR_isExportable_23 : decode k_RR_isExportable 23 = .ok (.ifCond .ne 5, 3) := by decide +kernel
theorem d_RR_isExportable_26 : decode k_RR_isExportable 26 = .ok (.iconst 0, 1) := by decide +kernel
theorem d_RR_isExportable_27 : decode k_RR_isExportable 27 = .ok (.ireturn, 1) := by decide +kernel
theorem d_RR_isExportable_28 : decode k_RR_isExportable 28 = .ok (.iinc 2 1, 3) := by decide +kernel
theorem d_RR_isExportable_31 : decode k_RR_isExportable 31 = .ok (.goto (-29), 3) := by decide +kernel
theorem d_RR_isExportable_34 : decode k_RR_isExportable 34 = .ok (.iconst 1, 1) := by decide +kernel
theorem d_RR_isExportable_35 : decode k_RR_isExportable 35 = .ok (.ireturn, 1) := by decide +kernel
theorem d_RR_fillFieldRules_0 : decode k_RR_fillFieldRules 0 = .ok (.iconst 0, 1) := by decide +kernel
theorem d_RR_fillFieldRules_1 : decode k_RR_fillFieldRules 1 = .ok (.istore_n 1, 1) := by decide +kernel
theorem d_RR_fillFieldRules_2 : decode k_RR_fillFieldRules 2 = .ok (.iload_n 1, 1) := by decide +kernel
theorem d_RR_fillFieldRules_3 : decode k_RR_fillFieldRules 3 = .ok (.bipush 6, 2) := by decide +kernel
theorem d_RR_fillFieldRules_5 : decode k_RR_fillFieldRules 5 = .ok (.if_icmp .ge 38, 3) := by decide +kernel
theorem d_RR_fillFieldRules_8 : decode k_RR_fillFieldRules 8 = .ok (.iconst 0, 1) := by decide +kernel
theorem d_RR_fillFieldRules_9 : decode k_RR_fillFieldRules 9 = .ok (.istore_n 2, 1) := by decide +kernel
theorem d_RR_fillFieldRules_10 : decode k_RR_fillFieldRules 10 = .ok (.iload_n 2, 1) := by decide +kernel
theorem d_RR_fillFieldRules_11 : decode k_RR_fillFieldRules 11 = .ok (.iconst 4, 1) := by decide +kernel
theorem d_RR_fillFieldRules_12 : decode k_RR_fillFieldRules 12 = .ok (.if_icmp .ge 25, 3) := by decide +kernel
theorem d_RR_fillFieldRules_15 : decode k_RR_fillFieldRules 15 = .ok (.aload_n 0, 1) := by decide +kernel
theorem d_RR_fillFieldRules_16 : decode k_RR_fillFieldRules 16 = .ok (.getfield 72, 3) := by decide +kernel
theorem d_RR_fillFieldRules_19 : decode k_RR_fillFieldRules 19 = .ok (.iload_n 1, 1) := by decide +kernel
theorem d_RR_fillFieldRules_20 : decode k_RR_fillFieldRules 20 = .ok (.iconst 4, 1) := by decide +kernel
theorem d_RR_fillFieldRules_21 : decode k_RR_fillFieldRules 21 = .ok (.imul, 1) := by decide +kernel
theorem d_RR_fillFieldRules_22 : decode k_RR_fillFieldRules 22 = .ok (.iload_n 2, 1) := by decide +kernel
theorem d_RR_fillFieldRules_23 : decode k_RR_fillFieldRules 23 = .ok (.iadd, 1) := by decide +kernel
theorem d_RR_fillFieldRules_24 : decode k_RR_fillFieldRules 24 = .ok (.aload_n 0, 1) := by decide +kernel
theorem d_RR_fillFieldRules_25 : decode k_RR_fillFieldRules 25 = .ok (.iload_n 1, 1) := by decide +kernel
theorem d_RR_fillFieldRules_26 : decode k_RR_fillFieldRules 26 = .ok (.iload_n 2, 1) := by decide +kernel
theorem d_RR_fillFieldRules_27 : decode k_RR_fillFieldRules 27 = .ok (.invokevirtual 180, 3) := by decide +kernel
theorem d_RR_fillFieldRules_30 : decode k_RR_fillFieldRules 30 = .ok (.iastore, 1) := by decide +kernel
theorem d_RR_fillFieldRules_31 : decode k_RR_fillFieldRules 31 = .ok (.iinc 2 1, 3) := by decide +kernel
theorem d_RR_fillFieldRules_34 : decode k_RR_fillFieldRules 34 = .ok (.goto (-24), 3) := by decide +kernel
theorem d_RR_fillFieldRules_37 : decode k_RR_fillFieldRules 37 = .ok (.iinc 1 1, 3) := by decide +kernel
theorem d_RR_fillFieldRules_40 : decode k_RR_fillFieldRules 40 = .ok (.goto (-38), 3) := by decide +kernel
theorem d_RR_fillFieldRules_43 : decode k_RR_fillFieldRules 43 = .ok (.return_, 1) := by decide +kernel
theorem d_RR_neededRules_0 : decode k_RR_neededRules 0 = .ok (.iconst 0, 1) := by decide +kernel
theorem d_RR_neededRules_1 : decode k_RR_neededRules 1 = .ok (.istore_n 2, 1) := by decide +kernel
theorem d_RR_neededRules_2 : decode k_RR_neededRules 2 = .ok (.iconst 0, 1) := by decide +kernel
theorem d_RR_neededRules_3 : decode k_RR_neededRules 3 = .ok (.istore_n 3, 1) := by decide +kernel
theorem d_RR_neededRules_4 : decode k_RR_neededRules 4 = .ok (.iload_n 3, 1) := by decide +kernel
theorem d_RR_neededRules_5 : decode k_RR_neededRules 5 = .ok (.bipush 24, 2) := by decide +kernel
theorem d_RR_neededRules_7 : decode k_RR_neededRules 7 = .ok (.if_icmp .ge 27, 3) := by decide +kernel
theorem d_RR_neededRules_10 : decode k_RR_neededRules 10 = .ok (.iload_n 2, 1) := by decide +kernel
theorem d_RR_neededRules_11 : decode k_RR_neededRules 11 = .ok (.aload_n 0, 1) := by decide +kernel
theorem d_RR_neededRules_12 : decode k_RR_neededRules 12 = .ok (.getfield 26, 3) := by decide +kernel
theorem d_RR_neededRules_15 : decode k_RR_neededRules 15 = .ok (.iload_n 1, 1) := by decide +kernel
theorem d_RR_neededRules_16 : decode k_RR_neededRules 16 = .ok (.aload_n 0, 1) := by decide +kernel
theorem d_RR_neededRules_17 : decode k_RR_neededRules 17 = .ok (.getfield 72, 3) := by decide +kernel
theorem d_RR_neededRules_20 : decode k_RR_neededRules 20 = .ok (.iload_n 3, 1) := by decide +kernel
theorem d_RR_neededRules_21 : decode k_RR_neededRules 21 = .ok (.iaload, 1) := by decide +kernel
theorem d_RR_neededRules_22 : decode k_RR_neededRules 22 = .ok (.iand, 1) := by decide +kernel
theorem d_RR_neededRules_23 : decode k_RR_neededRules 23 = .ok (.invokevirtual 279, 3) := by decide +kernel
theorem d_RR_neededRules_26 : decode k_RR_neededRules 26 = .ok (.ior, 1) := by decide +kernel
theorem d_RR_neededRules_27 : decode k_RR_neededRules 27 = .ok (.istore_n 2, 1) := by decide +kernel
theorem d_RR_neededRules_28 : decode k_RR_neededRules 28 = .ok (.iinc 3 1, 3) := by decide +kernel
theorem d_RR_neededRules_31 : decode k_RR_neededRules 31 = .ok (.goto (-27), 3) := by decide +kernel
theorem d_RR_neededRules_34 : decode k_RR_neededRules 34 = .ok (.iload_n 2, 1) := by decide +kernel
theorem d_RR_neededRules_35 : decode k_RR_neededRules 35 = .ok (.ireturn, 1) := by decide +kernel
theorem d_AG_init_0 : decode k_AG_init 0 = .ok (.aload_n 0, 1) := by decide +kernel
theorem d_AG_init_1 : decode k_AG_init 1 = .ok (.invokespecial 3, 3) := by decide +kernel
theorem d_AG_init_4 : decode k_AG_init 4 = .ok (.aload_n 0, 1) := by decide +kernel
theorem d_AG_init_5 : decode k_AG_init 5 = .ok (.bipush 40, 2) := by decide +kernel
theorem d_AG_init_7 : decode k_AG_init 7 = .ok (.newarray .int, 2) := by decide +kernel
theorem d_AG_init_9 : decode k_AG_init 9 = .ok (.putfield 9, 3) := by decide +kernel
theorem d_AG_init_12 : decode k_AG_init 12 = .ok (.aload_n 0, 1) := by decide +kernel
theorem d_AG_init_13 : decode k_AG_init 13 = .ok (.bipush 40, 2) := by decide +kernel
theorem d_AG_init_15 : decode k_AG_init 15 = .ok (.newarray .int, 2) := by decide +kernel
theorem d_AG_init_17 : decode k_AG_init 17 = .ok (.putfield 15, 3) := by decide +kernel
theorem d_AG_init_20 : decode k_AG_init 20 = .ok (.aload_n 0, 1) := by decide +kernel
theorem d_AG_init_21 : decode k_AG_init 21 = .ok (.bipush 40, 2) := by decide +kernel
theorem d_AG_init_23 : decode k_AG_init 23 = .ok (.newarray .int, 2) := by decide +kernel
theorem d_AG_init_25 : decode k_AG_init 25 = .ok (.putfield 18, 3) := by decide +kernel
theorem d_AG_init_28 : decode k_AG_init 28 = .ok (.aload_n 0, 1) := by decide +kernel
theorem d_AG_init_29 : decode k_AG_init 29 = .ok (.bipush 40, 2) := by decide +kernel
theorem d_AG_init_31 : decode k_AG_init 31 = .ok (.newarray .int, 2) := by decide +kernel
theorem d_AG_init_33 : decode k_AG_init 33 = .ok (.putfield 21, 3) := by decide +kernel
theorem d_AG_init_36 : decode k_AG_init 36 = .ok (.return_, 1) := by decide +kernel
theorem d_AG_add_0 : decode k_AG_add 0 = .ok (.aload_n 0, 1) := by decide +kernel
theorem d_AG_add_1 : decode k_AG_add 1 = .ok (.getfield 9, 3) := by decide +kernel
theorem d_AG_add_4 : decode k_AG_add 4 = .ok (.aload_n 0, 1) := by decide +kernel
theorem d_AG_add_5 : decode k_AG_add 5 = .ok (.getfield 24, 3) := by decide +kernel
theorem d_AG_add_8 : decode k_AG_add 8 = .ok (.iload_n 1, 1) := by decide +kernel
theorem d_AG_add_9 : decode k_AG_add 9 = .ok (.iastore, 1) := by decide +kernel
theorem d_AG_add_10 : decode k_AG_add 10 = .ok (.aload_n 0, 1) := by decide +kernel
theorem d_AG_add_11 : decode k_AG_add 11 = .ok (.getfield 15, 3) := by decide +kernel
theorem d_AG_add_14 : decode k_AG_add 14 = .ok (.aload_n 0, 1) := by decide +kernel
theorem d_AG_add_15 : decode k_AG_add 15 = .ok (.getfield 24, 3) := by decide +kernel
theorem d_AG_add_18 : decode k_AG_add 18 = .ok (.iload_n 2, 1) := by decide +kernel
theorem d_AG_add_19 : decode k_AG_add 19 = .ok (.iastore, 1) := by decide +kernel
theorem d_AG_add_20 : decode k_AG_add 20 = .ok (.aload_n 0, 1) := by decide +kernel
theorem d_AG_add_21 : decode k_AG_add 21 = .ok (.getfield 18, 3) := by decide +kernel
theorem d_AG_add_24 : decode k_AG_add 24 = .ok (.aload_n 0, 1) := by decide +kernel
theorem d_AG_add_25 : decode k_AG_add 25 = .ok (.getfield 24, 3) := by decide +kernel
theorem d_AG_add_28 : decode k_AG_add 28 = .ok (.iload_n 3, 1) := by decide +kernel
theorem d_AG_add_29 : decode k_AG_add 29 = .ok (.iastore, 1) := by decide +kernel
theorem d_AG_add_30 : decode k_AG_add 30 = .ok (.aload_n 0, 1) := by decide +kernel
theorem d_AG_add_31 : decode k_AG_add 31 = .ok (.getfield 21, 3) := by decide +kernel
theorem d_AG_add_34 : decode k_AG_add 34 = .ok (.aload_n 0, 1) := by decide +kernel
theorem d_AG_add_35 : decode k_AG_add 35 = .ok (.getfield 24, 3) := by decide +kernel
theorem d_AG_add_38 : decode k_AG_add 38 = .ok (.iload 4, 2) := by decide +kernel
theorem d_AG_add_40 : decode k_AG_add 40 = .ok (.iastore, 1) := by decide +kernel
theorem d_AG_add_41 : decode k_AG_add 41 = .ok (.aload_n 0, 1) := by decide +kernel
theorem d_AG_add_42 : decode k_AG_add 42 = .ok (.dup, 1) := by decide +kernel
theorem d_AG_add_43 : decode k_AG_add 43 = .ok (.getfield 24, 3) := by decide +kernel
theorem d_AG_add_46 : decode k_AG_add 46 = .ok (.iconst 1, 1) := by decide +kernel
theorem d_AG_add_47 : decode k_AG_add 47 = .ok (.iadd, 1) := by decide +kernel
theorem d_AG_add_48 : decode k_AG_add 48 = .ok (.putfield 24, 3) := by decide +kernel
theorem d_AG_add_51 : decode k_AG_add 51 = .ok (.return_, 1) := by decide +kernel
theorem d_AG_hold_0 : decode k_AG_hold 0 = .ok (.iconst 0, 1) := by decide +kernel
theorem d_AG_hold_1 : decode k_AG_hold 1 = .ok (.istore 4, 2) := by decide +kernel
theorem d_AG_hold_3 : decode k_AG_hold 3 = .ok (.iload 4, 2) := by decide +kernel
theorem d_AG_hold_5 : decode k_AG_hold 5 = .ok (.aload_n 0, 1) := by decide +kernel
theorem d_AG_hold_6 : decode k_AG_hold 6 = .ok (.getfield 24, 3) := by decide +kernel
theorem d_AG_hold_9 : decode k_AG_hold 9 = .ok (.if_icmp .ge 55, 3) := by decide +kernel
theorem d_AG_hold_12 : decode k_AG_hold 12 = .ok (.aload_n 0, 1) := by decide +kernel
theorem d_AG_hold_13 : decode k_AG_hold 13 = .ok (.getfield 9, 3) := by decide +kernel
theorem d_AG_hold_16 : decode k_AG_hold 16 = .ok (.iload 4, 2) := by decide +kernel
theorem d_AG_hold_18 : decode k_AG_hold 18 = .ok (.iaload, 1) := by decide +kernel
theorem d_AG_hold_19 : decode k_AG_hold 19 = .ok (.iload_n 1, 1) := by decide +kernel
theorem d_AG_hold_20 : decode k_AG_hold 20 = .ok (.if_icmp .ne 38, 3) := by decide +kernel
theorem d_AG_hold_23 : decode k_AG_hold 23 = .ok (.aload_n 0, 1) := by decide +kernel
theorem d_AG_hold_24 : decode k_AG_hold 24 = .ok (.getfield 15, 3) := by decide +kernel
theorem d_AG_hold_27 : decode k_AG_hold 27 = .ok (.iload 4, 2) := by decide +kernel
theorem d_AG_hold_29 : decode k_AG_hold 29 = .ok (.iaload, 1) := by decide +kernel
theorem d_AG_hold_30 : decode k_AG_hold 30 = .ok (.iload_n 2, 1) := by decide +kernel
theorem d_AG_hold_31 : decode k_AG_hold 31 = .ok (.if_icmp .ne 27, 3) := by decide +kernel
theorem d_AG_hold_34 : decode k_AG_hold 34 = .ok (.aload_n 0, 1) := by decide +kernel
theorem d_AG_hold_35 : decode k_AG_hold 35 = .ok (.getfield 18, 3) := by decide +kernel
theorem d_AG_hold_38 : decode k_AG_hold 38 = .ok (.iload 4, 2) := by decide +kernel
theorem d_AG_hold_40 : decode k_AG_hold 40 = .ok (.iaload, 1) := by decide +kernel
theorem d_AG_hold_41 : decode k_AG_hold 41 = .ok (.iload_n 3, 1) := by decide +kernel
theorem d_AG_hold_42 : decode k_AG_hold 42 = .ok (.if_icmp .gt 16, 3) := by decide +kernel
theorem d_AG_hold_45 : decode k_AG_hold 45 = .ok (.iload_n 3, 1) := by decide +kernel
theorem d_AG_hold_46 : decode k_AG_hold 46 = .ok (.aload_n 0, 1) := by decide +kernel
theorem d_AG_hold_47 : decode k_AG_hold 47 = .ok (.getfield 21, 3) := by decide +kernel
theorem d_AG_hold_50 : decode k_AG_hold 50 = .ok (.iload 4, 2) := by decide +kernel
theorem d_AG_hold_52 : decode k_AG_hold 52 = .ok (.iaload, 1) := by decide +kernel
theorem d_AG_hold_53 : decode k_AG_hold 53 = .ok (.if_icmp .gt 5, 3) := by decide +kernel
theorem d_AG_hold_56 : decode k_AG_hold 56 = .ok (.iconst 1, 1) := by decide +kernel
theorem d_AG_hold_57 : decode k_AG_hold 57 = .ok (.ireturn, 1) := by decide +kernel
theorem d_AG_hold_58 : decode k_AG_hold 58 = .ok (.iinc 4 1, 3) := by decide +kernel
theorem d_AG_hold_61 : decode k_AG_hold 61 = .ok (.goto (-58), 3) := by decide +kernel
theorem d_AG_hold_64 : decode k_AG_hold 64 = .ok (.iconst 0, 1) := by decide +kernel
theorem d_AG_hold_65 : decode k_AG_hold 65 = .ok (.ireturn, 1) := by decide +kernel
theorem d_EX_init_0 : decode k_EX_init 0 = .ok (.aload_n 0, 1) := by decide +kernel
theorem d_EX_init_1 : decode k_EX_init 1 = .ok (.invokespecial 3, 3) := by decide +kernel
theorem d_EX_init_4 : decode k_EX_init 4 = .ok (.aload_n 0, 1) := by decide +kernel
theorem d_EX_init_5 : decode k_EX_init 5 = .ok (.bipush 16, 2) := by decide +kernel
theorem d_EX_init_7 : decode k_EX_init 7 = .ok (.newarray .int, 2) := by decide +kernel
theorem d_EX_init_9 : decode k_EX_init 9 = .ok (.putfield 9, 3) := by decide +kernel
theorem d_EX_init_12 : decode k_EX_init 12 = .ok (.return_, 1) := by decide +kernel
theorem d_EX_add_0 : decode k_EX_add 0 = .ok (.aload_n 0, 1) := by decide +kernel
theorem d_EX_add_1 : decode k_EX_add 1 = .ok (.getfield 9, 3) := by decide +kernel
theorem d_EX_add_4 : decode k_EX_add 4 = .ok (.aload_n 0, 1) := by decide +kernel
theorem d_EX_add_5 : decode k_EX_add 5 = .ok (.getfield 15, 3) := by decide +kernel
theorem d_EX_add_8 : decode k_EX_add 8 = .ok (.iload_n 1, 1) := by decide +kernel
theorem d_EX_add_9 : decode k_EX_add 9 = .ok (.iastore, 1) := by decide +kernel
theorem d_EX_add_10 : decode k_EX_add 10 = .ok (.aload_n 0, 1) := by decide +kernel
theorem d_EX_add_11 : decode k_EX_add 11 = .ok (.dup, 1) := by decide +kernel
theorem d_EX_add_12 : decode k_EX_add 12 = .ok (.getfield 15, 3) := by decide +kernel
theorem d_EX_add_15 : decode k_EX_add 15 = .ok (.iconst 1, 1) := by decide +kernel
theorem d_EX_add_16 : decode k_EX_add 16 = .ok (.iadd, 1) := by decide +kernel
theorem d_EX_add_17 : decode k_EX_add 17 = .ok (.putfield 15, 3) := by decide +kernel
theorem d_EX_add_20 : decode k_EX_add 20 = .ok (.return_, 1) := by decide +kernel
theorem d_HO_init_0 : decode k_HO_init 0 = .ok (.aload_n 0, 1) := by decide +kernel
theorem d_HO_init_1 : decode k_HO_init 1 = .ok (.invokespecial 3, 3) := by decide +kernel
theorem d_HO_init_4 : decode k_HO_init 4 = .ok (.aload_n 0, 1) := by decide +kernel
theorem d_HO_init_5 : decode k_HO_init 5 = .ok (.bipush 16, 2) := by decide +kernel
theorem d_HO_init_7 : decode k_HO_init 7 = .ok (.newarray .int, 2) := by decide +kernel
theorem d_HO_init_9 : decode k_HO_init 9 = .ok (.putfield 9, 3) := by decide +kernel
theorem d_HO_init_12 : decode k_HO_init 12 = .ok (.aload_n 0, 1) := by decide +kernel
theorem d_HO_init_13 : decode k_HO_init 13 = .ok (.bipush 16, 2) := by decide +kernel
theorem d_HO_init_15 : decode k_HO_init 15 = .ok (.newarray .int, 2) := by decide +kernel
theorem d_HO_init_17 : decode k_HO_init 17 = .ok (.putfield 15, 3) := by decide +kernel
theorem d_HO_init_20 : decode k_HO_init 20 = .ok (.aload_n 0, 1) := by decide +kernel
theorem d_HO_init_21 : decode k_HO_init 21 = .ok (.bipush 96, 2) := by decide +kernel
theorem d_HO_init_23 : decode k_HO_init 23 = .ok (.newarray .long, 2) := by decide +kernel
theorem d_HO_init_25 : decode k_HO_init 25 = .ok (.putfield 18, 3) := by decide +kernel
theorem d_HO_init_28 : decode k_HO_init 28 = .ok (.return_, 1) := by decide +kernel
theorem d_HO_add_0 : decode k_HO_add 0 = .ok (.aload_n 0, 1) := by decide +kernel
theorem d_HO_add_1 : decode k_HO_add 1 = .ok (.getfield 9, 3) := by decide +kernel
theorem d_HO_add_4 : decode k_HO_add 4 = .ok (.aload_n 0, 1) := by decide +kernel
theorem d_HO_add_5 : decode k_HO_add 5 = .ok (.getfield 22, 3) := by decide +kernel
theorem d_HO_add_8 : decode k_HO_add 8 = .ok (.iload_n 1, 1) := by decide +kernel
theorem d_HO_add_9 : decode k_HO_add 9 = .ok (.iastore, 1) := by decide +kernel
theorem d_HO_add_10 : decode k_HO_add 10 = .ok (.aload_n 0, 1) := by decide +kernel
theorem d_HO_add_11 : decode k_HO_add 11 = .ok (.getfield 15, 3) := by decide +kernel
theorem d_HO_add_14 : decode k_HO_add 14 = .ok (.aload_n 0, 1) := by decide +kernel
theorem d_HO_add_15 : decode k_HO_add 15 = .ok (.getfield 22, 3) := by decide +kernel
theorem d_HO_add_18 : decode k_HO_add 18 = .ok (.iconst (-1), 1) := by decide +kernel
theorem d_HO_add_19 : decode k_HO_add 19 = .ok (.iastore, 1) := by decide +kernel
theorem d_HO_add_20 : decode k_HO_add 20 = .ok (.aload_n 0, 1) := by decide +kernel
theorem d_HO_add_21 : decode k_HO_add 21 = .ok (.dup, 1) := by decide +kernel
theorem d_HO_add_22 : decode k_HO_add 22 = .ok (.getfield 22, 3) := by decide +kernel
theorem d_HO_add_25 : decode k_HO_add 25 = .ok (.iconst 1, 1) := by decide +kernel
theorem d_HO_add_26 : decode k_HO_add 26 = .ok (.iadd, 1) := by decide +kernel
theorem d_HO_add_27 : decode k_HO_add 27 = .ok (.putfield 22, 3) := by decide +kernel
theorem d_HO_add_30 : decode k_HO_add 30 = .ok (.aload_n 0, 1) := by decide +kernel
theorem d_HO_add_31 : decode k_HO_add 31 = .ok (.getfield 22, 3) := by decide +kernel
theorem d_HO_add_34 : decode k_HO_add 34 = .ok (.iconst 1, 1) := by decide +kernel
theorem d_HO_add_35 : decode k_HO_add 35 = .ok (.isub, 1) := by decide +kernel
theorem d_HO_add_36 : decode k_HO_add 36 = .ok (.ireturn, 1) := by decide +kernel
theorem d_HO_at_0 : decode k_HO_at 0 = .ok (.aload_n 0, 1) := by decide +kernel
theorem d_HO_at_1 : decode k_HO_at 1 = .ok (.getfield 18, 3) := by decide +kernel
theorem d_HO_at_4 : decode k_HO_at 4 = .ok (.iload_n 1, 1) := by decide +kernel
theorem d_HO_at_5 : decode k_HO_at 5 = .ok (.bipush 6, 2) := by decide +kernel
theorem d_HO_at_7 : decode k_HO_at 7 = .ok (.imul, 1) := by decide +kernel
theorem d_HO_at_8 : decode k_HO_at 8 = .ok (.iload_n 2, 1) := by decide +kernel
theorem d_HO_at_9 : decode k_HO_at 9 = .ok (.iadd, 1) := by decide +kernel
theorem d_HO_at_10 : decode k_HO_at 10 = .ok (.laload, 1) := by decide +kernel
theorem d_HO_at_11 : decode k_HO_at 11 = .ok (.lreturn, 1) := by decide +kernel
theorem d_HO_put_0 : decode k_HO_put 0 = .ok (.aload_n 0, 1) := by decide +kernel
theorem d_HO_put_1 : decode k_HO_put 1 = .ok (.iload_n 1, 1) := by decide +kernel
theorem d_HO_put_2 : decode k_HO_put 2 = .ok (.iload_n 2, 1) := by decide +kernel
theorem d_HO_put_3 : decode k_HO_put 3 = .ok (.invokevirtual 26, 3) := by decide +kernel
theorem d_HO_put_6 : decode k_HO_put 6 = .ok (.lstore 5, 2) := by decide +kernel
theorem d_HO_put_8 : decode k_HO_put 8 = .ok (.aload_n 0, 1) := by decide +kernel
theorem d_HO_put_9 : decode k_HO_put 9 = .ok (.getfield 18, 3) := by decide +kernel
theorem d_HO_put_12 : decode k_HO_put 12 = .ok (.iload_n 1, 1) := by decide +kernel
theorem d_HO_put_13 : decode k_HO_put 13 = .ok (.bipush 6, 2) := by decide +kernel
theorem d_HO_put_15 : decode k_HO_put 15 = .ok (.imul, 1) := by decide +kernel
theorem d_HO_put_16 : decode k_HO_put 16 = .ok (.iload_n 2, 1) := by decide +kernel
theorem d_HO_put_17 : decode k_HO_put 17 = .ok (.iadd, 1) := by decide +kernel
theorem d_HO_put_18 : decode k_HO_put 18 = .ok (.lload_n 3, 1) := by decide +kernel
theorem d_HO_put_19 : decode k_HO_put 19 = .ok (.lastore, 1) := by decide +kernel
theorem d_HO_put_20 : decode k_HO_put 20 = .ok (.lload 5, 2) := by decide +kernel
theorem d_HO_put_22 : decode k_HO_put 22 = .ok (.lreturn, 1) := by decide +kernel
theorem d_LO_init_0 : decode k_LO_init 0 = .ok (.aload_n 0, 1) := by decide +kernel
theorem d_LO_init_1 : decode k_LO_init 1 = .ok (.invokespecial 3, 3) := by decide +kernel
theorem d_LO_init_4 : decode k_LO_init 4 = .ok (.aload_n 0, 1) := by decide +kernel
theorem d_LO_init_5 : decode k_LO_init 5 = .ok (.sipush 600, 3) := by decide +kernel
theorem d_LO_init_8 : decode k_LO_init 8 = .ok (.newarray .int, 2) := by decide +kernel
theorem d_LO_init_10 : decode k_LO_init 10 = .ok (.putfield 9, 3) := by decide +kernel
theorem d_LO_init_13 : decode k_LO_init 13 = .ok (.aload_n 0, 1) := by decide +kernel
theorem d_LO_init_14 : decode k_LO_init 14 = .ok (.bipush 16, 2) := by decide +kernel
theorem d_LO_init_16 : decode k_LO_init 16 = .ok (.newarray .int, 2) := by decide +kernel
theorem d_LO_init_18 : decode k_LO_init 18 = .ok (.putfield 15, 3) := by decide +kernel
theorem d_LO_init_21 : decode k_LO_init 21 = .ok (.return_, 1) := by decide +kernel
theorem d_LO_keep_0 : decode k_LO_keep 0 = .ok (.aload_n 0, 1) := by decide +kernel
theorem d_LO_keep_1 : decode k_LO_keep 1 = .ok (.getfield 18, 3) := by decide +kernel
theorem d_LO_keep_4 : decode k_LO_keep 4 = .ok (.bipush 6, 2) := by decide +kernel
theorem d_LO_keep_6 : decode k_LO_keep 6 = .ok (.imul, 1) := by decide +kernel
theorem d_LO_keep_7 : decode k_LO_keep 7 = .ok (.istore 7, 2) := by decide +kernel
theorem d_LO_keep_9 : decode k_LO_keep 9 = .ok (.aload_n 0, 1) := by decide +kernel
theorem d_LO_keep_10 : decode k_LO_keep 10 = .ok (.getfield 9, 3) := by decide +kernel
theorem d_LO_keep_13 : decode k_LO_keep 13 = .ok (.iload 7, 2) := by decide +kernel
theorem d_LO_keep_15 : decode k_LO_keep 15 = .ok (.iload_n 1, 1) := by decide +kernel
theorem d_LO_keep_16 : decode k_LO_keep 16 = .ok (.iastore, 1) := by decide +kernel
theorem d_LO_keep_17 : decode k_LO_keep 17 = .ok (.aload_n 0, 1) := by decide +kernel
theorem d_LO_keep_18 : decode k_LO_keep 18 = .ok (.getfield 9, 3) := by decide +kernel
theorem d_LO_keep_21 : decode k_LO_keep 21 = .ok (.iload 7, 2) := by decide +kernel
theorem d_LO_keep_23 : decode k_LO_keep 23 = .ok (.iconst 1, 1) := by decide +kernel
theorem d_LO_keep_24 : decode k_LO_keep 24 = .ok (.iadd, 1) := by decide +kernel
theorem d_LO_keep_25 : decode k_LO_keep 25 = .ok (.iload_n 2, 1) := by decide +kernel
theorem d_LO_keep_26 : decode k_LO_keep 26 = .ok (.iastore, 1) := by decide +kernel
theorem d_LO_keep_27 : decode k_LO_keep 27 = .ok (.aload_n 0, 1) := by decide +kernel
theorem d_LO_keep_28 : decode k_LO_keep 28 = .ok (.getfield 9, 3) := by decide +kernel
theorem d_LO_keep_31 : decode k_LO_keep 31 = .ok (.iload 7, 2) := by decide +kernel
theorem d_LO_keep_33 : decode k_LO_keep 33 = .ok (.iconst 2, 1) := by decide +kernel
theorem d_LO_keep_34 : decode k_LO_keep 34 = .ok (.iadd, 1) := by decide +kernel
theorem d_LO_keep_35 : decode k_LO_keep 35 = .ok (.iload_n 3, 1) := by decide +kernel
theorem d_LO_keep_36 : decode k_LO_keep 36 = .ok (.iastore, 1) := by decide +kernel
theorem d_LO_keep_37 : decode k_LO_keep 37 = .ok (.aload_n 0, 1) := by decide +kernel
theorem d_LO_keep_38 : decode k_LO_keep 38 = .ok (.getfield 9, 3) := by decide +kernel
theorem d_LO_keep_41 : decode k_LO_keep 41 = .ok (.iload 7, 2) := by decide +kernel
theorem d_LO_keep_43 : decode k_LO_keep 43 = .ok (.iconst 3, 1) := by decide +kernel
theorem d_LO_keep_44 : decode k_LO_keep 44 = .ok (.iadd, 1) := by decide +kernel
theorem d_LO_keep_45 : decode k_LO_keep 45 = .ok (.iload 4, 2) := by decide +kernel
theorem d_LO_keep_47 : decode k_LO_keep 47 = .ok (.iastore, 1) := by decide +kernel
theorem d_LO_keep_48 : decode k_LO_keep 48 = .ok (.aload_n 0, 1) := by decide +kernel
theorem d_LO_keep_49 : decode k_LO_keep 49 = .ok (.getfield 9, 3) := by decide +kernel
theorem d_LO_keep_52 : decode k_LO_keep 52 = .ok (.iload 7, 2) := by decide +kernel
theorem d_LO_keep_54 : decode k_LO_keep 54 = .ok (.iconst 4, 1) := by decide +kernel
theorem d_LO_keep_55 : decode k_LO_keep 55 = .ok (.iadd, 1) := by decide +kernel
theorem d_LO_keep_56 : decode k_LO_keep 56 = .ok (.iload 5, 2) := by decide +kernel
theorem d_LO_keep_58 : decode k_LO_keep 58 = .ok (.iastore, 1) := by decide +kernel
theorem d_LO_keep_59 : decode k_LO_keep 59 = .ok (.aload_n 0, 1) := by decide +kernel
theorem d_LO_keep_60 : decode k_LO_keep 60 = .ok (.getfield 9, 3) := by decide +kernel
theorem d_LO_keep_63 : decode k_LO_keep 63 = .ok (.iload 7, 2) := by decide +kernel
theorem d_LO_keep_65 : decode k_LO_keep 65 = .ok (.iconst 5, 1) := by decide +kernel
theorem d_LO_keep_66 : decode k_LO_keep 66 = .ok (.iadd, 1) := by decide +kernel
theorem d_LO_keep_67 : decode k_LO_keep 67 = .ok (.iload 6, 2) := by decide +kernel
theorem d_LO_keep_69 : decode k_LO_keep 69 = .ok (.iastore, 1) := by decide +kernel
theorem d_LO_keep_70 : decode k_LO_keep 70 = .ok (.aload_n 0, 1) := by decide +kernel
theorem d_LO_keep_71 : decode k_LO_keep 71 = .ok (.getfield 15, 3) := by decide +kernel
theorem d_LO_keep_74 : decode k_LO_keep 74 = .ok (.iload_n 2, 1) := by decide +kernel
theorem d_LO_keep_75 : decode k_LO_keep 75 = .ok (.dup2, 1) := by decide +kernel
theorem d_LO_keep_76 : decode k_LO_keep 76 = .ok (.iaload, 1) := by decide +kernel
theorem d_LO_keep_77 : decode k_LO_keep 77 = .ok (.iconst 1, 1) := by decide +kernel
theorem d_LO_keep_78 : decode k_LO_keep 78 = .ok (.iload_n 1, 1) := by decide +kernel
theorem d_LO_keep_79 : decode k_LO_keep 79 = .ok (.ishl, 1) := by decide +kernel
theorem d_LO_keep_80 : decode k_LO_keep 80 = .ok (.ior, 1) := by decide +kernel
theorem d_LO_keep_81 : decode k_LO_keep 81 = .ok (.iastore, 1) := by decide +kernel
theorem d_LO_keep_82 : decode k_LO_keep 82 = .ok (.aload_n 0, 1) := by decide +kernel
theorem d_LO_keep_83 : decode k_LO_keep 83 = .ok (.dup, 1) := by decide +kernel
theorem d_LO_keep_84 : decode k_LO_keep 84 = .ok (.getfield 18, 3) := by decide +kernel
theorem d_LO_keep_87 : decode k_LO_keep 87 = .ok (.iconst 1, 1) := by decide +kernel
theorem d_LO_keep_88 : decode k_LO_keep 88 = .ok (.iadd, 1) := by decide +kernel
theorem d_LO_keep_89 : decode k_LO_keep 89 = .ok (.putfield 18, 3) := by decide +kernel
theorem d_LO_keep_92 : decode k_LO_keep 92 = .ok (.return_, 1) := by decide +kernel
theorem d_LO_part_0 : decode k_LO_part 0 = .ok (.aload_n 0, 1) := by decide +kernel
theorem d_LO_part_1 : decode k_LO_part 1 = .ok (.getfield 9, 3) := by decide +kernel
theorem d_LO_part_4 : decode k_LO_part 4 = .ok (.iload_n 1, 1) := by decide +kernel
theorem d_LO_part_5 : decode k_LO_part 5 = .ok (.bipush 6, 2) := by decide +kernel
theorem d_LO_part_7 : decode k_LO_part 7 = .ok (.imul, 1) := by decide +kernel
theorem d_LO_part_8 : decode k_LO_part 8 = .ok (.iload_n 2, 1) := by decide +kernel
theorem d_LO_part_9 : decode k_LO_part 9 = .ok (.iadd, 1) := by decide +kernel
theorem d_LO_part_10 : decode k_LO_part 10 = .ok (.iaload, 1) := by decide +kernel
theorem d_LO_part_11 : decode k_LO_part 11 = .ok (.ireturn, 1) := by decide +kernel
theorem d_LO_looker_0 : decode k_LO_looker 0 = .ok (.iconst 0, 1) := by decide +kernel
theorem d_LO_looker_1 : decode k_LO_looker 1 = .ok (.istore_n 3, 1) := by decide +kernel
theorem d_LO_looker_2 : decode k_LO_looker 2 = .ok (.iconst 0, 1) := by decide +kernel
theorem d_LO_looker_3 : decode k_LO_looker 3 = .ok (.istore 4, 2) := by decide +kernel
theorem d_LO_looker_5 : decode k_LO_looker 5 = .ok (.iload 4, 2) := by decide +kernel
theorem d_LO_looker_7 : decode k_LO_looker 7 = .ok (.bipush 12, 2) := by decide +kernel
theorem d_LO_looker_9 : decode k_LO_looker 9 = .ok (.if_icmp .ge 34, 3) := by decide +kernel
theorem d_LO_looker_12 : decode k_LO_looker 12 = .ok (.aload_n 0, 1) := by decide +kernel
theorem d_LO_looker_13 : decode k_LO_looker 13 = .ok (.getfield 15, 3) := by decide +kernel
theorem d_LO_looker_16 : decode k_LO_looker 16 = .ok (.iload_n 1, 1) := by decide +kernel
theorem d_LO_looker_17 : decode k_LO_looker 17 = .ok (.iaload, 1) := by decide +kernel
theorem d_LO_looker_18 : decode k_LO_looker 18 = .ok (.iconst 1, 1) := by decide +kernel
theorem d_LO_looker_19 : decode k_LO_looker 19 = .ok (.iload 4, 2) := by decide +kernel
theorem d_LO_looker_21 : decode k_LO_looker 21 = .ok (.ishl, 1) := by decide +kernel
theorem d_LO_looker_22 : decode k_LO_looker 22 = .ok (.iand, 1) := by decide +kernel
theorem d_LO_looker_23 : decode k_LO_looker 23 = .ok (.ifCond .eq 14, 3) := by decide +kernel
theorem d_LO_looker_26 : decode k_LO_looker 26 = .ok (.iload_n 3, 1) := by decide +kernel
theorem d_LO_looker_27 : decode k_LO_looker 27 = .ok (.iload_n 2, 1) := by decide +kernel
theorem d_LO_looker_28 : decode k_LO_looker 28 = .ok (.if_icmp .ne 6, 3) := by decide +kernel
theorem d_LO_looker_31 : decode k_LO_looker 31 = .ok (.iload 4, 2) := by decide +kernel
theorem d_LO_looker_33 : decode k_LO_looker 33 = .ok (.ireturn, 1) := by decide +kernel
theorem d_LO_looker_34 : decode k_LO_looker 34 = .ok (.iinc 3 1, 3) := by decide +kernel
theorem d_LO_looker_37 : decode k_LO_looker 37 = .ok (.iinc 4 1, 3) := by decide +kernel
theorem d_LO_looker_40 : decode k_LO_looker 40 = .ok (.goto (-35), 3) := by decide +kernel
theorem d_LO_looker_43 : decode k_LO_looker 43 = .ok (.iconst (-1), 1) := by decide +kernel
theorem d_LO_looker_44 : decode k_LO_looker 44 = .ok (.ireturn, 1) := by decide +kernel
theorem d_PA_init_0 : decode k_PA_init 0 = .ok (.aload_n 0, 1) := by decide +kernel
theorem d_PA_init_1 : decode k_PA_init 1 = .ok (.invokespecial 3, 3) := by decide +kernel
theorem d_PA_init_4 : decode k_PA_init 4 = .ok (.aload_n 0, 1) := by decide +kernel
theorem d_PA_init_5 : decode k_PA_init 5 = .ok (.bipush 40, 2) := by decide +kernel
theorem d_PA_init_7 : decode k_PA_init 7 = .ok (.newarray .char, 2) := by decide +kernel
theorem d_PA_init_9 : decode k_PA_init 9 = .ok (.putfield 9, 3) := by decide +kernel
theorem d_PA_init_12 : decode k_PA_init 12 = .ok (.return_, 1) := by decide +kernel
theorem d_PA_signsIn_0 : decode k_PA_signsIn 0 = .ok (.iconst 0, 1) := by decide +kernel
theorem d_PA_signsIn_1 : decode k_PA_signsIn 1 = .ok (.istore_n 1, 1) := by decide +kernel
theorem d_PA_signsIn_2 : decode k_PA_signsIn 2 = .ok (.iconst 0, 1) := by decide +kernel
theorem d_PA_signsIn_3 : decode k_PA_signsIn 3 = .ok (.istore_n 2, 1) := by decide +kernel
theorem d_PA_signsIn_4 : decode k_PA_signsIn 4 = .ok (.iload_n 2, 1) := by decide +kernel
theorem d_PA_signsIn_5 : decode k_PA_signsIn 5 = .ok (.bipush 32, 2) := by decide +kernel
theorem d_PA_signsIn_7 : decode k_PA_signsIn 7 = .ok (.if_icmp .ge 22, 3) := by decide +kernel
theorem d_PA_signsIn_10 : decode k_PA_signsIn 10 = .ok (.iload_n 0, 1) := by decide +kernel
theorem d_PA_signsIn_11 : decode k_PA_signsIn 11 = .ok (.iload_n 2, 1) := by decide +kernel
theorem d_PA_signsIn_12 : decode k_PA_signsIn 12 = .ok (.iushr, 1) := by decide +kernel
theorem d_PA_signsIn_13 : decode k_PA_signsIn 13 = .ok (.sipush 255, 3) := by decide +kernel
theorem d_PA_signsIn_16 : decode k_PA_signsIn 16 = .ok (.iand, 1) := by decide +kernel
theorem d_PA_signsIn_17 : decode k_PA_signsIn 17 = .ok (.ifCond .eq 6, 3) := by decide +kernel
theorem d_PA_signsIn_20 : decode k_PA_signsIn 20 = .ok (.iinc 1 1, 3) := by decide +kernel
theorem d_PA_signsIn_23 : decode k_PA_signsIn 23 = .ok (.iinc 2 8, 3) := by decide +kernel
theorem d_PA_signsIn_26 : decode k_PA_signsIn 26 = .ok (.goto (-22), 3) := by decide +kernel
theorem d_PA_signsIn_29 : decode k_PA_signsIn 29 = .ok (.iload_n 1, 1) := by decide +kernel
theorem d_PA_signsIn_30 : decode k_PA_signsIn 30 = .ok (.ireturn, 1) := by decide +kernel
theorem d_PA_append_0 : decode k_PA_append 0 = .ok (.iconst 0, 1) := by decide +kernel
theorem d_PA_append_1 : decode k_PA_append 1 = .ok (.istore_n 2, 1) := by decide +kernel
theorem d_PA_append_2 : decode k_PA_append 2 = .ok (.iload_n 2, 1) := by decide +kernel
theorem d_PA_append_3 : decode k_PA_append 3 = .ok (.bipush 32, 2) := by decide +kernel
theorem d_PA_append_5 : decode k_PA_append 5 = .ok (.if_icmp .ge 51, 3) := by decide +kernel
theorem d_PA_append_8 : decode k_PA_append 8 = .ok (.iload_n 1, 1) := by decide +kernel
theorem d_PA_append_9 : decode k_PA_append 9 = .ok (.iload_n 2, 1) := by decide +kernel
theorem d_PA_append_10 : decode k_PA_append 10 = .ok (.iushr, 1) := by decide +kernel
theorem d_PA_append_11 : decode k_PA_append 11 = .ok (.sipush 255, 3) := by decide +kernel
theorem d_PA_append_14 : decode k_PA_append 14 = .ok (.iand, 1) := by decide +kernel
theorem d_PA_append_15 : decode k_PA_append 15 = .ok (.istore_n 3, 1) := by decide +kernel
theorem d_PA_append_16 : decode k_PA_append 16 = .ok (.iload_n 3, 1) := by decide +kernel
theorem d_PA_append_17 : decode k_PA_append 17 = .ok (.ifCond .eq 33, 3) := by decide +kernel
theorem d_PA_append_20 : decode k_PA_append 20 = .ok (.aload_n 0, 1) := by decide +kernel
theorem d_PA_append_21 : decode k_PA_append 21 = .ok (.getfield 15, 3) := by decide +kernel
theorem d_PA_append_24 : decode k_PA_append 24 = .ok (.bipush 40, 2) := by decide +kernel
theorem d_PA_append_26 : decode k_PA_append 26 = .ok (.if_icmp .ge 24, 3) := by decide +kernel
theorem d_PA_append_29 : decode k_PA_append 29 = .ok (.aload_n 0, 1) := by decide +kernel
theorem d_PA_append_30 : decode k_PA_append 30 = .ok (.getfield 9, 3) := by decide +kernel
theorem d_PA_append_33 : decode k_PA_append 33 = .ok (.aload_n 0, 1) := by decide +kernel
theorem d_PA_append_34 : decode k_PA_append 34 = .ok (.getfield 15, 3) := by decide +kernel
theorem d_PA_append_37 : decode k_PA_append 37 = .ok (.iload_n 3, 1) := by decide +kernel
theorem d_PA_append_38 : decode k_PA_append 38 = .ok (.i2c, 1) := by decide +kernel
theorem d_PA_append_39 : decode k_PA_append 39 = .ok (.castore, 1) := by decide +kernel
theorem d_PA_append_40 : decode k_PA_append 40 = .ok (.aload_n 0, 1) := by decide +kernel
theorem d_PA_append_41 : decode k_PA_append 41 = .ok (.dup, 1) := by decide +kernel
theorem d_PA_append_42 : decode k_PA_append 42 = .ok (.getfield 15, 3) := by decide +kernel
theorem d_PA_append_45 : decode k_PA_append 45 = .ok (.iconst 1, 1) := by decide +kernel
theorem d_PA_append_46 : decode k_PA_append 46 = .ok (.iadd, 1) := by decide +kernel
theorem d_PA_append_47 : decode k_PA_append 47 = .ok (.putfield 15, 3) := by decide +kernel
theorem d_PA_append_50 : decode k_PA_append 50 = .ok (.iinc 2 8, 3) := by decide +kernel
theorem d_PA_append_53 : decode k_PA_append 53 = .ok (.goto (-51), 3) := by decide +kernel
theorem d_PA_append_56 : decode k_PA_append 56 = .ok (.return_, 1) := by decide +kernel
theorem d_PE_init_0 : decode k_PE_init 0 = .ok (.aload_n 0, 1) := by decide +kernel
theorem d_PE_init_1 : decode k_PE_init 1 = .ok (.invokespecial 3, 3) := by decide +kernel
theorem d_PE_init_4 : decode k_PE_init 4 = .ok (.aload_n 0, 1) := by decide +kernel
theorem d_PE_init_5 : decode k_PE_init 5 = .ok (.bipush 12, 2) := by decide +kernel
theorem d_PE_init_7 : decode k_PE_init 7 = .ok (.newarray .int, 2) := by decide +kernel
theorem d_PE_init_9 : decode k_PE_init 9 = .ok (.putfield 9, 3) := by decide +kernel
theorem d_PE_init_12 : decode k_PE_init 12 = .ok (.aload_n 0, 1) := by decide +kernel
theorem d_PE_init_13 : decode k_PE_init 13 = .ok (.bipush 12, 2) := by decide +kernel
theorem d_PE_init_15 : decode k_PE_init 15 = .ok (.newarray .int, 2) := by decide +kernel
theorem d_PE_init_17 : decode k_PE_init 17 = .ok (.putfield 15, 3) := by decide +kernel
theorem d_PE_init_20 : decode k_PE_init 20 = .ok (.return_, 1) := by decide +kernel
theorem d_PE_add_0 : decode k_PE_add 0 = .ok (.aload_n 0, 1) := by decide +kernel
theorem d_PE_add_1 : decode k_PE_add 1 = .ok (.getfield 9, 3) := by decide +kernel
theorem d_PE_add_4 : decode k_PE_add 4 = .ok (.aload_n 0, 1) := by decide +kernel
theorem d_PE_add_5 : decode k_PE_add 5 = .ok (.getfield 18, 3) := by decide +kernel
theorem d_PE_add_8 : decode k_PE_add 8 = .ok (.iload_n 1, 1) := by decide +kernel
theorem d_PE_add_9 : decode k_PE_add 9 = .ok (.iastore, 1) := by decide +kernel
theorem d_PE_add_10 : decode k_PE_add 10 = .ok (.aload_n 0, 1) := by decide +kernel
theorem d_PE_add_11 : decode k_PE_add 11 = .ok (.getfield 15, 3) := by decide +kernel
theorem d_PE_add_14 : decode k_PE_add 14 = .ok (.aload_n 0, 1) := by decide +kernel
theorem d_PE_add_15 : decode k_PE_add 15 = .ok (.getfield 18, 3) := by decide +kernel
theorem d_PE_add_18 : decode k_PE_add 18 = .ok (.iconst 3, 1) := by decide +kernel
theorem d_PE_add_19 : decode k_PE_add 19 = .ok (.iastore, 1) := by decide +kernel
theorem d_PE_add_20 : decode k_PE_add 20 = .ok (.aload_n 0, 1) := by decide +kernel
theorem d_PE_add_21 : decode k_PE_add 21 = .ok (.dup, 1) := by decide +kernel
theorem d_PE_add_22 : decode k_PE_add 22 = .ok (.getfield 18, 3) := by decide +kernel
theorem d_PE_add_25 : decode k_PE_add 25 = .ok (.iconst 1, 1) := by decide +kernel
theorem d_PE_add_26 : decode k_PE_add 26 = .ok (.iadd, 1) := by decide +kernel
theorem d_PE_add_27 : decode k_PE_add 27 = .ok (.putfield 18, 3) := by decide +kernel
theorem d_PE_add_30 : decode k_PE_add 30 = .ok (.aload_n 0, 1) := by decide +kernel
theorem d_PE_add_31 : decode k_PE_add 31 = .ok (.getfield 18, 3) := by decide +kernel
theorem d_PE_add_34 : decode k_PE_add 34 = .ok (.iconst 1, 1) := by decide +kernel
theorem d_PE_add_35 : decode k_PE_add 35 = .ok (.isub, 1) := by decide +kernel
theorem d_PE_add_36 : decode k_PE_add 36 = .ok (.ireturn, 1) := by decide +kernel
theorem d_RQ_init_0 : decode k_RQ_init 0 = .ok (.aload_n 0, 1) := by decide +kernel
theorem d_RQ_init_1 : decode k_RQ_init 1 = .ok (.invokespecial 3, 3) := by decide +kernel
theorem d_RQ_init_4 : decode k_RQ_init 4 = .ok (.aload_n 0, 1) := by decide +kernel
theorem d_RQ_init_5 : decode k_RQ_init 5 = .ok (.bipush 60, 2) := by decide +kernel
theorem d_RQ_init_7 : decode k_RQ_init 7 = .ok (.newarray .int, 2) := by decide +kernel
theorem d_RQ_init_9 : decode k_RQ_init 9 = .ok (.putfield 9, 3) := by decide +kernel
theorem d_RQ_init_12 : decode k_RQ_init 12 = .ok (.aload_n 0, 1) := by decide +kernel
theorem d_RQ_init_13 : decode k_RQ_init 13 = .ok (.bipush 60, 2) := by decide +kernel
theorem d_RQ_init_15 : decode k_RQ_init 15 = .ok (.newarray .int, 2) := by decide +kernel
theorem d_RQ_init_17 : decode k_RQ_init 17 = .ok (.putfield 15, 3) := by decide +kernel
theorem d_RQ_init_20 : decode k_RQ_init 20 = .ok (.return_, 1) := by decide +kernel
theorem d_RQ_within_0 : decode k_RQ_within 0 = .ok (.iconst 0, 1) := by decide +kernel
theorem d_RQ_within_1 : decode k_RQ_within 1 = .ok (.istore_n 3, 1) := by decide +kernel
theorem d_RQ_within_2 : decode k_RQ_within 2 = .ok (.iconst 0, 1) := by decide +kernel
theorem d_RQ_within_3 : decode k_RQ_within 3 = .ok (.istore 4, 2) := by decide +kernel
theorem d_RQ_within_5 : decode k_RQ_within 5 = .ok (.iload 4, 2) := by decide +kernel
theorem d_RQ_within_7 : decode k_RQ_within 7 = .ok (.aload_n 0, 1) := by decide +kernel
theorem d_RQ_within_8 : decode k_RQ_within 8 = .ok (.getfield 18, 3) := by decide +kernel
theorem d_RQ_within_11 : decode k_RQ_within 11 = .ok (.if_icmp .ge 48, 3) := by decide +kernel
theorem d_RQ_within_14 : decode k_RQ_within 14 = .ok (.aload_n 0, 1) := by decide +kernel
theorem d_RQ_within_15 : decode k_RQ_within 15 = .ok (.getfield 9, 3) := by decide +kernel
theorem d_RQ_within_18 : decode k_RQ_within 18 = .ok (.iload 4, 2) := by decide +kernel
theorem d_RQ_within_20 : decode k_RQ_within 20 = .ok (.iaload, 1) := by decide +kernel
theorem d_RQ_within_21 : decode k_RQ_within 21 = .ok (.iload_n 1, 1) := by decide +kernel
theorem d_RQ_within_22 : decode k_RQ_within 22 = .ok (.if_icmp .ne 31, 3) := by decide +kernel
theorem d_RQ_within_25 : decode k_RQ_within 25 = .ok (.aload_n 0, 1) := by decide +kernel
theorem d_RQ_within_26 : decode k_RQ_within 26 = .ok (.getfield 15, 3) := by decide +kernel
theorem d_RQ_within_29 : decode k_RQ_within 29 = .ok (.iload 4, 2) := by decide +kernel
theorem d_RQ_within_31 : decode k_RQ_within 31 = .ok (.iaload, 1) := by decide +kernel
theorem d_RQ_within_32 : decode k_RQ_within 32 = .ok (.iload_n 2, 1) := by decide +kernel
theorem d_RQ_within_33 : decode k_RQ_within 33 = .ok (.if_icmp .gt 20, 3) := by decide +kernel
theorem d_RQ_within_36 : decode k_RQ_within 36 = .ok (.aload_n 0, 1) := by decide +kernel
theorem d_RQ_within_37 : decode k_RQ_within 37 = .ok (.getfield 15, 3) := by decide +kernel
theorem d_RQ_within_40 : decode k_RQ_within 40 = .ok (.iload 4, 2) := by decide +kernel
theorem d_RQ_within_42 : decode k_RQ_within 42 = .ok (.iaload, 1) := by decide +kernel
theorem d_RQ_within_43 : decode k_RQ_within 43 = .ok (.iload_n 2, 1) := by decide +kernel
theorem d_RQ_within_44 : decode k_RQ_within 44 = .ok (.bipush 30, 2) := by decide +kernel
theorem d_RQ_within_46 : decode k_RQ_within 46 = .ok (.isub, 1) := by decide +kernel
theorem d_RQ_within_47 : decode k_RQ_within 47 = .ok (.if_icmp .le 6, 3) := by decide +kernel
theorem d_RQ_within_50 : decode k_RQ_within 50 = .ok (.iinc 3 1, 3) := by decide +kernel
theorem d_RQ_within_53 : decode k_RQ_within 53 = .ok (.iinc 4 1, 3) := by decide +kernel
theorem d_RQ_within_56 : decode k_RQ_within 56 = .ok (.goto (-51), 3) := by decide +kernel
theorem d_RQ_within_59 : decode k_RQ_within 59 = .ok (.iload_n 3, 1) := by decide +kernel
theorem d_RQ_within_60 : decode k_RQ_within 60 = .ok (.ireturn, 1) := by decide +kernel
theorem d_RQ_keep_0 : decode k_RQ_keep 0 = .ok (.aload_n 0, 1) := by decide +kernel
theorem d_RQ_keep_1 : decode k_RQ_keep 1 = .ok (.getfield 9, 3) := by decide +kernel
theorem d_RQ_keep_4 : decode k_RQ_keep 4 = .ok (.aload_n 0, 1) := by decide +kernel
theorem d_RQ_keep_5 : decode k_RQ_keep 5 = .ok (.getfield 18, 3) := by decide +kernel
theorem d_RQ_keep_8 : decode k_RQ_keep 8 = .ok (.iload_n 1, 1) := by decide +kernel
theorem d_RQ_keep_9 : decode k_RQ_keep 9 = .ok (.iastore, 1) := by decide +kernel
theorem d_RQ_keep_10 : decode k_RQ_keep 10 = .ok (.aload_n 0, 1) := by decide +kernel
theorem d_RQ_keep_11 : decode k_RQ_keep 11 = .ok (.getfield 15, 3) := by decide +kernel
theorem d_RQ_keep_14 : decode k_RQ_keep 14 = .ok (.aload_n 0, 1) := by decide +kernel
theorem d_RQ_keep_15 : decode k_RQ_keep 15 = .ok (.getfield 18, 3) := by decide +kernel
theorem d_RQ_keep_18 : decode k_RQ_keep 18 = .ok (.iload_n 2, 1) := by decide +kernel
theorem d_RQ_keep_19 : decode k_RQ_keep 19 = .ok (.iastore, 1) := by decide +kernel
theorem d_RQ_keep_20 : decode k_RQ_keep 20 = .ok (.aload_n 0, 1) := by decide +kernel
theorem d_RQ_keep_21 : decode k_RQ_keep 21 = .ok (.dup, 1) := by decide +kernel
theorem d_RQ_keep_22 : decode k_RQ_keep 22 = .ok (.getfield 18, 3) := by decide +kernel
theorem d_RQ_keep_25 : decode k_RQ_keep 25 = .ok (.iconst 1, 1) := by decide +kernel
theorem d_RQ_keep_26 : decode k_RQ_keep 26 = .ok (.iadd, 1) := by decide +kernel
theorem d_RQ_keep_27 : decode k_RQ_keep 27 = .ok (.putfield 18, 3) := by decide +kernel
theorem d_RQ_keep_30 : decode k_RQ_keep 30 = .ok (.return_, 1) := by decide +kernel
theorem d_RB_init_0 : decode k_RB_init 0 = .ok (.aload_n 0, 1) := by decide +kernel
theorem d_RB_init_1 : decode k_RB_init 1 = .ok (.invokespecial 3, 3) := by decide +kernel
theorem d_RB_init_4 : decode k_RB_init 4 = .ok (.aload_n 0, 1) := by decide +kernel
theorem d_RB_init_5 : decode k_RB_init 5 = .ok (.bipush 20, 2) := by decide +kernel
theorem d_RB_init_7 : decode k_RB_init 7 = .ok (.newarray .int, 2) := by decide +kernel
theorem d_RB_init_9 : decode k_RB_init 9 = .ok (.putfield 9, 3) := by decide +kernel
theorem d_RB_init_12 : decode k_RB_init 12 = .ok (.aload_n 0, 1) := by decide +kernel
theorem d_RB_init_13 : decode k_RB_init 13 = .ok (.bipush 20, 2) := by decide +kernel
theorem d_RB_init_15 : decode k_RB_init 15 = .ok (.newarray .int, 2) := by decide +kernel
theorem d_RB_init_17 : decode k_RB_init 17 = .ok (.putfield 15, 3) := by decide +kernel
theorem d_RB_init_20 : decode k_RB_init 20 = .ok (.return_, 1) := by decide +kernel
theorem d_RB_tell_0 : decode k_RB_tell 0 = .ok (.iconst 1, 1) := by decide +kernel
theorem d_RB_tell_1 : decode k_RB_tell 1 = .ok (.aload_n 0, 1) := by decide +kernel
theorem d_RB_tell_2 : decode k_RB_tell 2 = .ok (.getfield 18, 3) := by decide +kernel
theorem d_RB_tell_5 : decode k_RB_tell 5 = .ok (.ishl, 1) := by decide +kernel
theorem d_RB_tell_6 : decode k_RB_tell 6 = .ok (.istore 4, 2) := by decide +kernel
theorem d_RB_tell_8 : decode k_RB_tell 8 = .ok (.aload_n 0, 1) := by decide +kernel
theorem d_RB_tell_9 : decode k_RB_tell 9 = .ok (.getfield 9, 3) := by decide +kernel
theorem d_RB_tell_12 : decode k_RB_tell 12 = .ok (.aload_n 0, 1) := by decide +kernel
theorem d_RB_tell_13 : decode k_RB_tell 13 = .ok (.getfield 18, 3) := by decide +kernel
theorem d_RB_tell_16 : decode k_RB_tell 16 = .ok (.iload_n 2, 1) := by decide +kernel
theorem d_RB_tell_17 : decode k_RB_tell 17 = .ok (.iastore, 1) := by decide +kernel
theorem d_RB_tell_18 : decode k_RB_tell 18 = .ok (.aload_n 0, 1) := by decide +kernel
theorem d_RB_tell_19 : decode k_RB_tell 19 = .ok (.getfield 15, 3) := by decide +kernel
theorem d_RB_tell_22 : decode k_RB_tell 22 = .ok (.aload_n 0, 1) := by decide +kernel
theorem d_RB_tell_23 : decode k_RB_tell 23 = .ok (.getfield 18, 3) := by decide +kernel
theorem d_RB_tell_26 : decode k_RB_tell 26 = .ok (.iload_n 3, 1) := by decide +kernel
theorem d_RB_tell_27 : decode k_RB_tell 27 = .ok (.iastore, 1) := by decide +kernel
theorem d_RB_tell_28 : decode k_RB_tell 28 = .ok (.iload_n 1, 1) := by decide +kernel
theorem d_RB_tell_29 : decode k_RB_tell 29 = .ok (.ifCond .ne 17, 3) := by decide +kernel
theorem d_RB_tell_32 : decode k_RB_tell 32 = .ok (.aload_n 0, 1) := by decide +kernel
theorem d_RB_tell_33 : decode k_RB_tell 33 = .ok (.dup, 1) := by decide +kernel
theorem d_RB_tell_34 : decode k_RB_tell 34 = .ok (.getfield 22, 3) := by decide +kernel
theorem d_RB_tell_37 : decode k_RB_tell 37 = .ok (.iload 4, 2) := by decide +kernel
theorem d_RB_tell_39 : decode k_RB_tell 39 = .ok (.ior, 1) := by decide +kernel
theorem d_RB_tell_40 : decode k_RB_tell 40 = .ok (.putfield 22, 3) := by decide +kernel
theorem d_RB_tell_43 : decode k_RB_tell 43 = .ok (.goto 33, 3) := by decide +kernel
theorem d_RB_tell_46 : decode k_RB_tell 46 = .ok (.iload_n 1, 1) := by decide +kernel
theorem d_RB_tell_47 : decode k_RB_tell 47 = .ok (.iconst 1, 1) := by decide +kernel
theorem d_RB_tell_48 : decode k_RB_tell 48 = .ok (.if_icmp .ne 17, 3) := by decide +kernel
theorem d_RB_tell_51 : decode k_RB_tell 51 = .ok (.aload_n 0, 1) := by decide +kernel
theorem d_RB_tell_52 : decode k_RB_tell 52 = .ok (.dup, 1) := by decide +kernel
theorem d_RB_tell_53 : decode k_RB_tell 53 = .ok (.getfield 25, 3) := by decide +kernel
theorem d_RB_tell_56 : decode k_RB_tell 56 = .ok (.iload 4, 2) := by decide +kernel
theorem d_RB_tell_58 : decode k_RB_tell 58 = .ok (.ior, 1) := by decide +kernel
theorem d_RB_tell_59 : decode k_RB_tell 59 = .ok (.putfield 25, 3) := by decide +kernel
theorem d_RB_tell_62 : decode k_RB_tell 62 = .ok (.goto 14, 3) := by decide +kernel
theorem d_RB_tell_65 : decode k_RB_tell 65 = .ok (.aload_n 0, 1) := by decide +kernel
theorem d_RB_tell_66 : decode k_RB_tell 66 = .ok (.dup, 1) := by decide +kernel
theorem d_RB_tell_67 : decode k_RB_tell 67 = .ok (.getfield 28, 3) := by decide +kernel
theorem d_RB_tell_70 : decode k_RB_tell 70 = .ok (.iload 4, 2) := by decide +kernel
theorem d_RB_tell_72 : decode k_RB_tell 72 = .ok (.ior, 1) := by decide +kernel
theorem d_RB_tell_73 : decode k_RB_tell 73 = .ok (.putfield 28, 3) := by decide +kernel
theorem d_RB_tell_76 : decode k_RB_tell 76 = .ok (.aload_n 0, 1) := by decide +kernel
theorem d_RB_tell_77 : decode k_RB_tell 77 = .ok (.dup, 1) := by decide +kernel
theorem d_RB_tell_78 : decode k_RB_tell 78 = .ok (.getfield 31, 3) := by decide +kernel
theorem d_RB_tell_81 : decode k_RB_tell 81 = .ok (.iload 4, 2) := by decide +kernel
theorem d_RB_tell_83 : decode k_RB_tell 83 = .ok (.ior, 1) := by decide +kernel
theorem d_RB_tell_84 : decode k_RB_tell 84 = .ok (.putfield 31, 3) := by decide +kernel
theorem d_RB_tell_87 : decode k_RB_tell 87 = .ok (.aload_n 0, 1) := by decide +kernel
theorem d_RB_tell_88 : decode k_RB_tell 88 = .ok (.dup, 1) := by decide +kernel
theorem d_RB_tell_89 : decode k_RB_tell 89 = .ok (.getfield 18, 3) := by decide +kernel
theorem d_RB_tell_92 : decode k_RB_tell 92 = .ok (.iconst 1, 1) := by decide +kernel
theorem d_RB_tell_93 : decode k_RB_tell 93 = .ok (.iadd, 1) := by decide +kernel
theorem d_RB_tell_94 : decode k_RB_tell 94 = .ok (.putfield 18, 3) := by decide +kernel
theorem d_RB_tell_97 : decode k_RB_tell 97 = .ok (.aload_n 0, 1) := by decide +kernel
theorem d_RB_tell_98 : decode k_RB_tell 98 = .ok (.getfield 18, 3) := by decide +kernel
theorem d_RB_tell_101 : decode k_RB_tell 101 = .ok (.iconst 1, 1) := by decide +kernel
theorem d_RB_tell_102 : decode k_RB_tell 102 = .ok (.isub, 1) := by decide +kernel
theorem d_RB_tell_103 : decode k_RB_tell 103 = .ok (.ireturn, 1) := by decide +kernel
theorem d_RB_untell_0 : decode k_RB_untell 0 = .ok (.iconst 1, 1) := by decide +kernel
theorem d_RB_untell_1 : decode k_RB_untell 1 = .ok (.iload_n 1, 1) := by decide +kernel
theorem d_RB_untell_2 : decode k_RB_untell 2 = .ok (.ishl, 1) := by decide +kernel
theorem d_RB_untell_3 : decode k_RB_untell 3 = .ok (.istore_n 2, 1) := by decide +kernel
theorem d_RB_untell_4 : decode k_RB_untell 4 = .ok (.aload_n 0, 1) := by decide +kernel
theorem d_RB_untell_5 : decode k_RB_untell 5 = .ok (.getfield 31, 3) := by decide +kernel
theorem d_RB_untell_8 : decode k_RB_untell 8 = .ok (.iload_n 2, 1) := by decide +kernel
theorem d_RB_untell_9 : decode k_RB_untell 9 = .ok (.iand, 1) := by decide +kernel
theorem d_RB_untell_10 : decode k_RB_untell 10 = .ok (.ifCond .eq 7, 3) := by decide +kernel
theorem d_RB_untell_13 : decode k_RB_untell 13 = .ok (.iconst 1, 1) := by decide +kernel
theorem d_RB_untell_14 : decode k_RB_untell 14 = .ok (.goto 4, 3) := by decide +kernel
theorem d_RB_untell_17 : decode k_RB_untell 17 = .ok (.iconst 0, 1) := by decide +kernel
theorem d_RB_untell_18 : decode k_RB_untell 18 = .ok (.istore_n 3, 1) := by decide +kernel
theorem d_RB_untell_19 : decode k_RB_untell 19 = .ok (.aload_n 0, 1) := by decide +kernel
theorem d_RB_untell_20 : decode k_RB_untell 20 = .ok (.dup, 1) := by decide +kernel
theorem d_RB_untell_21 : decode k_RB_untell 21 = .ok (.getfield 31, 3) := by decide +kernel
theorem d_RB_untell_24 : decode k_RB_untell 24 = .ok (.iload_n 2, 1) := by decide +kernel
theorem d_RB_untell_25 : decode k_RB_untell 25 = .ok (.iconst (-1), 1) := by decide +kernel
theorem d_RB_untell_26 : decode k_RB_untell 26 = .ok (.ixor, 1) := by decide +kernel
theorem d_RB_untell_27 : decode k_RB_untell 27 = .ok (.iand, 1) := by decide +kernel
theorem d_RB_untell_28 : decode k_RB_untell 28 = .ok (.putfield 31, 3) := by decide +kernel
theorem d_RB_untell_31 : decode k_RB_untell 31 = .ok (.iload_n 3, 1) := by decide +kernel
theorem d_RB_untell_32 : decode k_RB_untell 32 = .ok (.ireturn, 1) := by decide +kernel
theorem d_RB_suiting_0 : decode k_RB_suiting 0 = .ok (.iconst 0, 1) := by decide +kernel
theorem d_RB_suiting_1 : decode k_RB_suiting 1 = .ok (.istore_n 3, 1) := by decide +kernel
theorem d_RB_suiting_2 : decode k_RB_suiting 2 = .ok (.iload_n 2, 1) := by decide +kernel
theorem d_RB_suiting_3 : decode k_RB_suiting 3 = .ok (.iload_n 1, 1) := by decide +kernel
theorem d_RB_suiting_4 : decode k_RB_suiting 4 = .ok (.iconst (-1), 1) := by decide +kernel
theorem d_RB_suiting_5 : decode k_RB_suiting 5 = .ok (.ixor, 1) := by decide +kernel
theorem d_RB_suiting_6 : decode k_RB_suiting 6 = .ok (.iand, 1) := by decide +kernel
theorem d_RB_suiting_7 : decode k_RB_suiting 7 = .ok (.istore 4, 2) := by decide +kernel
theorem d_RB_suiting_9 : decode k_RB_suiting 9 = .ok (.iconst 0, 1) := by decide +kernel
theorem d_RB_suiting_10 : decode k_RB_suiting 10 = .ok (.istore 5, 2) := by decide +kernel
theorem d_RB_suiting_12 : decode k_RB_suiting 12 = .ok (.iload 5, 2) := by decide +kernel
theorem d_RB_suiting_14 : decode k_RB_suiting 14 = .ok (.aload_n 0, 1) := by decide +kernel
theorem d_RB_suiting_15 : decode k_RB_suiting 15 = .ok (.getfield 18, 3) := by decide +kernel
theorem d_RB_suiting_18 : decode k_RB_suiting 18 = .ok (.if_icmp .ge 41, 3) := by decide +kernel
theorem d_RB_suiting_21 : decode k_RB_suiting 21 = .ok (.aload_n 0, 1) := by decide +kernel
theorem d_RB_suiting_22 : decode k_RB_suiting 22 = .ok (.getfield 9, 3) := by decide +kernel
theorem d_RB_suiting_25 : decode k_RB_suiting 25 = .ok (.iload 5, 2) := by decide +kernel
theorem d_RB_suiting_27 : decode k_RB_suiting 27 = .ok (.iaload, 1) := by decide +kernel
theorem d_RB_suiting_28 : decode k_RB_suiting 28 = .ok (.iload 4, 2) := by decide +kernel
theorem d_RB_suiting_30 : decode k_RB_suiting 30 = .ok (.iand, 1) := by decide +kernel
theorem d_RB_suiting_31 : decode k_RB_suiting 31 = .ok (.ifCond .ne 22, 3) := by decide +kernel
theorem d_RB_suiting_34 : decode k_RB_suiting 34 = .ok (.aload_n 0, 1) := by decide +kernel
theorem d_RB_suiting_35 : decode k_RB_suiting 35 = .ok (.getfield 15, 3) := by decide +kernel
theorem d_RB_suiting_38 : decode k_RB_suiting 38 = .ok (.iload 5, 2) := by decide +kernel
theorem d_RB_suiting_40 : decode k_RB_suiting 40 = .ok (.iaload, 1) := by decide +kernel
theorem d_RB_suiting_41 : decode k_RB_suiting 41 = .ok (.iload_n 1, 1) := by decide +kernel
theorem d_RB_suiting_42 : decode k_RB_suiting 42 = .ok (.iand, 1) := by decide +kernel
theorem d_RB_suiting_43 : decode k_RB_suiting 43 = .ok (.ifCond .ne 10, 3) := by decide +kernel
theorem d_RB_suiting_46 : decode k_RB_suiting 46 = .ok (.iload_n 3, 1) := by decide +kernel
theorem d_RB_suiting_47 : decode k_RB_suiting 47 = .ok (.iconst 1, 1) := by decide +kernel
theorem d_RB_suiting_48 : decode k_RB_suiting 48 = .ok (.iload 5, 2) := by decide +kernel
theorem d_RB_suiting_50 : decode k_RB_suiting 50 = .ok (.ishl, 1) := by decide +kernel
theorem d_RB_suiting_51 : decode k_RB_suiting 51 = .ok (.ior, 1) := by decide +kernel
theorem d_RB_suiting_52 : decode k_RB_suiting 52 = .ok (.istore_n 3, 1) := by decide +kernel
theorem d_RB_suiting_53 : decode k_RB_suiting 53 = .ok (.iinc 5 1, 3) := by decide +kernel
theorem d_RB_suiting_56 : decode k_RB_suiting 56 = .ok (.goto (-44), 3) := by decide +kernel
theorem d_RB_suiting_59 : decode k_RB_suiting 59 = .ok (.iload_n 3, 1) := by decide +kernel
theorem d_RB_suiting_60 : decode k_RB_suiting 60 = .ok (.aload_n 0, 1) := by decide +kernel
theorem d_RB_suiting_61 : decode k_RB_suiting 61 = .ok (.getfield 31, 3) := by decide +kernel
theorem d_RB_suiting_64 : decode k_RB_suiting 64 = .ok (.iand, 1) := by decide +kernel
theorem d_RB_suiting_65 : decode k_RB_suiting 65 = .ok (.ireturn, 1) := by decide +kernel
theorem d_RB_answerOf_0 : decode k_RB_answerOf 0 = .ok (.iload_n 1, 1) := by decide +kernel
theorem d_RB_answerOf_1 : decode k_RB_answerOf 1 = .ok (.ifCond .eq 12, 3) := by decide +kernel
theorem d_RB_answerOf_4 : decode k_RB_answerOf 4 = .ok (.iload_n 1, 1) := by decide +kernel
theorem d_RB_answerOf_5 : decode k_RB_answerOf 5 = .ok (.aload_n 0, 1) := by decide +kernel
theorem d_RB_answerOf_6 : decode k_RB_answerOf 6 = .ok (.getfield 22, 3) := by decide +kernel
theorem d_RB_answerOf_9 : decode k_RB_answerOf 9 = .ok (.iand, 1) := by decide +kernel
theorem d_RB_answerOf_10 : decode k_RB_answerOf 10 = .ok (.ifCond .eq 5, 3) := by decide +kernel
theorem d_RB_answerOf_13 : decode k_RB_answerOf 13 = .ok (.iconst 0, 1) := by decide +kernel
theorem d_RB_answerOf_14 : decode k_RB_answerOf 14 = .ok (.ireturn, 1) := by decide +kernel
theorem d_RB_answerOf_15 : decode k_RB_answerOf 15 = .ok (.iload_n 1, 1) := by decide +kernel
theorem d_RB_answerOf_16 : decode k_RB_answerOf 16 = .ok (.aload_n 0, 1) := by decide +kernel
theorem d_RB_answerOf_17 : decode k_RB_answerOf 17 = .ok (.getfield 28, 3) := by decide +kernel
theorem d_RB_answerOf_20 : decode k_RB_answerOf 20 = .ok (.iand, 1) := by decide +kernel
theorem d_RB_answerOf_21 : decode k_RB_answerOf 21 = .ok (.iload_n 1, 1) := by decide +kernel
theorem d_RB_answerOf_22 : decode k_RB_answerOf 22 = .ok (.aload_n 0, 1) := by decide +kernel
theorem d_RB_answerOf_23 : decode k_RB_answerOf 23 = .ok (.getfield 25, 3) := by decide +kernel
theorem d_RB_answerOf_26 : decode k_RB_answerOf 26 = .ok (.iand, 1) := by decide +kernel
theorem d_RB_answerOf_27 : decode k_RB_answerOf 27 = .ok (.if_icmp .le 7, 3) := by decide +kernel
theorem d_RB_answerOf_30 : decode k_RB_answerOf 30 = .ok (.iconst 2, 1) := by decide +kernel
theorem d_RB_answerOf_31 : decode k_RB_answerOf 31 = .ok (.goto 4, 3) := by decide +kernel
theorem d_RB_answerOf_34 : decode k_RB_answerOf 34 = .ok (.iconst 1, 1) := by decide +kernel
theorem d_RB_answerOf_35 : decode k_RB_answerOf 35 = .ok (.ireturn, 1) := by decide +kernel
theorem d_RB_neededOf_0 : decode k_RB_neededOf 0 = .ok (.iload_n 1, 1) := by decide +kernel
theorem d_RB_neededOf_1 : decode k_RB_neededOf 1 = .ok (.aload_n 0, 1) := by decide +kernel
theorem d_RB_neededOf_2 : decode k_RB_neededOf 2 = .ok (.getfield 22, 3) := by decide +kernel
theorem d_RB_neededOf_5 : decode k_RB_neededOf 5 = .ok (.iand, 1) := by decide +kernel
theorem d_RB_neededOf_6 : decode k_RB_neededOf 6 = .ok (.istore_n 2, 1) := by decide +kernel
theorem d_RB_neededOf_7 : decode k_RB_neededOf 7 = .ok (.iload_n 2, 1) := by decide +kernel
theorem d_RB_neededOf_8 : decode k_RB_neededOf 8 = .ok (.invokestatic 34, 3) := by decide +kernel
theorem d_RB_neededOf_11 : decode k_RB_neededOf 11 = .ok (.iconst 1, 1) := by decide +kernel
theorem d_RB_neededOf_12 : decode k_RB_neededOf 12 = .ok (.if_icmp .le 5, 3) := by decide +kernel
theorem d_RB_neededOf_15 : decode k_RB_neededOf 15 = .ok (.iconst 0, 1) := by decide +kernel
theorem d_RB_neededOf_16 : decode k_RB_neededOf 16 = .ok (.ireturn, 1) := by decide +kernel
theorem d_RB_neededOf_17 : decode k_RB_neededOf 17 = .ok (.iload_n 2, 1) := by decide +kernel
theorem d_RB_neededOf_18 : decode k_RB_neededOf 18 = .ok (.ifCond .eq 7, 3) := by decide +kernel
theorem d_RB_neededOf_21 : decode k_RB_neededOf 21 = .ok (.iload_n 2, 1) := by decide +kernel
theorem d_RB_neededOf_22 : decode k_RB_neededOf 22 = .ok (.goto 8, 3) := by decide +kernel
theorem d_RB_neededOf_25 : decode k_RB_neededOf 25 = .ok (.aload_n 0, 1) := by decide +kernel
theorem d_RB_neededOf_26 : decode k_RB_neededOf 26 = .ok (.iload_n 1, 1) := by decide +kernel
theorem d_RB_neededOf_27 : decode k_RB_neededOf 27 = .ok (.invokevirtual 40, 3) := by decide +kernel
theorem d_RB_neededOf_30 : decode k_RB_neededOf 30 = .ok (.istore_n 3, 1) := by decide +kernel
theorem d_RB_neededOf_31 : decode k_RB_neededOf 31 = .ok (.aload_n 0, 1) := by decide +kernel
theorem d_RB_neededOf_32 : decode k_RB_neededOf 32 = .ok (.iload_n 1, 1) := by decide +kernel
theorem d_RB_neededOf_33 : decode k_RB_neededOf 33 = .ok (.iload_n 3, 1) := by decide +kernel
theorem d_RB_neededOf_34 : decode k_RB_neededOf 34 = .ok (.iconst (-1), 1) := by decide +kernel
theorem d_RB_neededOf_35 : decode k_RB_neededOf 35 = .ok (.ixor, 1) := by decide +kernel
theorem d_RB_neededOf_36 : decode k_RB_neededOf 36 = .ok (.iand, 1) := by decide +kernel
theorem d_RB_neededOf_37 : decode k_RB_neededOf 37 = .ok (.invokevirtual 43, 3) := by decide +kernel
theorem d_RB_neededOf_40 : decode k_RB_neededOf 40 = .ok (.aload_n 0, 1) := by decide +kernel
theorem d_RB_neededOf_41 : decode k_RB_neededOf 41 = .ok (.iload_n 1, 1) := by decide +kernel
theorem d_RB_neededOf_42 : decode k_RB_neededOf 42 = .ok (.invokevirtual 43, 3) := by decide +kernel
theorem d_RB_neededOf_45 : decode k_RB_neededOf 45 = .ok (.if_icmp .ne 7, 3) := by decide +kernel
theorem d_RB_neededOf_48 : decode k_RB_neededOf 48 = .ok (.iconst 0, 1) := by decide +kernel
theorem d_RB_neededOf_49 : decode k_RB_neededOf 49 = .ok (.goto 4, 3) := by decide +kernel
theorem d_RB_neededOf_52 : decode k_RB_neededOf 52 = .ok (.iload_n 3, 1) := by decide +kernel
theorem d_RB_neededOf_53 : decode k_RB_neededOf 53 = .ok (.ireturn, 1) := by decide +kernel
theorem d_RB_lastOf_0 : decode k_RB_lastOf 0 = .ok (.aload_n 0, 1) := by decide +kernel
theorem d_RB_lastOf_1 : decode k_RB_lastOf 1 = .ok (.getfield 18, 3) := by decide +kernel
theorem d_RB_lastOf_4 : decode k_RB_lastOf 4 = .ok (.iconst 1, 1) := by decide +kernel
theorem d_RB_lastOf_5 : decode k_RB_lastOf 5 = .ok (.isub, 1) := by decide +kernel
theorem d_RB_lastOf_6 : decode k_RB_lastOf 6 = .ok (.istore_n 2, 1) := by decide +kernel
theorem d_RB_lastOf_7 : decode k_RB_lastOf 7 = .ok (.iload_n 2, 1) := by decide +kernel
theorem d_RB_lastOf_8 : decode k_RB_lastOf 8 = .ok (.ifCond .lt 21, 3) := by decide +kernel
theorem d_RB_lastOf_11 : decode k_RB_lastOf 11 = .ok (.iload_n 1, 1) := by decide +kernel
theorem d_RB_lastOf_12 : decode k_RB_lastOf 12 = .ok (.iconst 1, 1) := by decide +kernel
theorem d_RB_lastOf_13 : decode k_RB_lastOf 13 = .ok (.iload_n 2, 1) := by decide +kernel
theorem d_RB_lastOf_14 : decode k_RB_lastOf 14 = .ok (.ishl, 1) := by decide +kernel
theorem d_RB_lastOf_15 : decode k_RB_lastOf 15 = .ok (.iand, 1) := by decide +kernel
theorem d_RB_lastOf_16 : decode k_RB_lastOf 16 = .ok (.ifCond .eq 7, 3) := by decide +kernel
theorem d_RB_lastOf_19 : decode k_RB_lastOf 19 = .ok (.iconst 1, 1) := by decide +kernel
theorem d_RB_lastOf_20 : decode k_RB_lastOf 20 = .ok (.iload_n 2, 1) := by decide +kernel
theorem d_RB_lastOf_21 : decode k_RB_lastOf 21 = .ok (.ishl, 1) := by decide +kernel
theorem d_RB_lastOf_22 : decode k_RB_lastOf 22 = .ok (.ireturn, 1) := by decide +kernel
theorem d_RB_lastOf_23 : decode k_RB_lastOf 23 = .ok (.iinc 2 (-1), 3) := by decide +kernel
theorem d_RB_lastOf_26 : decode k_RB_lastOf 26 = .ok (.goto (-19), 3) := by decide +kernel
theorem d_RB_lastOf_29 : decode k_RB_lastOf 29 = .ok (.iconst 0, 1) := by decide +kernel
theorem d_RB_lastOf_30 : decode k_RB_lastOf 30 = .ok (.ireturn, 1) := by decide +kernel
theorem d_RB_firstOf_0 : decode k_RB_firstOf 0 = .ok (.iconst 0, 1) := by decide +kernel
theorem d_RB_firstOf_1 : decode k_RB_firstOf 1 = .ok (.istore_n 2, 1) := by decide +kernel
theorem d_RB_firstOf_2 : decode k_RB_firstOf 2 = .ok (.iload_n 2, 1) := by decide +kernel
theorem d_RB_firstOf_3 : decode k_RB_firstOf 3 = .ok (.aload_n 0, 1) := by decide +kernel
theorem d_RB_firstOf_4 : decode k_RB_firstOf 4 = .ok (.getfield 18, 3) := by decide +kernel
theorem d_RB_firstOf_7 : decode k_RB_firstOf 7 = .ok (.if_icmp .ge 19, 3) := by decide +kernel
theorem d_RB_firstOf_10 : decode k_RB_firstOf 10 = .ok (.iload_n 1, 1) := by decide +kernel
theorem d_RB_firstOf_11 : decode k_RB_firstOf 11 = .ok (.iconst 1, 1) := by decide +kernel
theorem d_RB_firstOf_12 : decode k_RB_firstOf 12 = .ok (.iload_n 2, 1) := by decide +kernel
theorem d_RB_firstOf_13 : decode k_RB_firstOf 13 = .ok (.ishl, 1) := by decide +kernel
theorem d_RB_firstOf_14 : decode k_RB_firstOf 14 = .ok (.iand, 1) := by decide +kernel
theorem d_RB_firstOf_15 : decode k_RB_firstOf 15 = .ok (.ifCond .eq 5, 3) := by decide +kernel
theorem d_RB_firstOf_18 : decode k_RB_firstOf 18 = .ok (.iload_n 2, 1) := by decide +kernel
theorem d_RB_firstOf_19 : decode k_RB_firstOf 19 = .ok (.ireturn, 1) := by decide +kernel
theorem d_RB_firstOf_20 : decode k_RB_firstOf 20 = .ok (.iinc 2 1, 3) := by decide +kernel
theorem d_RB_firstOf_23 : decode k_RB_firstOf 23 = .ok (.goto (-21), 3) := by decide +kernel
theorem d_RB_firstOf_26 : decode k_RB_firstOf 26 = .ok (.iconst (-1), 1) := by decide +kernel
theorem d_RB_firstOf_27 : decode k_RB_firstOf 27 = .ok (.ireturn, 1) := by decide +kernel
theorem d_RD_init_0 : decode k_RD_init 0 = .ok (.aload_n 0, 1) := by decide +kernel
theorem d_RD_init_1 : decode k_RD_init 1 = .ok (.invokespecial 3, 3) := by decide +kernel
theorem d_RD_init_4 : decode k_RD_init 4 = .ok (.return_, 1) := by decide +kernel
theorem d_RD_reads_0 : decode k_RD_reads 0 = .ok (.aload_n 0, 1) := by decide +kernel
theorem d_RD_reads_1 : decode k_RD_reads 1 = .ok (.iconst 0, 1) := by decide +kernel
theorem d_RD_reads_2 : decode k_RD_reads 2 = .ok (.putfield 9, 3) := by decide +kernel
theorem d_RD_reads_5 : decode k_RD_reads 5 = .ok (.aload_n 0, 1) := by decide +kernel
theorem d_RD_reads_6 : decode k_RD_reads 6 = .ok (.iconst 0, 1) := by decide +kernel
theorem d_RD_reads_7 : decode k_RD_reads 7 = .ok (.putfield 15, 3) := by decide +kernel
theorem d_RD_reads_10 : decode k_RD_reads 10 = .ok (.aload_n 0, 1) := by decide +kernel
theorem d_RD_reads_11 : decode k_RD_reads 11 = .ok (.iconst 0, 1) := by decide +kernel
theorem d_RD_reads_12 : decode k_RD_reads 12 = .ok (.putfield 18, 3) := by decide +kernel
theorem d_RD_reads_15 : decode k_RD_reads 15 = .ok (.iconst 0, 1) := by decide +kernel
theorem d_RD_reads_16 : decode k_RD_reads 16 = .ok (.istore_n 2, 1) := by decide +kernel
theorem d_RD_reads_17 : decode k_RD_reads 17 = .ok (.iload_n 2, 1) := by decide +kernel
theorem d_RD_reads_18 : decode k_RD_reads 18 = .ok (.aload_n 1, 1) := by decide +kernel
theorem d_RD_reads_19 : decode k_RD_reads 19 = .ok (.getfield 21, 3) := by decide +kernel
theorem d_RD_reads_22 : decode k_RD_reads 22 = .ok (.if_icmp .ge 29, 3) := by decide +kernel
theorem d_RD_reads_25 : decode k_RD_reads 25 = .ok (.aload_n 0, 1) := by decide +kernel
theorem d_RD_reads_26 : decode k_RD_reads 26 = .ok (.aload_n 1, 1) := by decide +kernel
theorem d_RD_reads_27 : decode k_RD_reads 27 = .ok (.getfield 26, 3) := by decide +kernel
theorem d_RD_reads_30 : decode k_RD_reads 30 = .ok (.iload_n 2, 1) := by decide +kernel
theorem d_RD_reads_31 : decode k_RD_reads 31 = .ok (.caload, 1) := by decide +kernel
theorem d_RD_reads_32 : decode k_RD_reads 32 = .ok (.invokevirtual 30, 3) := by decide +kernel
theorem d_RD_reads_35 : decode k_RD_reads 35 = .ok (.ifCond .ne 10, 3) := by decide +kernel
theorem d_RD_reads_38 : decode k_RD_reads 38 = .ok (.aload_n 0, 1) := by decide +kernel
theorem d_RD_reads_39 : decode k_RD_reads 39 = .ok (.iload_n 2, 1) := by decide +kernel
theorem d_RD_reads_40 : decode k_RD_reads 40 = .ok (.putfield 34, 3) := by decide +kernel
theorem d_RD_reads_43 : decode k_RD_reads 43 = .ok (.iconst 0, 1) := by decide +kernel
theorem d_RD_reads_44 : decode k_RD_reads 44 = .ok (.ireturn, 1) := by decide +kernel
theorem d_RD_reads_45 : decode k_RD_reads 45 = .ok (.iinc 2 1, 3) := by decide +kernel
theorem d_RD_reads_48 : decode k_RD_reads 48 = .ok (.goto (-31), 3) := by decide +kernel
theorem d_RD_reads_51 : decode k_RD_reads 51 = .ok (.aload_n 0, 1) := by decide +kernel
theorem d_RD_reads_52 : decode k_RD_reads 52 = .ok (.aload_n 1, 1) := by decide +kernel
theorem d_RD_reads_53 : decode k_RD_reads 53 = .ok (.getfield 21, 3) := by decide +kernel
theorem d_RD_reads_56 : decode k_RD_reads 56 = .ok (.putfield 34, 3) := by decide +kernel
theorem d_RD_reads_59 : decode k_RD_reads 59 = .ok (.aload_n 0, 1) := by decide +kernel
theorem d_RD_reads_60 : decode k_RD_reads 60 = .ok (.getfield 18, 3) := by decide +kernel
theorem d_RD_reads_63 : decode k_RD_reads 63 = .ok (.iconst 1, 1) := by decide +kernel
theorem d_RD_reads_64 : decode k_RD_reads 64 = .ok (.if_icmp .ne 7, 3) := by decide +kernel
theorem d_RD_reads_67 : decode k_RD_reads 67 = .ok (.iconst 1, 1) := by decide +kernel
theorem d_RD_reads_68 : decode k_RD_reads 68 = .ok (.goto 4, 3) := by decide +kernel
theorem d_RD_reads_71 : decode k_RD_reads 71 = .ok (.iconst 0, 1) := by decide +kernel
theorem d_RD_reads_72 : decode k_RD_reads 72 = .ok (.ireturn, 1) := by decide +kernel
theorem d_RD_takes_0 : decode k_RD_takes 0 = .ok (.aload_n 0, 1) := by decide +kernel
theorem d_RD_takes_1 : decode k_RD_takes 1 = .ok (.getfield 18, 3) := by decide +kernel
theorem d_RD_takes_4 : decode k_RD_takes 4 = .ok (.tableswitch 90 0 3 #[32, 38, 60, 84], 32) := by decide +kernel
theorem d_RD_takes_36 : decode k_RD_takes 36 = .ok (.aload_n 0, 1) := by decide +kernel
theorem d_RD_takes_37 : decode k_RD_takes 37 = .ok (.iload_n 1, 1) := by decide +kernel
theorem d_RD_takes_38 : decode k_RD_takes 38 = .ok (.invokevirtual 37, 3) := by decide +kernel
theorem d_RD_takes_41 : decode k_RD_takes 41 = .ok (.ireturn, 1) := by decide +kernel
theorem d_RD_takes_42 : decode k_RD_takes 42 = .ok (.aload_n 0, 1) := by decide +kernel
theorem d_RD_takes_43 : decode k_RD_takes 43 = .ok (.iconst 0, 1) := by decide +kernel
theorem d_RD_takes_44 : decode k_RD_takes 44 = .ok (.putfield 40, 3) := by decide +kernel
theorem d_RD_takes_47 : decode k_RD_takes 47 = .ok (.aload_n 0, 1) := by decide +kernel
theorem d_RD_takes_48 : decode k_RD_takes 48 = .ok (.iconst 2, 1) := by decide +kernel
theorem d_RD_takes_49 : decode k_RD_takes 49 = .ok (.putfield 18, 3) := by decide +kernel
theorem d_RD_takes_52 : decode k_RD_takes 52 = .ok (.iload_n 1, 1) := by decide +kernel
theorem d_RD_takes_53 : decode k_RD_takes 53 = .ok (.bipush 32, 2) := by decide +kernel
theorem d_RD_takes_55 : decode k_RD_takes 55 = .ok (.if_icmp .ne 7, 3) := by decide +kernel
theorem d_RD_takes_58 : decode k_RD_takes 58 = .ok (.iconst 1, 1) := by decide +kernel
theorem d_RD_takes_59 : decode k_RD_takes 59 = .ok (.goto 4, 3) := by decide +kernel
theorem d_RD_takes_62 : decode k_RD_takes 62 = .ok (.iconst 0, 1) := by decide +kernel
theorem d_RD_takes_63 : decode k_RD_takes 63 = .ok (.ireturn, 1) := by decide +kernel
theorem d_RD_takes_64 : decode k_RD_takes 64 = .ok (.iload_n 1, 1) := by decide +kernel
theorem d_RD_takes_65 : decode k_RD_takes 65 = .ok (.bipush 33, 2) := by decide +kernel
theorem d_RD_takes_67 : decode k_RD_takes 67 = .ok (.if_icmp .ne 15, 3) := by decide +kernel
theorem d_RD_takes_70 : decode k_RD_takes 70 = .ok (.aload_n 0, 1) := by decide +kernel
theorem d_RD_takes_71 : decode k_RD_takes 71 = .ok (.iconst 1, 1) := by decide +kernel
theorem d_RD_takes_72 : decode k_RD_takes 72 = .ok (.putfield 40, 3) := by decide +kernel
theorem d_RD_takes_75 : decode k_RD_takes 75 = .ok (.aload_n 0, 1) := by decide +kernel
theorem d_RD_takes_76 : decode k_RD_takes 76 = .ok (.iconst 3, 1) := by decide +kernel
theorem d_RD_takes_77 : decode k_RD_takes 77 = .ok (.putfield 18, 3) := by decide +kernel
theorem d_RD_takes_80 : decode k_RD_takes 80 = .ok (.iconst 1, 1) := by decide +kernel
theorem d_RD_takes_81 : decode k_RD_takes 81 = .ok (.ireturn, 1) := by decide +kernel
theorem d_RD_takes_82 : decode k_RD_takes 82 = .ok (.aload_n 0, 1) := by decide +kernel
theorem d_RD_takes_83 : decode k_RD_takes 83 = .ok (.iload_n 1, 1) := by decide +kernel
theorem d_RD_takes_84 : decode k_RD_takes 84 = .ok (.invokevirtual 44, 3) := by decide +kernel
theorem d_RD_takes_87 : decode k_RD_takes 87 = .ok (.ireturn, 1) := by decide +kernel
theorem d_RD_takes_88 : decode k_RD_takes 88 = .ok (.aload_n 0, 1) := by decide +kernel
theorem d_RD_takes_89 : decode k_RD_takes 89 = .ok (.iload_n 1, 1) := by decide +kernel
theorem d_RD_takes_90 : decode k_RD_takes 90 = .ok (.invokevirtual 44, 3) := by decide +kernel
theorem d_RD_takes_93 : decode k_RD_takes 93 = .ok (.ireturn, 1) := by decide +kernel
theorem d_RD_takes_94 : decode k_RD_takes 94 = .ok (.aload_n 0, 1) := by decide +kernel
theorem d_RD_takes_95 : decode k_RD_takes 95 = .ok (.iload_n 1, 1) := by decide +kernel
theorem d_RD_takes_96 : decode k_RD_takes 96 = .ok (.invokevirtual 47, 3) := by decide +kernel
theorem d_RD_takes_99 : decode k_RD_takes 99 = .ok (.ireturn, 1) := by decide +kernel
theorem d_RD_takesAnswer_0 : decode k_RD_takesAnswer 0 = .ok (.aload_n 0, 1) := by decide +kernel
theorem d_RD_takesAnswer_1 : decode k_RD_takesAnswer 1 = .ok (.iconst 1, 1) := by decide +kernel
theorem d_RD_takesAnswer_2 : decode k_RD_takesAnswer 2 = .ok (.putfield 18, 3) := by decide +kernel
theorem d_RD_takesAnswer_5 : decode k_RD_takesAnswer 5 = .ok (.iload_n 1, 1) := by decide +kernel
theorem d_RD_takesAnswer_6 : decode k_RD_takesAnswer 6 = .ok (.lookupswitch 55 #[(97, 48), (109, 41), (115, 34)], 34) := by decide +kernel
theorem d_RD_takesAnswer_40 : decode k_RD_takesAnswer 40 = .ok (.aload_n 0, 1) := by decide +kernel
theorem d_RD_takesAnswer_41 : decode k_RD_takesAnswer 41 = .ok (.iconst 2, 1) := by decide +kernel
theorem d_RD_takesAnswer_42 : decode k_RD_takesAnswer 42 = .ok (.putfield 50, 3) := by decide +kernel
theorem d_RD_takesAnswer_45 : decode k_RD_takesAnswer 45 = .ok (.iconst 1, 1) := by decide +kernel
theorem d_RD_takesAnswer_46 : decode k_RD_takesAnswer 46 = .ok (.ireturn, 1) := by decide +kernel
theorem d_RD_takesAnswer_47 : decode k_RD_takesAnswer 47 = .ok (.aload_n 0, 1) := by decide +kernel
theorem d_RD_takesAnswer_48 : decode k_RD_takesAnswer 48 = .ok (.iconst 1, 1) := by decide +kernel
theorem d_RD_takesAnswer_49 : decode k_RD_takesAnswer 49 = .ok (.putfield 50, 3) := by decide +kernel
theorem d_RD_takesAnswer_52 : decode k_RD_takesAnswer 52 = .ok (.iconst 1, 1) := by decide +kernel
theorem d_RD_takesAnswer_53 : decode k_RD_takesAnswer 53 = .ok (.ireturn, 1) := by decide +kernel
theorem d_RD_takesAnswer_54 : decode k_RD_takesAnswer 54 = .ok (.aload_n 0, 1) := by decide +kernel
theorem d_RD_takesAnswer_55 : decode k_RD_takesAnswer 55 = .ok (.iconst 0, 1) := by decide +kernel
theorem d_RD_takesAnswer_56 : decode k_RD_takesAnswer 56 = .ok (.putfield 50, 3) := by decide +kernel
theorem d_RD_takesAnswer_59 : decode k_RD_takesAnswer 59 = .ok (.iconst 1, 1) := by decide +kernel
theorem d_RD_takesAnswer_60 : decode k_RD_takesAnswer 60 = .ok (.ireturn, 1) := by decide +kernel
theorem d_RD_takesAnswer_61 : decode k_RD_takesAnswer 61 = .ok (.iconst 0, 1) := by decide +kernel
theorem d_RD_takesAnswer_62 : decode k_RD_takesAnswer 62 = .ok (.ireturn, 1) := by decide +kernel
theorem d_RD_takesLetter_0 : decode k_RD_takesLetter 0 = .ok (.iload_n 1, 1) := by decide +kernel
theorem d_RD_takesLetter_1 : decode k_RD_takesLetter 1 = .ok (.tableswitch 129 99 114 #[112, 129, 129, 95, 121, 129, 129, 129, 87, 129, 129, 129, 129, 104, 129, 79], 79) := by decide +kernel
theorem d_RD_takesLetter_80 : decode k_RD_takesLetter 80 = .ok (.aload_n 0, 1) := by decide +kernel
theorem d_RD_takesLetter_81 : decode k_RD_takesLetter 81 = .ok (.iconst 0, 1) := by decide +kernel
theorem d_RD_takesLetter_82 : decode k_RD_takesLetter 82 = .ok (.bipush 8, 2) := by decide +kernel
theorem d_RD_takesLetter_84 : decode k_RD_takesLetter 84 = .ok (.invokevirtual 53, 3) := by decide +kernel
theorem d_RD_takesLetter_87 : decode k_RD_takesLetter 87 = .ok (.ireturn, 1) := by decide +kernel
theorem d_RD_takesLetter_88 : decode k_RD_takesLetter 88 = .ok (.aload_n 0, 1) := by decide +kernel
theorem d_RD_takesLetter_89 : decode k_RD_takesLetter 89 = .ok (.bipush 8, 2) := by decide +kernel
theorem d_RD_takesLetter_91 : decode k_RD_takesLetter 91 = .ok (.iconst 4, 1) := by decide +kernel
theorem d_RD_takesLetter_92 : decode k_RD_takesLetter 92 = .ok (.invokevirtual 53, 3) := by decide +kernel
theorem d_RD_takesLetter_95 : decode k_RD_takesLetter 95 = .ok (.ireturn, 1) := by decide +kernel
theorem d_RD_takesLetter_96 : decode k_RD_takesLetter 96 = .ok (.aload_n 0, 1) := by decide +kernel
theorem d_RD_takesLetter_97 : decode k_RD_takesLetter 97 = .ok (.bipush 12, 2) := by decide +kernel
theorem d_RD_takesLetter_99 : decode k_RD_takesLetter 99 = .ok (.bipush 6, 2) := by decide +kernel
theorem d_RD_takesLetter_101 : decode k_RD_takesLetter 101 = .ok (.invokevirtual 53, 3) := by decide +kernel
theorem d_RD_takesLetter_104 : decode k_RD_takesLetter 104 = .ok (.ireturn, 1) := by decide +kernel
theorem d_RD_takesLetter_105 : decode k_RD_takesLetter 105 = .ok (.aload_n 0, 1) := by decide +kernel
theorem d_RD_takesLetter_106 : decode k_RD_takesLetter 106 = .ok (.bipush 18, 2) := by decide +kernel
theorem d_RD_takesLetter_108 : decode k_RD_takesLetter 108 = .ok (.iconst 4, 1) := by decide +kernel
theorem d_RD_takesLetter_109 : decode k_RD_takesLetter 109 = .ok (.invokevirtual 53, 3) := by decide +kernel
theorem d_RD_takesLetter_112 : decode k_RD_takesLetter 112 = .ok (.ireturn, 1) := by decide +kernel
theorem d_RD_takesLetter_113 : decode k_RD_takesLetter 113 = .ok (.aload_n 0, 1) := by decide +kernel
theorem d_RD_takesLetter_114 : decode k_RD_takesLetter 114 = .ok (.bipush 22, 2) := by decide +kernel
theorem d_RD_takesLetter_116 : decode k_RD_takesLetter 116 = .ok (.bipush 8, 2) := by decide +kernel
theorem d_RD_takesLetter_118 : decode k_RD_takesLetter 118 = .ok (.invokevirtual 53, 3) := by decide +kernel
theorem d_RD_takesLetter_121 : decode k_RD_takesLetter 121 = .ok (.ireturn, 1) := by decide +kernel
theorem d_RD_takesLetter_122 : decode k_RD_takesLetter 122 = .ok (.aload_n 0, 1) := by decide +kernel
theorem d_RD_takesLetter_123 : decode k_RD_takesLetter 123 = .ok (.bipush 30, 2) := by decide +kernel
theorem d_RD_takesLetter_125 : decode k_RD_takesLetter 125 = .ok (.invokevirtual 57, 3) := by decide +kernel
theorem d_RD_takesLetter_128 : decode k_RD_takesLetter 128 = .ok (.iconst 1, 1) := by decide +kernel
theorem d_RD_takesLetter_129 : decode k_RD_takesLetter 129 = .ok (.ireturn, 1) := by decide +kernel
theorem d_RD_takesLetter_130 : decode k_RD_takesLetter 130 = .ok (.iconst 0, 1) := by decide +kernel
theorem d_RD_takesLetter_131 : decode k_RD_takesLetter 131 = .ok (.ireturn, 1) := by decide +kernel
theorem d_RD_awaitsDigit_0 : decode k_RD_awaitsDigit 0 = .ok (.aload_n 0, 1) := by decide +kernel
theorem d_RD_awaitsDigit_1 : decode k_RD_awaitsDigit 1 = .ok (.iload_n 1, 1) := by decide +kernel
theorem d_RD_awaitsDigit_2 : decode k_RD_awaitsDigit 2 = .ok (.putfield 61, 3) := by decide +kernel
theorem d_RD_awaitsDigit_5 : decode k_RD_awaitsDigit 5 = .ok (.aload_n 0, 1) := by decide +kernel
theorem d_RD_awaitsDigit_6 : decode k_RD_awaitsDigit 6 = .ok (.iload_n 2, 1) := by decide +kernel
theorem d_RD_awaitsDigit_7 : decode k_RD_awaitsDigit 7 = .ok (.putfield 64, 3) := by decide +kernel
theorem d_RD_awaitsDigit_10 : decode k_RD_awaitsDigit 10 = .ok (.aload_n 0, 1) := by decide +kernel
theorem d_RD_awaitsDigit_11 : decode k_RD_awaitsDigit 11 = .ok (.iconst 4, 1) := by decide +kernel
theorem d_RD_awaitsDigit_12 : decode k_RD_awaitsDigit 12 = .ok (.putfield 18, 3) := by decide +kernel
theorem d_RD_awaitsDigit_15 : decode k_RD_awaitsDigit 15 = .ok (.iconst 1, 1) := by decide +kernel
theorem d_RD_awaitsDigit_16 : decode k_RD_awaitsDigit 16 = .ok (.ireturn, 1) := by decide +kernel
theorem d_RD_takesDigit_0 : decode k_RD_takesDigit 0 = .ok (.iload_n 1, 1) := by decide +kernel
theorem d_RD_takesDigit_1 : decode k_RD_takesDigit 1 = .ok (.bipush 48, 2) := by decide +kernel
theorem d_RD_takesDigit_3 : decode k_RD_takesDigit 3 = .ok (.if_icmp .lt 14, 3) := by decide +kernel
theorem d_RD_takesDigit_6 : decode k_RD_takesDigit 6 = .ok (.iload_n 1, 1) := by decide +kernel
theorem d_RD_takesDigit_7 : decode k_RD_takesDigit 7 = .ok (.bipush 48, 2) := by decide +kernel
theorem d_RD_takesDigit_9 : decode k_RD_takesDigit 9 = .ok (.aload_n 0, 1) := by decide +kernel
theorem d_RD_takesDigit_10 : decode k_RD_takesDigit 10 = .ok (.getfield 64, 3) := by decide +kernel
theorem d_RD_takesDigit_13 : decode k_RD_takesDigit 13 = .ok (.iadd, 1) := by decide +kernel
theorem d_RD_takesDigit_14 : decode k_RD_takesDigit 14 = .ok (.if_icmp .lt 5, 3) := by decide +kernel
theorem d_RD_takesDigit_17 : decode k_RD_takesDigit 17 = .ok (.iconst 0, 1) := by decide +kernel
theorem d_RD_takesDigit_18 : decode k_RD_takesDigit 18 = .ok (.ireturn, 1) := by decide +kernel
theorem d_RD_takesDigit_19 : decode k_RD_takesDigit 19 = .ok (.aload_n 0, 1) := by decide +kernel
theorem d_RD_takesDigit_20 : decode k_RD_takesDigit 20 = .ok (.aload_n 0, 1) := by decide +kernel
theorem d_RD_takesDigit_21 : decode k_RD_takesDigit 21 = .ok (.getfield 61, 3) := by decide +kernel
theorem d_RD_takesDigit_24 : decode k_RD_takesDigit 24 = .ok (.iload_n 1, 1) := by decide +kernel
theorem d_RD_takesDigit_25 : decode k_RD_takesDigit 25 = .ok (.bipush 48, 2) := by decide +kernel
theorem d_RD_takesDigit_27 : decode k_RD_takesDigit 27 = .ok (.isub, 1) := by decide +kernel
theorem d_RD_takesDigit_28 : decode k_RD_takesDigit 28 = .ok (.iadd, 1) := by decide +kernel
theorem d_RD_takesDigit_29 : decode k_RD_takesDigit 29 = .ok (.invokevirtual 57, 3) := by decide +kernel
theorem d_RD_takesDigit_32 : decode k_RD_takesDigit 32 = .ok (.iconst 1, 1) := by decide +kernel
theorem d_RD_takesDigit_33 : decode k_RD_takesDigit 33 = .ok (.ireturn, 1) := by decide +kernel
theorem d_RD_addCondition_0 : decode k_RD_addCondition 0 = .ok (.aload_n 0, 1) := by decide +kernel
theorem d_RD_addCondition_1 : decode k_RD_addCondition 1 = .ok (.getfield 40, 3) := by decide +kernel
theorem d_RD_addCondition_4 : decode k_RD_addCondition 4 = .ok (.ifCond .eq 18, 3) := by decide +kernel
theorem d_RD_addCondition_7 : decode k_RD_addCondition 7 = .ok (.aload_n 0, 1) := by decide +kernel
theorem d_RD_addCondition_8 : decode k_RD_addCondition 8 = .ok (.dup, 1) := by decide +kernel
theorem d_RD_addCondition_9 : decode k_RD_addCondition 9 = .ok (.getfield 15, 3) := by decide +kernel
theorem d_RD_addCondition_12 : decode k_RD_addCondition 12 = .ok (.iconst 1, 1) := by decide +kernel
theorem d_RD_addCondition_13 : decode k_RD_addCondition 13 = .ok (.iload_n 1, 1) := by decide +kernel
theorem d_RD_addCondition_14 : decode k_RD_addCondition 14 = .ok (.ishl, 1) := by decide +kernel
theorem d_RD_addCondition_15 : decode k_RD_addCondition 15 = .ok (.ior, 1) := by decide +kernel
theorem d_RD_addCondition_16 : decode k_RD_addCondition 16 = .ok (.putfield 15, 3) := by decide +kernel
theorem d_RD_addCondition_19 : decode k_RD_addCondition 19 = .ok (.goto 15, 3) := by decide +kernel
theorem d_RD_addCondition_22 : decode k_RD_addCondition 22 = .ok (.aload_n 0, 1) := by decide +kernel
theorem d_RD_addCondition_23 : decode k_RD_addCondition 23 = .ok (.dup, 1) := by decide +kernel
theorem d_RD_addCondition_24 : decode k_RD_addCondition 24 = .ok (.getfield 9, 3) := by decide +kernel
theorem d_RD_addCondition_27 : decode k_RD_addCondition 27 = .ok (.iconst 1, 1) := by decide +kernel
theorem d_RD_addCondition_28 : decode k_RD_addCondition 28 = .ok (.iload_n 1, 1) := by decide +kernel
theorem d_RD_addCondition_29 : decode k_RD_addCondition 29 = .ok (.ishl, 1) := by decide +kernel
theorem d_RD_addCondition_30 : decode k_RD_addCondition 30 = .ok (.ior, 1) := by decide +kernel
theorem d_RD_addCondition_31 : decode k_RD_addCondition 31 = .ok (.putfield 9, 3) := by decide +kernel
theorem d_RD_addCondition_34 : decode k_RD_addCondition 34 = .ok (.aload_n 0, 1) := by decide +kernel
theorem d_RD_addCondition_35 : decode k_RD_addCondition 35 = .ok (.iconst 1, 1) := by decide +kernel
theorem d_RD_addCondition_36 : decode k_RD_addCondition 36 = .ok (.putfield 18, 3) := by decide +kernel
theorem d_RD_addCondition_39 : decode k_RD_addCondition 39 = .ok (.return_, 1) := by decide +kernel
theorem d_JI_bitCount_0 : decode k_JI_bitCount 0 = .ok (.iload_n 0, 1) := by decide +kernel
theorem d_JI_bitCount_1 : decode k_JI_bitCount 1 = .ok (.iload_n 0, 1) := by decide +kernel
theorem d_JI_bitCount_2 : decode k_JI_bitCount 2 = .ok (.iconst 1, 1) := by decide +kernel
theorem d_JI_bitCount_3 : decode k_JI_bitCount 3 = .ok (.iushr, 1) := by decide +kernel
theorem d_JI_bitCount_4 : decode k_JI_bitCount 4 = .ok (.ldc_w 265, 3) := by decide +kernel
theorem d_JI_bitCount_7 : decode k_JI_bitCount 7 = .ok (.iand, 1) := by decide +kernel
theorem d_JI_bitCount_8 : decode k_JI_bitCount 8 = .ok (.isub, 1) := by decide +kernel
theorem d_JI_bitCount_9 : decode k_JI_bitCount 9 = .ok (.istore_n 0, 1) := by decide +kernel
theorem d_JI_bitCount_10 : decode k_JI_bitCount 10 = .ok (.iload_n 0, 1) := by decide +kernel
theorem d_JI_bitCount_11 : decode k_JI_bitCount 11 = .ok (.ldc_w 266, 3) := by decide +kernel
theorem d_JI_bitCount_14 : decode k_JI_bitCount 14 = .ok (.iand, 1) := by decide +kernel
theorem d_JI_bitCount_15 : decode k_JI_bitCount 15 = .ok (.iload_n 0, 1) := by decide +kernel
theorem d_JI_bitCount_16 : decode k_JI_bitCount 16 = .ok (.iconst 2, 1) := by decide +kernel
theorem d_JI_bitCount_17 : decode k_JI_bitCount 17 = .ok (.iushr, 1) := by decide +kernel
theorem d_JI_bitCount_18 : decode k_JI_bitCount 18 = .ok (.ldc_w 266, 3) := by decide +kernel
theorem d_JI_bitCount_21 : decode k_JI_bitCount 21 = .ok (.iand, 1) := by decide +kernel
theorem d_JI_bitCount_22 : decode k_JI_bitCount 22 = .ok (.iadd, 1) := by decide +kernel
theorem d_JI_bitCount_23 : decode k_JI_bitCount 23 = .ok (.istore_n 0, 1) := by decide +kernel
theorem d_JI_bitCount_24 : decode k_JI_bitCount 24 = .ok (.iload_n 0, 1) := by decide +kernel
theorem d_JI_bitCount_25 : decode k_JI_bitCount 25 = .ok (.iload_n 0, 1) := by decide +kernel
theorem d_JI_bitCount_26 : decode k_JI_bitCount 26 = .ok (.iconst 4, 1) := by decide +kernel
theorem d_JI_bitCount_27 : decode k_JI_bitCount 27 = .ok (.iushr, 1) := by decide +kernel
theorem d_JI_bitCount_28 : decode k_JI_bitCount 28 = .ok (.iadd, 1) := by decide +kernel
theorem d_JI_bitCount_29 : decode k_JI_bitCount 29 = .ok (.ldc_w 267, 3) := by decide +kernel
theorem d_JI_bitCount_32 : decode k_JI_bitCount 32 = .ok (.iand, 1) := by decide +kernel
theorem d_JI_bitCount_33 : decode k_JI_bitCount 33 = .ok (.istore_n 0, 1) := by decide +kernel
theorem d_JI_bitCount_34 : decode k_JI_bitCount 34 = .ok (.iload_n 0, 1) := by decide +kernel
theorem d_JI_bitCount_35 : decode k_JI_bitCount 35 = .ok (.iload_n 0, 1) := by decide +kernel
theorem d_JI_bitCount_36 : decode k_JI_bitCount 36 = .ok (.bipush 8, 2) := by decide +kernel
theorem d_JI_bitCount_38 : decode k_JI_bitCount 38 = .ok (.iushr, 1) := by decide +kernel
theorem d_JI_bitCount_39 : decode k_JI_bitCount 39 = .ok (.iadd, 1) := by decide +kernel
theorem d_JI_bitCount_40 : decode k_JI_bitCount 40 = .ok (.istore_n 0, 1) := by decide +kernel
theorem d_JI_bitCount_41 : decode k_JI_bitCount 41 = .ok (.iload_n 0, 1) := by decide +kernel
theorem d_JI_bitCount_42 : decode k_JI_bitCount 42 = .ok (.iload_n 0, 1) := by decide +kernel
theorem d_JI_bitCount_43 : decode k_JI_bitCount 43 = .ok (.bipush 16, 2) := by decide +kernel
theorem d_JI_bitCount_45 : decode k_JI_bitCount 45 = .ok (.iushr, 1) := by decide +kernel
theorem d_JI_bitCount_46 : decode k_JI_bitCount 46 = .ok (.iadd, 1) := by decide +kernel
theorem d_JI_bitCount_47 : decode k_JI_bitCount 47 = .ok (.istore_n 0, 1) := by decide +kernel
theorem d_JI_bitCount_48 : decode k_JI_bitCount 48 = .ok (.iload_n 0, 1) := by decide +kernel
theorem d_JI_bitCount_49 : decode k_JI_bitCount 49 = .ok (.bipush 63, 2) := by decide +kernel
theorem d_JI_bitCount_51 : decode k_JI_bitCount 51 = .ok (.iand, 1) := by decide +kernel
theorem d_JI_bitCount_52 : decode k_JI_bitCount 52 = .ok (.ireturn, 1) := by decide +kernel
