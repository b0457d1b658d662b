theorem d_LW_unit_0 : decode k_LW_unit 0 = .ok (.aload 5, 2) := by decide +kernel
theorem d_LW_unit_2 : decode k_LW_unit 2 = .ok (.iconst 0, 1) := by decide +kernel
theorem d_LW_unit_3 : decode k_LW_unit 3 = .ok (.aload_n 0, 1) := by decide +kernel
theorem d_LW_unit_4 : decode k_LW_unit 4 = .ok (.iload_n 1, 1) := by decide +kernel
theorem d_LW_unit_5 : decode k_LW_unit 5 = .ok (.iload_n 2, 1) := by decide +kernel
theorem d_LW_unit_6 : decode k_LW_unit 6 = .ok (.iload_n 3, 1) := by decide +kernel
theorem d_LW_unit_7 : decode k_LW_unit 7 = .ok (.iload 4, 2) := by decide +kernel
theorem d_LW_unit_9 : decode k_LW_unit 9 = .ok (.invokevirtual 7, 3) := by decide +kernel
theorem d_LW_unit_12 : decode k_LW_unit 12 = .ok (.i2l, 1) := by decide +kernel
theorem d_LW_unit_13 : decode k_LW_unit 13 = .ok (.lastore, 1) := by decide +kernel
theorem d_LW_unit_14 : decode k_LW_unit 14 = .ok (.goto 7, 3) := by decide +kernel
theorem d_LW_unit_17 : decode k_LW_unit 17 = .ok (.astore 6, 2) := by decide +kernel
theorem d_LW_unit_19 : decode k_LW_unit 19 = .ok (.iconst 1, 1) := by decide +kernel
theorem d_LW_unit_20 : decode k_LW_unit 20 = .ok (.ireturn, 1) := by decide +kernel
theorem d_LW_unit_21 : decode k_LW_unit 21 = .ok (.iconst 0, 1) := by decide +kernel
theorem d_LW_unit_22 : decode k_LW_unit 22 = .ok (.ireturn, 1) := by decide +kernel
theorem d_LW_rule_0 : decode k_LW_rule 0 = .ok (.aload_n 1, 1) := by decide +kernel
theorem d_LW_rule_1 : decode k_LW_rule 1 = .ok (.iconst 0, 1) := by decide +kernel
theorem d_LW_rule_2 : decode k_LW_rule 2 = .ok (.aload_n 0, 1) := by decide +kernel
theorem d_LW_rule_3 : decode k_LW_rule 3 = .ok (.invokevirtual 15, 3) := by decide +kernel
theorem d_LW_rule_6 : decode k_LW_rule 6 = .ok (.i2l, 1) := by decide +kernel
theorem d_LW_rule_7 : decode k_LW_rule 7 = .ok (.lastore, 1) := by decide +kernel
theorem d_LW_rule_8 : decode k_LW_rule 8 = .ok (.goto 6, 3) := by decide +kernel
theorem d_LW_rule_11 : decode k_LW_rule 11 = .ok (.astore_n 2, 1) := by decide +kernel
theorem d_LW_rule_12 : decode k_LW_rule 12 = .ok (.iconst 1, 1) := by decide +kernel
theorem d_LW_rule_13 : decode k_LW_rule 13 = .ok (.ireturn, 1) := by decide +kernel
theorem d_LW_rule_14 : decode k_LW_rule 14 = .ok (.iconst 0, 1) := by decide +kernel
theorem d_LW_rule_15 : decode k_LW_rule 15 = .ok (.ireturn, 1) := by decide +kernel
theorem d_LW_drop_0 : decode k_LW_drop 0 = .ok (.aload_n 2, 1) := by decide +kernel
theorem d_LW_drop_1 : decode k_LW_drop 1 = .ok (.iconst 0, 1) := by decide +kernel
theorem d_LW_drop_2 : decode k_LW_drop 2 = .ok (.aload_n 0, 1) := by decide +kernel
theorem d_LW_drop_3 : decode k_LW_drop 3 = .ok (.iload_n 1, 1) := by decide +kernel
theorem d_LW_drop_4 : decode k_LW_drop 4 = .ok (.invokevirtual 19, 3) := by decide +kernel
theorem d_LW_drop_7 : decode k_LW_drop 7 = .ok (.ifCond .eq 7, 3) := by decide +kernel
theorem d_LW_drop_10 : decode k_LW_drop 10 = .ok (.lconst 1, 1) := by decide +kernel
theorem d_LW_drop_11 : decode k_LW_drop 11 = .ok (.goto 4, 3) := by decide +kernel
theorem d_LW_drop_14 : decode k_LW_drop 14 = .ok (.lconst 0, 1) := by decide +kernel
theorem d_LW_drop_15 : decode k_LW_drop 15 = .ok (.lastore, 1) := by decide +kernel
theorem d_LW_drop_16 : decode k_LW_drop 16 = .ok (.goto 6, 3) := by decide +kernel
theorem d_LW_drop_19 : decode k_LW_drop 19 = .ok (.astore_n 3, 1) := by decide +kernel
theorem d_LW_drop_20 : decode k_LW_drop 20 = .ok (.iconst 1, 1) := by decide +kernel
theorem d_LW_drop_21 : decode k_LW_drop 21 = .ok (.ireturn, 1) := by decide +kernel
theorem d_LW_drop_22 : decode k_LW_drop 22 = .ok (.iconst 0, 1) := by decide +kernel
theorem d_LW_drop_23 : decode k_LW_drop 23 = .ok (.ireturn, 1) := by decide +kernel
theorem d_LW_person_0 : decode k_LW_person 0 = .ok (.aload_n 2, 1) := by decide +kernel
theorem d_LW_person_1 : decode k_LW_person 1 = .ok (.iconst 0, 1) := by decide +kernel
theorem d_LW_person_2 : decode k_LW_person 2 = .ok (.aload_n 0, 1) := by decide +kernel
theorem d_LW_person_3 : decode k_LW_person 3 = .ok (.iload_n 1, 1) := by decide +kernel
theorem d_LW_person_4 : decode k_LW_person 4 = .ok (.invokevirtual 25, 3) := by decide +kernel
theorem d_LW_person_7 : decode k_LW_person 7 = .ok (.i2l, 1) := by decide +kernel
theorem d_LW_person_8 : decode k_LW_person 8 = .ok (.lastore, 1) := by decide +kernel
theorem d_LW_person_9 : decode k_LW_person 9 = .ok (.goto 9, 3) := by decide +kernel
theorem d_LW_person_12 : decode k_LW_person 12 = .ok (.astore_n 3, 1) := by decide +kernel
theorem d_LW_person_13 : decode k_LW_person 13 = .ok (.iconst 1, 1) := by decide +kernel
theorem d_LW_person_14 : decode k_LW_person 14 = .ok (.ireturn, 1) := by decide +kernel
theorem d_LW_person_15 : decode k_LW_person 15 = .ok (.astore_n 3, 1) := by decide +kernel
theorem d_LW_person_16 : decode k_LW_person 16 = .ok (.iconst 2, 1) := by decide +kernel
theorem d_LW_person_17 : decode k_LW_person 17 = .ok (.ireturn, 1) := by decide +kernel
theorem d_LW_person_18 : decode k_LW_person 18 = .ok (.iconst 0, 1) := by decide +kernel
theorem d_LW_person_19 : decode k_LW_person 19 = .ok (.ireturn, 1) := by decide +kernel
theorem d_LW_record_0 : decode k_LW_record 0 = .ok (.aload_n 3, 1) := by decide +kernel
theorem d_LW_record_1 : decode k_LW_record 1 = .ok (.iconst 0, 1) := by decide +kernel
theorem d_LW_record_2 : decode k_LW_record 2 = .ok (.aload_n 0, 1) := by decide +kernel
theorem d_LW_record_3 : decode k_LW_record 3 = .ok (.iload_n 1, 1) := by decide +kernel
theorem d_LW_record_4 : decode k_LW_record 4 = .ok (.iload_n 2, 1) := by decide +kernel
theorem d_LW_record_5 : decode k_LW_record 5 = .ok (.invokevirtual 31, 3) := by decide +kernel
theorem d_LW_record_8 : decode k_LW_record 8 = .ok (.i2l, 1) := by decide +kernel
theorem d_LW_record_9 : decode k_LW_record 9 = .ok (.lastore, 1) := by decide +kernel
theorem d_LW_record_10 : decode k_LW_record 10 = .ok (.goto 11, 3) := by decide +kernel
theorem d_LW_record_13 : decode k_LW_record 13 = .ok (.astore 4, 2) := by decide +kernel
theorem d_LW_record_15 : decode k_LW_record 15 = .ok (.iconst 1, 1) := by decide +kernel
theorem d_LW_record_16 : decode k_LW_record 16 = .ok (.ireturn, 1) := by decide +kernel
theorem d_LW_record_17 : decode k_LW_record 17 = .ok (.astore 4, 2) := by decide +kernel
theorem d_LW_record_19 : decode k_LW_record 19 = .ok (.iconst 2, 1) := by decide +kernel
theorem d_LW_record_20 : decode k_LW_record 20 = .ok (.ireturn, 1) := by decide +kernel
theorem d_LW_record_21 : decode k_LW_record 21 = .ok (.iconst 0, 1) := by decide +kernel
theorem d_LW_record_22 : decode k_LW_record 22 = .ok (.ireturn, 1) := by decide +kernel
theorem d_LW_value_0 : decode k_LW_value 0 = .ok (.aload 5, 2) := by decide +kernel
theorem d_LW_value_2 : decode k_LW_value 2 = .ok (.iconst 0, 1) := by decide +kernel
theorem d_LW_value_3 : decode k_LW_value 3 = .ok (.aload_n 0, 1) := by decide +kernel
theorem d_LW_value_4 : decode k_LW_value 4 = .ok (.iload_n 1, 1) := by decide +kernel
theorem d_LW_value_5 : decode k_LW_value 5 = .ok (.iload_n 2, 1) := by decide +kernel
theorem d_LW_value_6 : decode k_LW_value 6 = .ok (.lload_n 3, 1) := by decide +kernel
theorem d_LW_value_7 : decode k_LW_value 7 = .ok (.invokevirtual 35, 3) := by decide +kernel
theorem d_LW_value_10 : decode k_LW_value 10 = .ok (.lastore, 1) := by decide +kernel
theorem d_LW_value_11 : decode k_LW_value 11 = .ok (.goto 7, 3) := by decide +kernel
theorem d_LW_value_14 : decode k_LW_value 14 = .ok (.astore 6, 2) := by decide +kernel
theorem d_LW_value_16 : decode k_LW_value 16 = .ok (.iconst 1, 1) := by decide +kernel
theorem d_LW_value_17 : decode k_LW_value 17 = .ok (.ireturn, 1) := by decide +kernel
theorem d_LW_value_18 : decode k_LW_value 18 = .ok (.iconst 0, 1) := by decide +kernel
theorem d_LW_value_19 : decode k_LW_value 19 = .ok (.ireturn, 1) := by decide +kernel
theorem d_LW_embargo_0 : decode k_LW_embargo 0 = .ok (.aload_n 3, 1) := by decide +kernel
theorem d_LW_embargo_1 : decode k_LW_embargo 1 = .ok (.iconst 0, 1) := by decide +kernel
theorem d_LW_embargo_2 : decode k_LW_embargo 2 = .ok (.aload_n 0, 1) := by decide +kernel
theorem d_LW_embargo_3 : decode k_LW_embargo 3 = .ok (.iload_n 1, 1) := by decide +kernel
theorem d_LW_embargo_4 : decode k_LW_embargo 4 = .ok (.iload_n 2, 1) := by decide +kernel
theorem d_LW_embargo_5 : decode k_LW_embargo 5 = .ok (.invokevirtual 39, 3) := by decide +kernel
theorem d_LW_embargo_8 : decode k_LW_embargo 8 = .ok (.i2l, 1) := by decide +kernel
theorem d_LW_embargo_9 : decode k_LW_embargo 9 = .ok (.lastore, 1) := by decide +kernel
theorem d_LW_embargo_10 : decode k_LW_embargo 10 = .ok (.goto 11, 3) := by decide +kernel
theorem d_LW_embargo_13 : decode k_LW_embargo 13 = .ok (.astore 4, 2) := by decide +kernel
theorem d_LW_embargo_15 : decode k_LW_embargo 15 = .ok (.iconst 1, 1) := by decide +kernel
theorem d_LW_embargo_16 : decode k_LW_embargo 16 = .ok (.ireturn, 1) := by decide +kernel
theorem d_LW_embargo_17 : decode k_LW_embargo 17 = .ok (.astore 4, 2) := by decide +kernel
theorem d_LW_embargo_19 : decode k_LW_embargo 19 = .ok (.iconst 2, 1) := by decide +kernel
theorem d_LW_embargo_20 : decode k_LW_embargo 20 = .ok (.ireturn, 1) := by decide +kernel
theorem d_LW_embargo_21 : decode k_LW_embargo 21 = .ok (.iconst 0, 1) := by decide +kernel
theorem d_LW_embargo_22 : decode k_LW_embargo 22 = .ok (.ireturn, 1) := by decide +kernel
theorem d_LW_agreement_0 : decode k_LW_agreement 0 = .ok (.aload 5, 2) := by decide +kernel
theorem d_LW_agreement_2 : decode k_LW_agreement 2 = .ok (.iconst 0, 1) := by decide +kernel
theorem d_LW_agreement_3 : decode k_LW_agreement 3 = .ok (.aload_n 0, 1) := by decide +kernel
theorem d_LW_agreement_4 : decode k_LW_agreement 4 = .ok (.iload_n 1, 1) := by decide +kernel
theorem d_LW_agreement_5 : decode k_LW_agreement 5 = .ok (.iload_n 2, 1) := by decide +kernel
theorem d_LW_agreement_6 : decode k_LW_agreement 6 = .ok (.iload_n 3, 1) := by decide +kernel
theorem d_LW_agreement_7 : decode k_LW_agreement 7 = .ok (.iload 4, 2) := by decide +kernel
theorem d_LW_agreement_9 : decode k_LW_agreement 9 = .ok (.invokevirtual 42, 3) := by decide +kernel
theorem d_LW_agreement_12 : decode k_LW_agreement 12 = .ok (.i2l, 1) := by decide +kernel
theorem d_LW_agreement_13 : decode k_LW_agreement 13 = .ok (.lastore, 1) := by decide +kernel
theorem d_LW_agreement_14 : decode k_LW_agreement 14 = .ok (.goto 15, 3) := by decide +kernel
theorem d_LW_agreement_17 : decode k_LW_agreement 17 = .ok (.astore 6, 2) := by decide +kernel
theorem d_LW_agreement_19 : decode k_LW_agreement 19 = .ok (.iconst 1, 1) := by decide +kernel
theorem d_LW_agreement_20 : decode k_LW_agreement 20 = .ok (.ireturn, 1) := by decide +kernel
theorem d_LW_agreement_21 : decode k_LW_agreement 21 = .ok (.astore 6, 2) := by decide +kernel
theorem d_LW_agreement_23 : decode k_LW_agreement 23 = .ok (.iconst 2, 1) := by decide +kernel
theorem d_LW_agreement_24 : decode k_LW_agreement 24 = .ok (.ireturn, 1) := by decide +kernel
theorem d_LW_agreement_25 : decode k_LW_agreement 25 = .ok (.astore 6, 2) := by decide +kernel
theorem d_LW_agreement_27 : decode k_LW_agreement 27 = .ok (.iconst 3, 1) := by decide +kernel
theorem d_LW_agreement_28 : decode k_LW_agreement 28 = .ok (.ireturn, 1) := by decide +kernel
theorem d_LW_agreement_29 : decode k_LW_agreement 29 = .ok (.iconst 0, 1) := by decide +kernel
theorem d_LW_agreement_30 : decode k_LW_agreement 30 = .ok (.ireturn, 1) := by decide +kernel
theorem d_LW_asks_0 : decode k_LW_asks 0 = .ok (.aload 6, 2) := by decide +kernel
theorem d_LW_asks_2 : decode k_LW_asks 2 = .ok (.iconst 0, 1) := by decide +kernel
theorem d_LW_asks_3 : decode k_LW_asks 3 = .ok (.aload_n 0, 1) := by decide +kernel
theorem d_LW_asks_4 : decode k_LW_asks 4 = .ok (.iload_n 1, 1) := by decide +kernel
theorem d_LW_asks_5 : decode k_LW_asks 5 = .ok (.iload_n 2, 1) := by decide +kernel
theorem d_LW_asks_6 : decode k_LW_asks 6 = .ok (.iload_n 3, 1) := by decide +kernel
theorem d_LW_asks_7 : decode k_LW_asks 7 = .ok (.iload 4, 2) := by decide +kernel
theorem d_LW_asks_9 : decode k_LW_asks 9 = .ok (.iload 5, 2) := by decide +kernel
theorem d_LW_asks_11 : decode k_LW_asks 11 = .ok (.invokevirtual 45, 3) := by decide +kernel
theorem d_LW_asks_14 : decode k_LW_asks 14 = .ok (.i2l, 1) := by decide +kernel
theorem d_LW_asks_15 : decode k_LW_asks 15 = .ok (.lastore, 1) := by decide +kernel
theorem d_LW_asks_16 : decode k_LW_asks 16 = .ok (.goto 11, 3) := by decide +kernel
theorem d_LW_asks_19 : decode k_LW_asks 19 = .ok (.astore 7, 2) := by decide +kernel
theorem d_LW_asks_21 : decode k_LW_asks 21 = .ok (.iconst 1, 1) := by decide +kernel
theorem d_LW_asks_22 : decode k_LW_asks 22 = .ok (.ireturn, 1) := by decide +kernel
theorem d_LW_asks_23 : decode k_LW_asks 23 = .ok (.astore 7, 2) := by decide +kernel
theorem d_LW_asks_25 : decode k_LW_asks 25 = .ok (.iconst 2, 1) := by decide +kernel
theorem d_LW_asks_26 : decode k_LW_asks 26 = .ok (.ireturn, 1) := by decide +kernel
theorem d_LW_asks_27 : decode k_LW_asks 27 = .ok (.iconst 0, 1) := by decide +kernel
theorem d_LW_asks_28 : decode k_LW_asks 28 = .ok (.ireturn, 1) := by decide +kernel
theorem d_LW_masked_0 : decode k_LW_masked 0 = .ok (.aload_n 3, 1) := by decide +kernel
theorem d_LW_masked_1 : decode k_LW_masked 1 = .ok (.iconst 0, 1) := by decide +kernel
theorem d_LW_masked_2 : decode k_LW_masked 2 = .ok (.aload_n 0, 1) := by decide +kernel
theorem d_LW_masked_3 : decode k_LW_masked 3 = .ok (.iload_n 1, 1) := by decide +kernel
theorem d_LW_masked_4 : decode k_LW_masked 4 = .ok (.iload_n 2, 1) := by decide +kernel
theorem d_LW_masked_5 : decode k_LW_masked 5 = .ok (.invokevirtual 49, 3) := by decide +kernel
theorem d_LW_masked_8 : decode k_LW_masked 8 = .ok (.lastore, 1) := by decide +kernel
theorem d_LW_masked_9 : decode k_LW_masked 9 = .ok (.goto 7, 3) := by decide +kernel
theorem d_LW_masked_12 : decode k_LW_masked 12 = .ok (.astore 4, 2) := by decide +kernel
theorem d_LW_masked_14 : decode k_LW_masked 14 = .ok (.iconst 1, 1) := by decide +kernel
theorem d_LW_masked_15 : decode k_LW_masked 15 = .ok (.ireturn, 1) := by decide +kernel
theorem d_LW_masked_16 : decode k_LW_masked 16 = .ok (.iconst 0, 1) := by decide +kernel
theorem d_LW_masked_17 : decode k_LW_masked 17 = .ok (.ireturn, 1) := by decide +kernel
theorem d_LW_look_0 : decode k_LW_look 0 = .ok (.aload_n 3, 1) := by decide +kernel
theorem d_LW_look_1 : decode k_LW_look 1 = .ok (.iconst 0, 1) := by decide +kernel
theorem d_LW_look_2 : decode k_LW_look 2 = .ok (.aload_n 0, 1) := by decide +kernel
theorem d_LW_look_3 : decode k_LW_look 3 = .ok (.iload_n 1, 1) := by decide +kernel
theorem d_LW_look_4 : decode k_LW_look 4 = .ok (.iload_n 2, 1) := by decide +kernel
theorem d_LW_look_5 : decode k_LW_look 5 = .ok (.invokevirtual 53, 3) := by decide +kernel
theorem d_LW_look_8 : decode k_LW_look 8 = .ok (.i2l, 1) := by decide +kernel
theorem d_LW_look_9 : decode k_LW_look 9 = .ok (.lastore, 1) := by decide +kernel
theorem d_LW_look_10 : decode k_LW_look 10 = .ok (.goto 7, 3) := by decide +kernel
theorem d_LW_look_13 : decode k_LW_look 13 = .ok (.astore 4, 2) := by decide +kernel
theorem d_LW_look_15 : decode k_LW_look 15 = .ok (.iconst 1, 1) := by decide +kernel
theorem d_LW_look_16 : decode k_LW_look 16 = .ok (.ireturn, 1) := by decide +kernel
theorem d_LW_look_17 : decode k_LW_look 17 = .ok (.iconst 0, 1) := by decide +kernel
theorem d_LW_look_18 : decode k_LW_look 18 = .ok (.ireturn, 1) := by decide +kernel
theorem d_LW_looked_0 : decode k_LW_looked 0 = .ok (.aload_n 3, 1) := by decide +kernel
theorem d_LW_looked_1 : decode k_LW_looked 1 = .ok (.iconst 0, 1) := by decide +kernel
theorem d_LW_looked_2 : decode k_LW_looked 2 = .ok (.aload_n 0, 1) := by decide +kernel
theorem d_LW_looked_3 : decode k_LW_looked 3 = .ok (.iload_n 1, 1) := by decide +kernel
theorem d_LW_looked_4 : decode k_LW_looked 4 = .ok (.iload_n 2, 1) := by decide +kernel
theorem d_LW_looked_5 : decode k_LW_looked 5 = .ok (.invokevirtual 56, 3) := by decide +kernel
theorem d_LW_looked_8 : decode k_LW_looked 8 = .ok (.i2l, 1) := by decide +kernel
theorem d_LW_looked_9 : decode k_LW_looked 9 = .ok (.lastore, 1) := by decide +kernel
theorem d_LW_looked_10 : decode k_LW_looked 10 = .ok (.goto 7, 3) := by decide +kernel
theorem d_LW_looked_13 : decode k_LW_looked 13 = .ok (.astore 4, 2) := by decide +kernel
theorem d_LW_looked_15 : decode k_LW_looked 15 = .ok (.iconst 1, 1) := by decide +kernel
theorem d_LW_looked_16 : decode k_LW_looked 16 = .ok (.ireturn, 1) := by decide +kernel
theorem d_LW_looked_17 : decode k_LW_looked 17 = .ok (.iconst 0, 1) := by decide +kernel
theorem d_LW_looked_18 : decode k_LW_looked 18 = .ok (.ireturn, 1) := by decide +kernel
theorem d_LW_export_0 : decode k_LW_export 0 = .ok (.aload_n 3, 1) := by decide +kernel
theorem d_LW_export_1 : decode k_LW_export 1 = .ok (.iconst 0, 1) := by decide +kernel
theorem d_LW_export_2 : decode k_LW_export 2 = .ok (.aload_n 0, 1) := by decide +kernel
theorem d_LW_export_3 : decode k_LW_export 3 = .ok (.iload_n 1, 1) := by decide +kernel
theorem d_LW_export_4 : decode k_LW_export 4 = .ok (.iload_n 2, 1) := by decide +kernel
theorem d_LW_export_5 : decode k_LW_export 5 = .ok (.invokevirtual 59, 3) := by decide +kernel
theorem d_LW_export_8 : decode k_LW_export 8 = .ok (.i2l, 1) := by decide +kernel
theorem d_LW_export_9 : decode k_LW_export 9 = .ok (.lastore, 1) := by decide +kernel
theorem d_LW_export_10 : decode k_LW_export 10 = .ok (.goto 11, 3) := by decide +kernel
theorem d_LW_export_13 : decode k_LW_export 13 = .ok (.astore 4, 2) := by decide +kernel
theorem d_LW_export_15 : decode k_LW_export 15 = .ok (.iconst 1, 1) := by decide +kernel
theorem d_LW_export_16 : decode k_LW_export 16 = .ok (.ireturn, 1) := by decide +kernel
theorem d_LW_export_17 : decode k_LW_export 17 = .ok (.astore 4, 2) := by decide +kernel
theorem d_LW_export_19 : decode k_LW_export 19 = .ok (.iconst 2, 1) := by decide +kernel
theorem d_LW_export_20 : decode k_LW_export 20 = .ok (.ireturn, 1) := by decide +kernel
theorem d_LW_export_21 : decode k_LW_export 21 = .ok (.iconst 0, 1) := by decide +kernel
theorem d_LW_export_22 : decode k_LW_export 22 = .ok (.ireturn, 1) := by decide +kernel
theorem d_LW_exported_0 : decode k_LW_exported 0 = .ok (.aload_n 2, 1) := by decide +kernel
theorem d_LW_exported_1 : decode k_LW_exported 1 = .ok (.iconst 0, 1) := by decide +kernel
theorem d_LW_exported_2 : decode k_LW_exported 2 = .ok (.aload_n 0, 1) := by decide +kernel
theorem d_LW_exported_3 : decode k_LW_exported 3 = .ok (.iload_n 1, 1) := by decide +kernel
theorem d_LW_exported_4 : decode k_LW_exported 4 = .ok (.invokevirtual 62, 3) := by decide +kernel
theorem d_LW_exported_7 : decode k_LW_exported 7 = .ok (.i2l, 1) := by decide +kernel
theorem d_LW_exported_8 : decode k_LW_exported 8 = .ok (.lastore, 1) := by decide +kernel
theorem d_LW_exported_9 : decode k_LW_exported 9 = .ok (.goto 6, 3) := by decide +kernel
theorem d_LW_exported_12 : decode k_LW_exported 12 = .ok (.astore_n 3, 1) := by decide +kernel
theorem d_LW_exported_13 : decode k_LW_exported 13 = .ok (.iconst 1, 1) := by decide +kernel
theorem d_LW_exported_14 : decode k_LW_exported 14 = .ok (.ireturn, 1) := by decide +kernel
theorem d_LW_exported_15 : decode k_LW_exported 15 = .ok (.iconst 0, 1) := by decide +kernel
theorem d_LW_exported_16 : decode k_LW_exported 16 = .ok (.ireturn, 1) := by decide +kernel
theorem d_LW_request_0 : decode k_LW_request 0 = .ok (.aload 4, 2) := by decide +kernel
theorem d_LW_request_2 : decode k_LW_request 2 = .ok (.iconst 0, 1) := by decide +kernel
theorem d_LW_request_3 : decode k_LW_request 3 = .ok (.aload_n 0, 1) := by decide +kernel
theorem d_LW_request_4 : decode k_LW_request 4 = .ok (.iload_n 1, 1) := by decide +kernel
theorem d_LW_request_5 : decode k_LW_request 5 = .ok (.iload_n 2, 1) := by decide +kernel
theorem d_LW_request_6 : decode k_LW_request 6 = .ok (.iload_n 3, 1) := by decide +kernel
theorem d_LW_request_7 : decode k_LW_request 7 = .ok (.invokevirtual 65, 3) := by decide +kernel
theorem d_LW_request_10 : decode k_LW_request 10 = .ok (.i2l, 1) := by decide +kernel
theorem d_LW_request_11 : decode k_LW_request 11 = .ok (.lastore, 1) := by decide +kernel
theorem d_LW_request_12 : decode k_LW_request 12 = .ok (.goto 15, 3) := by decide +kernel
theorem d_LW_request_15 : decode k_LW_request 15 = .ok (.astore 5, 2) := by decide +kernel
theorem d_LW_request_17 : decode k_LW_request 17 = .ok (.iconst 1, 1) := by decide +kernel
theorem d_LW_request_18 : decode k_LW_request 18 = .ok (.ireturn, 1) := by decide +kernel
theorem d_LW_request_19 : decode k_LW_request 19 = .ok (.astore 5, 2) := by decide +kernel
theorem d_LW_request_21 : decode k_LW_request 21 = .ok (.iconst 2, 1) := by decide +kernel
theorem d_LW_request_22 : decode k_LW_request 22 = .ok (.ireturn, 1) := by decide +kernel
theorem d_LW_request_23 : decode k_LW_request 23 = .ok (.astore 5, 2) := by decide +kernel
theorem d_LW_request_25 : decode k_LW_request 25 = .ok (.iconst 3, 1) := by decide +kernel
theorem d_LW_request_26 : decode k_LW_request 26 = .ok (.ireturn, 1) := by decide +kernel
theorem d_LW_request_27 : decode k_LW_request 27 = .ok (.iconst 0, 1) := by decide +kernel
theorem d_LW_request_28 : decode k_LW_request 28 = .ok (.ireturn, 1) := by decide +kernel
theorem d_LW_limit_0 : decode k_LW_limit 0 = .ok (.aload_n 3, 1) := by decide +kernel
theorem d_LW_limit_1 : decode k_LW_limit 1 = .ok (.iconst 0, 1) := by decide +kernel
theorem d_LW_limit_2 : decode k_LW_limit 2 = .ok (.aload_n 0, 1) := by decide +kernel
theorem d_LW_limit_3 : decode k_LW_limit 3 = .ok (.iload_n 1, 1) := by decide +kernel
theorem d_LW_limit_4 : decode k_LW_limit 4 = .ok (.iload_n 2, 1) := by decide +kernel
theorem d_LW_limit_5 : decode k_LW_limit 5 = .ok (.invokevirtual 69, 3) := by decide +kernel
theorem d_LW_limit_8 : decode k_LW_limit 8 = .ok (.i2l, 1) := by decide +kernel
theorem d_LW_limit_9 : decode k_LW_limit 9 = .ok (.lastore, 1) := by decide +kernel
theorem d_LW_limit_10 : decode k_LW_limit 10 = .ok (.goto 11, 3) := by decide +kernel
theorem d_LW_limit_13 : decode k_LW_limit 13 = .ok (.astore 4, 2) := by decide +kernel
theorem d_LW_limit_15 : decode k_LW_limit 15 = .ok (.iconst 1, 1) := by decide +kernel
theorem d_LW_limit_16 : decode k_LW_limit 16 = .ok (.ireturn, 1) := by decide +kernel
theorem d_LW_limit_17 : decode k_LW_limit 17 = .ok (.astore 4, 2) := by decide +kernel
theorem d_LW_limit_19 : decode k_LW_limit 19 = .ok (.iconst 2, 1) := by decide +kernel
theorem d_LW_limit_20 : decode k_LW_limit 20 = .ok (.ireturn, 1) := by decide +kernel
theorem d_LW_limit_21 : decode k_LW_limit 21 = .ok (.iconst 0, 1) := by decide +kernel
theorem d_LW_limit_22 : decode k_LW_limit 22 = .ok (.ireturn, 1) := by decide +kernel
theorem d_LW_idle_0 : decode k_LW_idle 0 = .ok (.aload_n 2, 1) := by decide +kernel
theorem d_LW_idle_1 : decode k_LW_idle 1 = .ok (.iconst 0, 1) := by decide +kernel
theorem d_LW_idle_2 : decode k_LW_idle 2 = .ok (.aload_n 0, 1) := by decide +kernel
theorem d_LW_idle_3 : decode k_LW_idle 3 = .ok (.iload_n 1, 1) := by decide +kernel
theorem d_LW_idle_4 : decode k_LW_idle 4 = .ok (.invokevirtual 72, 3) := by decide +kernel
theorem d_LW_idle_7 : decode k_LW_idle 7 = .ok (.i2l, 1) := by decide +kernel
theorem d_LW_idle_8 : decode k_LW_idle 8 = .ok (.lastore, 1) := by decide +kernel
theorem d_LW_idle_9 : decode k_LW_idle 9 = .ok (.goto 6, 3) := by decide +kernel
theorem d_LW_idle_12 : decode k_LW_idle 12 = .ok (.astore_n 3, 1) := by decide +kernel
theorem d_LW_idle_13 : decode k_LW_idle 13 = .ok (.iconst 1, 1) := by decide +kernel
theorem d_LW_idle_14 : decode k_LW_idle 14 = .ok (.ireturn, 1) := by decide +kernel
theorem d_LW_idle_15 : decode k_LW_idle 15 = .ok (.iconst 0, 1) := by decide +kernel
theorem d_LW_idle_16 : decode k_LW_idle 16 = .ok (.ireturn, 1) := by decide +kernel
theorem d_LW_count_0 : decode k_LW_count 0 = .ok (.aload_n 2, 1) := by decide +kernel
theorem d_LW_count_1 : decode k_LW_count 1 = .ok (.iconst 0, 1) := by decide +kernel
theorem d_LW_count_2 : decode k_LW_count 2 = .ok (.aload_n 0, 1) := by decide +kernel
theorem d_LW_count_3 : decode k_LW_count 3 = .ok (.iload_n 1, 1) := by decide +kernel
theorem d_LW_count_4 : decode k_LW_count 4 = .ok (.invokevirtual 75, 3) := by decide +kernel
theorem d_LW_count_7 : decode k_LW_count 7 = .ok (.i2l, 1) := by decide +kernel
theorem d_LW_count_8 : decode k_LW_count 8 = .ok (.lastore, 1) := by decide +kernel
theorem d_LW_count_9 : decode k_LW_count 9 = .ok (.goto 6, 3) := by decide +kernel
theorem d_LW_count_12 : decode k_LW_count 12 = .ok (.astore_n 3, 1) := by decide +kernel
theorem d_LW_count_13 : decode k_LW_count 13 = .ok (.iconst 1, 1) := by decide +kernel
theorem d_LW_count_14 : decode k_LW_count 14 = .ok (.ireturn, 1) := by decide +kernel
theorem d_LW_count_15 : decode k_LW_count 15 = .ok (.iconst 0, 1) := by decide +kernel
theorem d_LW_count_16 : decode k_LW_count 16 = .ok (.ireturn, 1) := by decide +kernel
