theorem dL_load_0 : decode cL_load 0 = .ok (.aload_n 2, 1) := by decide +kernel
theorem dL_load_1 : decode cL_load 1 = .ok (.iconst 0, 1) := by decide +kernel
theorem dL_load_2 : decode cL_load 2 = .ok (.aload_n 0, 1) := by decide +kernel
theorem dL_load_3 : decode cL_load 3 = .ok (.iload_n 1, 1) := by decide +kernel
theorem dL_load_4 : decode cL_load 4 = .ok (.invokevirtual 7, 3) := by decide +kernel
theorem dL_load_7 : decode cL_load 7 = .ok (.i2l, 1) := by decide +kernel
theorem dL_load_8 : decode cL_load 8 = .ok (.lastore, 1) := by decide +kernel
theorem dL_load_9 : decode cL_load 9 = .ok (.goto 9, 3) := by decide +kernel
theorem dL_load_12 : decode cL_load 12 = .ok (.astore_n 3, 1) := by decide +kernel
theorem dL_load_13 : decode cL_load 13 = .ok (.iconst 1, 1) := by decide +kernel
theorem dL_load_14 : decode cL_load 14 = .ok (.ireturn, 1) := by decide +kernel
theorem dL_load_15 : decode cL_load 15 = .ok (.astore_n 3, 1) := by decide +kernel
theorem dL_load_16 : decode cL_load 16 = .ok (.iconst 2, 1) := by decide +kernel
theorem dL_load_17 : decode cL_load 17 = .ok (.ireturn, 1) := by decide +kernel
theorem dL_load_18 : decode cL_load 18 = .ok (.iconst 0, 1) := by decide +kernel
theorem dL_load_19 : decode cL_load 19 = .ok (.ireturn, 1) := by decide +kernel
theorem dL_setting_0 : decode cL_setting 0 = .ok (.aload_n 2, 1) := by decide +kernel
theorem dL_setting_1 : decode cL_setting 1 = .ok (.iconst 0, 1) := by decide +kernel
theorem dL_setting_2 : decode cL_setting 2 = .ok (.aload_n 0, 1) := by decide +kernel
theorem dL_setting_3 : decode cL_setting 3 = .ok (.iload_n 1, 1) := by decide +kernel
theorem dL_setting_4 : decode cL_setting 4 = .ok (.invokevirtual 17, 3) := by decide +kernel
theorem dL_setting_7 : decode cL_setting 7 = .ok (.i2l, 1) := by decide +kernel
theorem dL_setting_8 : decode cL_setting 8 = .ok (.lastore, 1) := by decide +kernel
theorem dL_setting_9 : decode cL_setting 9 = .ok (.goto 9, 3) := by decide +kernel
theorem dL_setting_12 : decode cL_setting 12 = .ok (.astore_n 3, 1) := by decide +kernel
theorem dL_setting_13 : decode cL_setting 13 = .ok (.iconst 1, 1) := by decide +kernel
theorem dL_setting_14 : decode cL_setting 14 = .ok (.ireturn, 1) := by decide +kernel
theorem dL_setting_15 : decode cL_setting 15 = .ok (.astore_n 3, 1) := by decide +kernel
theorem dL_setting_16 : decode cL_setting 16 = .ok (.iconst 2, 1) := by decide +kernel
theorem dL_setting_17 : decode cL_setting 17 = .ok (.ireturn, 1) := by decide +kernel
theorem dL_setting_18 : decode cL_setting 18 = .ok (.iconst 0, 1) := by decide +kernel
theorem dL_setting_19 : decode cL_setting 19 = .ok (.ireturn, 1) := by decide +kernel
theorem dL_stored_0 : decode cL_stored 0 = .ok (.aload_n 2, 1) := by decide +kernel
theorem dL_stored_1 : decode cL_stored 1 = .ok (.iconst 0, 1) := by decide +kernel
theorem dL_stored_2 : decode cL_stored 2 = .ok (.aload_n 0, 1) := by decide +kernel
theorem dL_stored_3 : decode cL_stored 3 = .ok (.iload_n 1, 1) := by decide +kernel
theorem dL_stored_4 : decode cL_stored 4 = .ok (.invokevirtual 22, 3) := by decide +kernel
theorem dL_stored_7 : decode cL_stored 7 = .ok (.i2l, 1) := by decide +kernel
theorem dL_stored_8 : decode cL_stored 8 = .ok (.lastore, 1) := by decide +kernel
theorem dL_stored_9 : decode cL_stored 9 = .ok (.goto 9, 3) := by decide +kernel
theorem dL_stored_12 : decode cL_stored 12 = .ok (.astore_n 3, 1) := by decide +kernel
theorem dL_stored_13 : decode cL_stored 13 = .ok (.iconst 1, 1) := by decide +kernel
theorem dL_stored_14 : decode cL_stored 14 = .ok (.ireturn, 1) := by decide +kernel
theorem dL_stored_15 : decode cL_stored 15 = .ok (.astore_n 3, 1) := by decide +kernel
theorem dL_stored_16 : decode cL_stored 16 = .ok (.iconst 2, 1) := by decide +kernel
theorem dL_stored_17 : decode cL_stored 17 = .ok (.ireturn, 1) := by decide +kernel
theorem dL_stored_18 : decode cL_stored 18 = .ok (.iconst 0, 1) := by decide +kernel
theorem dL_stored_19 : decode cL_stored 19 = .ok (.ireturn, 1) := by decide +kernel
theorem dL_value_0 : decode cL_value 0 = .ok (.aload_n 2, 1) := by decide +kernel
theorem dL_value_1 : decode cL_value 1 = .ok (.iconst 0, 1) := by decide +kernel
theorem dL_value_2 : decode cL_value 2 = .ok (.aload_n 0, 1) := by decide +kernel
theorem dL_value_3 : decode cL_value 3 = .ok (.iload_n 1, 1) := by decide +kernel
theorem dL_value_4 : decode cL_value 4 = .ok (.invokevirtual 25, 3) := by decide +kernel
theorem dL_value_7 : decode cL_value 7 = .ok (.i2l, 1) := by decide +kernel
theorem dL_value_8 : decode cL_value 8 = .ok (.lastore, 1) := by decide +kernel
theorem dL_value_9 : decode cL_value 9 = .ok (.goto 9, 3) := by decide +kernel
theorem dL_value_12 : decode cL_value 12 = .ok (.astore_n 3, 1) := by decide +kernel
theorem dL_value_13 : decode cL_value 13 = .ok (.iconst 1, 1) := by decide +kernel
theorem dL_value_14 : decode cL_value 14 = .ok (.ireturn, 1) := by decide +kernel
theorem dL_value_15 : decode cL_value 15 = .ok (.astore_n 3, 1) := by decide +kernel
theorem dL_value_16 : decode cL_value 16 = .ok (.iconst 2, 1) := by decide +kernel
theorem dL_value_17 : decode cL_value 17 = .ok (.ireturn, 1) := by decide +kernel
theorem dL_value_18 : decode cL_value 18 = .ok (.iconst 0, 1) := by decide +kernel
theorem dL_value_19 : decode cL_value 19 = .ok (.ireturn, 1) := by decide +kernel
theorem dL_source_0 : decode cL_source 0 = .ok (.aload_n 2, 1) := by decide +kernel
theorem dL_source_1 : decode cL_source 1 = .ok (.iconst 0, 1) := by decide +kernel
theorem dL_source_2 : decode cL_source 2 = .ok (.aload_n 0, 1) := by decide +kernel
theorem dL_source_3 : decode cL_source 3 = .ok (.iload_n 1, 1) := by decide +kernel
theorem dL_source_4 : decode cL_source 4 = .ok (.invokevirtual 28, 3) := by decide +kernel
theorem dL_source_7 : decode cL_source 7 = .ok (.i2l, 1) := by decide +kernel
theorem dL_source_8 : decode cL_source 8 = .ok (.lastore, 1) := by decide +kernel
theorem dL_source_9 : decode cL_source 9 = .ok (.goto 9, 3) := by decide +kernel
theorem dL_source_12 : decode cL_source 12 = .ok (.astore_n 3, 1) := by decide +kernel
theorem dL_source_13 : decode cL_source 13 = .ok (.iconst 1, 1) := by decide +kernel
theorem dL_source_14 : decode cL_source 14 = .ok (.ireturn, 1) := by decide +kernel
theorem dL_source_15 : decode cL_source 15 = .ok (.astore_n 3, 1) := by decide +kernel
theorem dL_source_16 : decode cL_source 16 = .ok (.iconst 2, 1) := by decide +kernel
theorem dL_source_17 : decode cL_source 17 = .ok (.ireturn, 1) := by decide +kernel
theorem dL_source_18 : decode cL_source 18 = .ok (.iconst 0, 1) := by decide +kernel
theorem dL_source_19 : decode cL_source 19 = .ok (.ireturn, 1) := by decide +kernel
theorem dL_promise_0 : decode cL_promise 0 = .ok (.aload_n 2, 1) := by decide +kernel
theorem dL_promise_1 : decode cL_promise 1 = .ok (.iconst 0, 1) := by decide +kernel
theorem dL_promise_2 : decode cL_promise 2 = .ok (.aload_n 0, 1) := by decide +kernel
theorem dL_promise_3 : decode cL_promise 3 = .ok (.iload_n 1, 1) := by decide +kernel
theorem dL_promise_4 : decode cL_promise 4 = .ok (.invokevirtual 31, 3) := by decide +kernel
theorem dL_promise_7 : decode cL_promise 7 = .ok (.i2l, 1) := by decide +kernel
theorem dL_promise_8 : decode cL_promise 8 = .ok (.lastore, 1) := by decide +kernel
theorem dL_promise_9 : decode cL_promise 9 = .ok (.goto 9, 3) := by decide +kernel
theorem dL_promise_12 : decode cL_promise 12 = .ok (.astore_n 3, 1) := by decide +kernel
theorem dL_promise_13 : decode cL_promise 13 = .ok (.iconst 1, 1) := by decide +kernel
theorem dL_promise_14 : decode cL_promise 14 = .ok (.ireturn, 1) := by decide +kernel
theorem dL_promise_15 : decode cL_promise 15 = .ok (.astore_n 3, 1) := by decide +kernel
theorem dL_promise_16 : decode cL_promise 16 = .ok (.iconst 2, 1) := by decide +kernel
theorem dL_promise_17 : decode cL_promise 17 = .ok (.ireturn, 1) := by decide +kernel
theorem dL_promise_18 : decode cL_promise 18 = .ok (.iconst 0, 1) := by decide +kernel
theorem dL_promise_19 : decode cL_promise 19 = .ok (.ireturn, 1) := by decide +kernel
theorem dL_hops_0 : decode cL_hops 0 = .ok (.aload_n 2, 1) := by decide +kernel
theorem dL_hops_1 : decode cL_hops 1 = .ok (.iconst 0, 1) := by decide +kernel
theorem dL_hops_2 : decode cL_hops 2 = .ok (.aload_n 0, 1) := by decide +kernel
theorem dL_hops_3 : decode cL_hops 3 = .ok (.iload_n 1, 1) := by decide +kernel
theorem dL_hops_4 : decode cL_hops 4 = .ok (.invokevirtual 34, 3) := by decide +kernel
theorem dL_hops_7 : decode cL_hops 7 = .ok (.i2l, 1) := by decide +kernel
theorem dL_hops_8 : decode cL_hops 8 = .ok (.lastore, 1) := by decide +kernel
theorem dL_hops_9 : decode cL_hops 9 = .ok (.goto 9, 3) := by decide +kernel
theorem dL_hops_12 : decode cL_hops 12 = .ok (.astore_n 3, 1) := by decide +kernel
theorem dL_hops_13 : decode cL_hops 13 = .ok (.iconst 1, 1) := by decide +kernel
theorem dL_hops_14 : decode cL_hops 14 = .ok (.ireturn, 1) := by decide +kernel
theorem dL_hops_15 : decode cL_hops 15 = .ok (.astore_n 3, 1) := by decide +kernel
theorem dL_hops_16 : decode cL_hops 16 = .ok (.iconst 2, 1) := by decide +kernel
theorem dL_hops_17 : decode cL_hops 17 = .ok (.ireturn, 1) := by decide +kernel
theorem dL_hops_18 : decode cL_hops 18 = .ok (.iconst 0, 1) := by decide +kernel
theorem dL_hops_19 : decode cL_hops 19 = .ok (.ireturn, 1) := by decide +kernel
theorem dL_root_0 : decode cL_root 0 = .ok (.aload_n 2, 1) := by decide +kernel
theorem dL_root_1 : decode cL_root 1 = .ok (.iconst 0, 1) := by decide +kernel
theorem dL_root_2 : decode cL_root 2 = .ok (.aload_n 0, 1) := by decide +kernel
theorem dL_root_3 : decode cL_root 3 = .ok (.iload_n 1, 1) := by decide +kernel
theorem dL_root_4 : decode cL_root 4 = .ok (.invokevirtual 37, 3) := by decide +kernel
theorem dL_root_7 : decode cL_root 7 = .ok (.i2l, 1) := by decide +kernel
theorem dL_root_8 : decode cL_root 8 = .ok (.lastore, 1) := by decide +kernel
theorem dL_root_9 : decode cL_root 9 = .ok (.goto 9, 3) := by decide +kernel
theorem dL_root_12 : decode cL_root 12 = .ok (.astore_n 3, 1) := by decide +kernel
theorem dL_root_13 : decode cL_root 13 = .ok (.iconst 1, 1) := by decide +kernel
theorem dL_root_14 : decode cL_root 14 = .ok (.ireturn, 1) := by decide +kernel
theorem dL_root_15 : decode cL_root 15 = .ok (.astore_n 3, 1) := by decide +kernel
theorem dL_root_16 : decode cL_root 16 = .ok (.iconst 2, 1) := by decide +kernel
theorem dL_root_17 : decode cL_root 17 = .ok (.ireturn, 1) := by decide +kernel
theorem dL_root_18 : decode cL_root 18 = .ok (.iconst 0, 1) := by decide +kernel
theorem dL_root_19 : decode cL_root 19 = .ok (.ireturn, 1) := by decide +kernel
theorem dL_isLocked_0 : decode cL_isLocked 0 = .ok (.aload_n 2, 1) := by decide +kernel
theorem dL_isLocked_1 : decode cL_isLocked 1 = .ok (.iconst 0, 1) := by decide +kernel
theorem dL_isLocked_2 : decode cL_isLocked 2 = .ok (.aload_n 0, 1) := by decide +kernel
theorem dL_isLocked_3 : decode cL_isLocked 3 = .ok (.iload_n 1, 1) := by decide +kernel
theorem dL_isLocked_4 : decode cL_isLocked 4 = .ok (.invokevirtual 40, 3) := by decide +kernel
theorem dL_isLocked_7 : decode cL_isLocked 7 = .ok (.ifCond .eq 7, 3) := by decide +kernel
theorem dL_isLocked_10 : decode cL_isLocked 10 = .ok (.lconst 1, 1) := by decide +kernel
theorem dL_isLocked_11 : decode cL_isLocked 11 = .ok (.goto 4, 3) := by decide +kernel
theorem dL_isLocked_14 : decode cL_isLocked 14 = .ok (.lconst 0, 1) := by decide +kernel
theorem dL_isLocked_15 : decode cL_isLocked 15 = .ok (.lastore, 1) := by decide +kernel
theorem dL_isLocked_16 : decode cL_isLocked 16 = .ok (.goto 9, 3) := by decide +kernel
theorem dL_isLocked_19 : decode cL_isLocked 19 = .ok (.astore_n 3, 1) := by decide +kernel
theorem dL_isLocked_20 : decode cL_isLocked 20 = .ok (.iconst 1, 1) := by decide +kernel
theorem dL_isLocked_21 : decode cL_isLocked 21 = .ok (.ireturn, 1) := by decide +kernel
theorem dL_isLocked_22 : decode cL_isLocked 22 = .ok (.astore_n 3, 1) := by decide +kernel
theorem dL_isLocked_23 : decode cL_isLocked 23 = .ok (.iconst 2, 1) := by decide +kernel
theorem dL_isLocked_24 : decode cL_isLocked 24 = .ok (.ireturn, 1) := by decide +kernel
theorem dL_isLocked_25 : decode cL_isLocked 25 = .ok (.iconst 0, 1) := by decide +kernel
theorem dL_isLocked_26 : decode cL_isLocked 26 = .ok (.ireturn, 1) := by decide +kernel
theorem dL_dependents_0 : decode cL_dependents 0 = .ok (.aload_n 3, 1) := by decide +kernel
theorem dL_dependents_1 : decode cL_dependents 1 = .ok (.iconst 0, 1) := by decide +kernel
theorem dL_dependents_2 : decode cL_dependents 2 = .ok (.aload_n 0, 1) := by decide +kernel
theorem dL_dependents_3 : decode cL_dependents 3 = .ok (.iload_n 1, 1) := by decide +kernel
theorem dL_dependents_4 : decode cL_dependents 4 = .ok (.iload_n 2, 1) := by decide +kernel
theorem dL_dependents_5 : decode cL_dependents 5 = .ok (.invokevirtual 44, 3) := by decide +kernel
theorem dL_dependents_8 : decode cL_dependents 8 = .ok (.i2l, 1) := by decide +kernel
theorem dL_dependents_9 : decode cL_dependents 9 = .ok (.lastore, 1) := by decide +kernel
theorem dL_dependents_10 : decode cL_dependents 10 = .ok (.goto 11, 3) := by decide +kernel
theorem dL_dependents_13 : decode cL_dependents 13 = .ok (.astore 4, 2) := by decide +kernel
theorem dL_dependents_15 : decode cL_dependents 15 = .ok (.iconst 1, 1) := by decide +kernel
theorem dL_dependents_16 : decode cL_dependents 16 = .ok (.ireturn, 1) := by decide +kernel
theorem dL_dependents_17 : decode cL_dependents 17 = .ok (.astore 4, 2) := by decide +kernel
theorem dL_dependents_19 : decode cL_dependents 19 = .ok (.iconst 2, 1) := by decide +kernel
theorem dL_dependents_20 : decode cL_dependents 20 = .ok (.ireturn, 1) := by decide +kernel
theorem dL_dependents_21 : decode cL_dependents 21 = .ok (.iconst 0, 1) := by decide +kernel
theorem dL_dependents_22 : decode cL_dependents 22 = .ok (.ireturn, 1) := by decide +kernel
theorem dL_owed_0 : decode cL_owed 0 = .ok (.aload_n 1, 1) := by decide +kernel
theorem dL_owed_1 : decode cL_owed 1 = .ok (.iconst 0, 1) := by decide +kernel
theorem dL_owed_2 : decode cL_owed 2 = .ok (.aload_n 0, 1) := by decide +kernel
theorem dL_owed_3 : decode cL_owed 3 = .ok (.invokevirtual 48, 3) := by decide +kernel
theorem dL_owed_6 : decode cL_owed 6 = .ok (.i2l, 1) := by decide +kernel
theorem dL_owed_7 : decode cL_owed 7 = .ok (.lastore, 1) := by decide +kernel
theorem dL_owed_8 : decode cL_owed 8 = .ok (.goto 6, 3) := by decide +kernel
theorem dL_owed_11 : decode cL_owed 11 = .ok (.astore_n 2, 1) := by decide +kernel
theorem dL_owed_12 : decode cL_owed 12 = .ok (.iconst 1, 1) := by decide +kernel
theorem dL_owed_13 : decode cL_owed 13 = .ok (.ireturn, 1) := by decide +kernel
theorem dL_owed_14 : decode cL_owed 14 = .ok (.iconst 0, 1) := by decide +kernel
theorem dL_owed_15 : decode cL_owed 15 = .ok (.ireturn, 1) := by decide +kernel
theorem dL_owedIn_0 : decode cL_owedIn 0 = .ok (.aload_n 3, 1) := by decide +kernel
theorem dL_owedIn_1 : decode cL_owedIn 1 = .ok (.iconst 0, 1) := by decide +kernel
theorem dL_owedIn_2 : decode cL_owedIn 2 = .ok (.aload_n 0, 1) := by decide +kernel
theorem dL_owedIn_3 : decode cL_owedIn 3 = .ok (.iload_n 1, 1) := by decide +kernel
theorem dL_owedIn_4 : decode cL_owedIn 4 = .ok (.iload_n 2, 1) := by decide +kernel
theorem dL_owedIn_5 : decode cL_owedIn 5 = .ok (.invokevirtual 52, 3) := by decide +kernel
theorem dL_owedIn_8 : decode cL_owedIn 8 = .ok (.i2l, 1) := by decide +kernel
theorem dL_owedIn_9 : decode cL_owedIn 9 = .ok (.lastore, 1) := by decide +kernel
theorem dL_owedIn_10 : decode cL_owedIn 10 = .ok (.goto 15, 3) := by decide +kernel
theorem dL_owedIn_13 : decode cL_owedIn 13 = .ok (.astore 4, 2) := by decide +kernel
theorem dL_owedIn_15 : decode cL_owedIn 15 = .ok (.iconst 1, 1) := by decide +kernel
theorem dL_owedIn_16 : decode cL_owedIn 16 = .ok (.ireturn, 1) := by decide +kernel
theorem dL_owedIn_17 : decode cL_owedIn 17 = .ok (.astore 4, 2) := by decide +kernel
theorem dL_owedIn_19 : decode cL_owedIn 19 = .ok (.iconst 2, 1) := by decide +kernel
theorem dL_owedIn_20 : decode cL_owedIn 20 = .ok (.ireturn, 1) := by decide +kernel
theorem dL_owedIn_21 : decode cL_owedIn 21 = .ok (.astore 4, 2) := by decide +kernel
theorem dL_owedIn_23 : decode cL_owedIn 23 = .ok (.iconst 3, 1) := by decide +kernel
theorem dL_owedIn_24 : decode cL_owedIn 24 = .ok (.ireturn, 1) := by decide +kernel
theorem dL_owedIn_25 : decode cL_owedIn 25 = .ok (.iconst 0, 1) := by decide +kernel
theorem dL_owedIn_26 : decode cL_owedIn 26 = .ok (.ireturn, 1) := by decide +kernel
theorem dL_firstOwed_0 : decode cL_firstOwed 0 = .ok (.aload_n 2, 1) := by decide +kernel
theorem dL_firstOwed_1 : decode cL_firstOwed 1 = .ok (.iconst 0, 1) := by decide +kernel
theorem dL_firstOwed_2 : decode cL_firstOwed 2 = .ok (.aload_n 0, 1) := by decide +kernel
theorem dL_firstOwed_3 : decode cL_firstOwed 3 = .ok (.iload_n 1, 1) := by decide +kernel
theorem dL_firstOwed_4 : decode cL_firstOwed 4 = .ok (.invokevirtual 56, 3) := by decide +kernel
theorem dL_firstOwed_7 : decode cL_firstOwed 7 = .ok (.i2l, 1) := by decide +kernel
theorem dL_firstOwed_8 : decode cL_firstOwed 8 = .ok (.lastore, 1) := by decide +kernel
theorem dL_firstOwed_9 : decode cL_firstOwed 9 = .ok (.goto 9, 3) := by decide +kernel
theorem dL_firstOwed_12 : decode cL_firstOwed 12 = .ok (.astore_n 3, 1) := by decide +kernel
theorem dL_firstOwed_13 : decode cL_firstOwed 13 = .ok (.iconst 1, 1) := by decide +kernel
theorem dL_firstOwed_14 : decode cL_firstOwed 14 = .ok (.ireturn, 1) := by decide +kernel
theorem dL_firstOwed_15 : decode cL_firstOwed 15 = .ok (.astore_n 3, 1) := by decide +kernel
theorem dL_firstOwed_16 : decode cL_firstOwed 16 = .ok (.iconst 2, 1) := by decide +kernel
theorem dL_firstOwed_17 : decode cL_firstOwed 17 = .ok (.ireturn, 1) := by decide +kernel
theorem dL_firstOwed_18 : decode cL_firstOwed 18 = .ok (.iconst 0, 1) := by decide +kernel
theorem dL_firstOwed_19 : decode cL_firstOwed 19 = .ok (.ireturn, 1) := by decide +kernel
theorem dL_debts_0 : decode cL_debts 0 = .ok (.aload_n 1, 1) := by decide +kernel
theorem dL_debts_1 : decode cL_debts 1 = .ok (.iconst 0, 1) := by decide +kernel
theorem dL_debts_2 : decode cL_debts 2 = .ok (.aload_n 0, 1) := by decide +kernel
theorem dL_debts_3 : decode cL_debts 3 = .ok (.invokevirtual 59, 3) := by decide +kernel
theorem dL_debts_6 : decode cL_debts 6 = .ok (.i2l, 1) := by decide +kernel
theorem dL_debts_7 : decode cL_debts 7 = .ok (.lastore, 1) := by decide +kernel
theorem dL_debts_8 : decode cL_debts 8 = .ok (.goto 6, 3) := by decide +kernel
theorem dL_debts_11 : decode cL_debts 11 = .ok (.astore_n 2, 1) := by decide +kernel
theorem dL_debts_12 : decode cL_debts 12 = .ok (.iconst 1, 1) := by decide +kernel
theorem dL_debts_13 : decode cL_debts 13 = .ok (.ireturn, 1) := by decide +kernel
theorem dL_debts_14 : decode cL_debts 14 = .ok (.iconst 0, 1) := by decide +kernel
theorem dL_debts_15 : decode cL_debts 15 = .ok (.ireturn, 1) := by decide +kernel
theorem dL_debt_0 : decode cL_debt 0 = .ok (.aload_n 3, 1) := by decide +kernel
theorem dL_debt_1 : decode cL_debt 1 = .ok (.iconst 0, 1) := by decide +kernel
theorem dL_debt_2 : decode cL_debt 2 = .ok (.aload_n 0, 1) := by decide +kernel
theorem dL_debt_3 : decode cL_debt 3 = .ok (.iload_n 1, 1) := by decide +kernel
theorem dL_debt_4 : decode cL_debt 4 = .ok (.iload_n 2, 1) := by decide +kernel
theorem dL_debt_5 : decode cL_debt 5 = .ok (.invokevirtual 62, 3) := by decide +kernel
theorem dL_debt_8 : decode cL_debt 8 = .ok (.i2l, 1) := by decide +kernel
theorem dL_debt_9 : decode cL_debt 9 = .ok (.lastore, 1) := by decide +kernel
theorem dL_debt_10 : decode cL_debt 10 = .ok (.goto 15, 3) := by decide +kernel
theorem dL_debt_13 : decode cL_debt 13 = .ok (.astore 4, 2) := by decide +kernel
theorem dL_debt_15 : decode cL_debt 15 = .ok (.iconst 1, 1) := by decide +kernel
theorem dL_debt_16 : decode cL_debt 16 = .ok (.ireturn, 1) := by decide +kernel
theorem dL_debt_17 : decode cL_debt 17 = .ok (.astore 4, 2) := by decide +kernel
theorem dL_debt_19 : decode cL_debt 19 = .ok (.iconst 2, 1) := by decide +kernel
theorem dL_debt_20 : decode cL_debt 20 = .ok (.ireturn, 1) := by decide +kernel
theorem dL_debt_21 : decode cL_debt 21 = .ok (.astore 4, 2) := by decide +kernel
theorem dL_debt_23 : decode cL_debt 23 = .ok (.iconst 3, 1) := by decide +kernel
theorem dL_debt_24 : decode cL_debt 24 = .ok (.ireturn, 1) := by decide +kernel
theorem dL_debt_25 : decode cL_debt 25 = .ok (.iconst 0, 1) := by decide +kernel
theorem dL_debt_26 : decode cL_debt 26 = .ok (.ireturn, 1) := by decide +kernel
theorem dL_most_0 : decode cL_most 0 = .ok (.aload_n 1, 1) := by decide +kernel
theorem dL_most_1 : decode cL_most 1 = .ok (.iconst 0, 1) := by decide +kernel
theorem dL_most_2 : decode cL_most 2 = .ok (.aload_n 0, 1) := by decide +kernel
theorem dL_most_3 : decode cL_most 3 = .ok (.invokevirtual 65, 3) := by decide +kernel
theorem dL_most_6 : decode cL_most 6 = .ok (.i2l, 1) := by decide +kernel
theorem dL_most_7 : decode cL_most 7 = .ok (.lastore, 1) := by decide +kernel
theorem dL_most_8 : decode cL_most 8 = .ok (.goto 6, 3) := by decide +kernel
theorem dL_most_11 : decode cL_most 11 = .ok (.astore_n 2, 1) := by decide +kernel
theorem dL_most_12 : decode cL_most 12 = .ok (.iconst 1, 1) := by decide +kernel
theorem dL_most_13 : decode cL_most 13 = .ok (.ireturn, 1) := by decide +kernel
theorem dL_most_14 : decode cL_most 14 = .ok (.iconst 0, 1) := by decide +kernel
theorem dL_most_15 : decode cL_most 15 = .ok (.ireturn, 1) := by decide +kernel
theorem dL_deepest_0 : decode cL_deepest 0 = .ok (.aload_n 1, 1) := by decide +kernel
theorem dL_deepest_1 : decode cL_deepest 1 = .ok (.iconst 0, 1) := by decide +kernel
theorem dL_deepest_2 : decode cL_deepest 2 = .ok (.aload_n 0, 1) := by decide +kernel
theorem dL_deepest_3 : decode cL_deepest 3 = .ok (.invokevirtual 68, 3) := by decide +kernel
theorem dL_deepest_6 : decode cL_deepest 6 = .ok (.i2l, 1) := by decide +kernel
theorem dL_deepest_7 : decode cL_deepest 7 = .ok (.lastore, 1) := by decide +kernel
theorem dL_deepest_8 : decode cL_deepest 8 = .ok (.goto 6, 3) := by decide +kernel
theorem dL_deepest_11 : decode cL_deepest 11 = .ok (.astore_n 2, 1) := by decide +kernel
theorem dL_deepest_12 : decode cL_deepest 12 = .ok (.iconst 1, 1) := by decide +kernel
theorem dL_deepest_13 : decode cL_deepest 13 = .ok (.ireturn, 1) := by decide +kernel
theorem dL_deepest_14 : decode cL_deepest 14 = .ok (.iconst 0, 1) := by decide +kernel
theorem dL_deepest_15 : decode cL_deepest 15 = .ok (.ireturn, 1) := by decide +kernel
theorem dL_distance_0 : decode cL_distance 0 = .ok (.aload_n 3, 1) := by decide +kernel
theorem dL_distance_1 : decode cL_distance 1 = .ok (.iconst 0, 1) := by decide +kernel
theorem dL_distance_2 : decode cL_distance 2 = .ok (.aload_n 0, 1) := by decide +kernel
theorem dL_distance_3 : decode cL_distance 3 = .ok (.iload_n 1, 1) := by decide +kernel
theorem dL_distance_4 : decode cL_distance 4 = .ok (.iload_n 2, 1) := by decide +kernel
theorem dL_distance_5 : decode cL_distance 5 = .ok (.invokevirtual 71, 3) := by decide +kernel
theorem dL_distance_8 : decode cL_distance 8 = .ok (.i2l, 1) := by decide +kernel
theorem dL_distance_9 : decode cL_distance 9 = .ok (.lastore, 1) := by decide +kernel
theorem dL_distance_10 : decode cL_distance 10 = .ok (.goto 11, 3) := by decide +kernel
theorem dL_distance_13 : decode cL_distance 13 = .ok (.astore 4, 2) := by decide +kernel
theorem dL_distance_15 : decode cL_distance 15 = .ok (.iconst 1, 1) := by decide +kernel
theorem dL_distance_16 : decode cL_distance 16 = .ok (.ireturn, 1) := by decide +kernel
theorem dL_distance_17 : decode cL_distance 17 = .ok (.astore 4, 2) := by decide +kernel
theorem dL_distance_19 : decode cL_distance 19 = .ok (.iconst 2, 1) := by decide +kernel
theorem dL_distance_20 : decode cL_distance 20 = .ok (.ireturn, 1) := by decide +kernel
theorem dL_distance_21 : decode cL_distance 21 = .ok (.iconst 0, 1) := by decide +kernel
theorem dL_distance_22 : decode cL_distance 22 = .ok (.ireturn, 1) := by decide +kernel
theorem dL_oldest_0 : decode cL_oldest 0 = .ok (.aload_n 1, 1) := by decide +kernel
theorem dL_oldest_1 : decode cL_oldest 1 = .ok (.iconst 0, 1) := by decide +kernel
theorem dL_oldest_2 : decode cL_oldest 2 = .ok (.aload_n 0, 1) := by decide +kernel
theorem dL_oldest_3 : decode cL_oldest 3 = .ok (.invokevirtual 74, 3) := by decide +kernel
theorem dL_oldest_6 : decode cL_oldest 6 = .ok (.i2l, 1) := by decide +kernel
theorem dL_oldest_7 : decode cL_oldest 7 = .ok (.lastore, 1) := by decide +kernel
theorem dL_oldest_8 : decode cL_oldest 8 = .ok (.goto 6, 3) := by decide +kernel
theorem dL_oldest_11 : decode cL_oldest 11 = .ok (.astore_n 2, 1) := by decide +kernel
theorem dL_oldest_12 : decode cL_oldest 12 = .ok (.iconst 1, 1) := by decide +kernel
theorem dL_oldest_13 : decode cL_oldest 13 = .ok (.ireturn, 1) := by decide +kernel
theorem dL_oldest_14 : decode cL_oldest 14 = .ok (.iconst 0, 1) := by decide +kernel
theorem dL_oldest_15 : decode cL_oldest 15 = .ok (.ireturn, 1) := by decide +kernel
theorem dL_creditors_0 : decode cL_creditors 0 = .ok (.aload_n 1, 1) := by decide +kernel
theorem dL_creditors_1 : decode cL_creditors 1 = .ok (.iconst 0, 1) := by decide +kernel
theorem dL_creditors_2 : decode cL_creditors 2 = .ok (.aload_n 0, 1) := by decide +kernel
theorem dL_creditors_3 : decode cL_creditors 3 = .ok (.invokevirtual 77, 3) := by decide +kernel
theorem dL_creditors_6 : decode cL_creditors 6 = .ok (.i2l, 1) := by decide +kernel
theorem dL_creditors_7 : decode cL_creditors 7 = .ok (.lastore, 1) := by decide +kernel
theorem dL_creditors_8 : decode cL_creditors 8 = .ok (.goto 6, 3) := by decide +kernel
theorem dL_creditors_11 : decode cL_creditors 11 = .ok (.astore_n 2, 1) := by decide +kernel
theorem dL_creditors_12 : decode cL_creditors 12 = .ok (.iconst 1, 1) := by decide +kernel
theorem dL_creditors_13 : decode cL_creditors 13 = .ok (.ireturn, 1) := by decide +kernel
theorem dL_creditors_14 : decode cL_creditors 14 = .ok (.iconst 0, 1) := by decide +kernel
theorem dL_creditors_15 : decode cL_creditors 15 = .ok (.ireturn, 1) := by decide +kernel
theorem dL_next_0 : decode cL_next 0 = .ok (.aload_n 1, 1) := by decide +kernel
theorem dL_next_1 : decode cL_next 1 = .ok (.iconst 0, 1) := by decide +kernel
theorem dL_next_2 : decode cL_next 2 = .ok (.aload_n 0, 1) := by decide +kernel
theorem dL_next_3 : decode cL_next 3 = .ok (.invokevirtual 80, 3) := by decide +kernel
theorem dL_next_6 : decode cL_next 6 = .ok (.i2l, 1) := by decide +kernel
theorem dL_next_7 : decode cL_next 7 = .ok (.lastore, 1) := by decide +kernel
theorem dL_next_8 : decode cL_next 8 = .ok (.goto 6, 3) := by decide +kernel
theorem dL_next_11 : decode cL_next 11 = .ok (.astore_n 2, 1) := by decide +kernel
theorem dL_next_12 : decode cL_next 12 = .ok (.iconst 1, 1) := by decide +kernel
theorem dL_next_13 : decode cL_next 13 = .ok (.ireturn, 1) := by decide +kernel
theorem dL_next_14 : decode cL_next 14 = .ok (.iconst 0, 1) := by decide +kernel
theorem dL_next_15 : decode cL_next 15 = .ok (.ireturn, 1) := by decide +kernel
theorem dL_stale_0 : decode cL_stale 0 = .ok (.aload_n 1, 1) := by decide +kernel
theorem dL_stale_1 : decode cL_stale 1 = .ok (.iconst 0, 1) := by decide +kernel
theorem dL_stale_2 : decode cL_stale 2 = .ok (.aload_n 0, 1) := by decide +kernel
theorem dL_stale_3 : decode cL_stale 3 = .ok (.invokevirtual 83, 3) := by decide +kernel
theorem dL_stale_6 : decode cL_stale 6 = .ok (.i2l, 1) := by decide +kernel
theorem dL_stale_7 : decode cL_stale 7 = .ok (.lastore, 1) := by decide +kernel
theorem dL_stale_8 : decode cL_stale 8 = .ok (.goto 6, 3) := by decide +kernel
theorem dL_stale_11 : decode cL_stale 11 = .ok (.astore_n 2, 1) := by decide +kernel
theorem dL_stale_12 : decode cL_stale 12 = .ok (.iconst 1, 1) := by decide +kernel
theorem dL_stale_13 : decode cL_stale 13 = .ok (.ireturn, 1) := by decide +kernel
theorem dL_stale_14 : decode cL_stale 14 = .ok (.iconst 0, 1) := by decide +kernel
theorem dL_stale_15 : decode cL_stale 15 = .ok (.ireturn, 1) := by decide +kernel
theorem dL_sum_0 : decode cL_sum 0 = .ok (.aload_n 3, 1) := by decide +kernel
theorem dL_sum_1 : decode cL_sum 1 = .ok (.iconst 0, 1) := by decide +kernel
theorem dL_sum_2 : decode cL_sum 2 = .ok (.aload_n 0, 1) := by decide +kernel
theorem dL_sum_3 : decode cL_sum 3 = .ok (.iload_n 1, 1) := by decide +kernel
theorem dL_sum_4 : decode cL_sum 4 = .ok (.iload_n 2, 1) := by decide +kernel
theorem dL_sum_5 : decode cL_sum 5 = .ok (.invokevirtual 86, 3) := by decide +kernel
theorem dL_sum_8 : decode cL_sum 8 = .ok (.i2l, 1) := by decide +kernel
theorem dL_sum_9 : decode cL_sum 9 = .ok (.lastore, 1) := by decide +kernel
theorem dL_sum_10 : decode cL_sum 10 = .ok (.goto 15, 3) := by decide +kernel
theorem dL_sum_13 : decode cL_sum 13 = .ok (.astore 4, 2) := by decide +kernel
theorem dL_sum_15 : decode cL_sum 15 = .ok (.iconst 1, 1) := by decide +kernel
theorem dL_sum_16 : decode cL_sum 16 = .ok (.ireturn, 1) := by decide +kernel
theorem dL_sum_17 : decode cL_sum 17 = .ok (.astore 4, 2) := by decide +kernel
theorem dL_sum_19 : decode cL_sum 19 = .ok (.iconst 2, 1) := by decide +kernel
theorem dL_sum_20 : decode cL_sum 20 = .ok (.ireturn, 1) := by decide +kernel
theorem dL_sum_21 : decode cL_sum 21 = .ok (.astore 4, 2) := by decide +kernel
theorem dL_sum_23 : decode cL_sum 23 = .ok (.iconst 3, 1) := by decide +kernel
theorem dL_sum_24 : decode cL_sum 24 = .ok (.ireturn, 1) := by decide +kernel
theorem dL_sum_25 : decode cL_sum 25 = .ok (.iconst 0, 1) := by decide +kernel
theorem dL_sum_26 : decode cL_sum 26 = .ok (.ireturn, 1) := by decide +kernel
theorem dL_find_0 : decode cL_find 0 = .ok (.aload_n 3, 1) := by decide +kernel
theorem dL_find_1 : decode cL_find 1 = .ok (.iconst 0, 1) := by decide +kernel
theorem dL_find_2 : decode cL_find 2 = .ok (.aload_n 0, 1) := by decide +kernel
theorem dL_find_3 : decode cL_find 3 = .ok (.iload_n 1, 1) := by decide +kernel
theorem dL_find_4 : decode cL_find 4 = .ok (.iload_n 2, 1) := by decide +kernel
theorem dL_find_5 : decode cL_find 5 = .ok (.invokevirtual 89, 3) := by decide +kernel
theorem dL_find_8 : decode cL_find 8 = .ok (.i2l, 1) := by decide +kernel
theorem dL_find_9 : decode cL_find 9 = .ok (.lastore, 1) := by decide +kernel
theorem dL_find_10 : decode cL_find 10 = .ok (.goto 15, 3) := by decide +kernel
theorem dL_find_13 : decode cL_find 13 = .ok (.astore 4, 2) := by decide +kernel
theorem dL_find_15 : decode cL_find 15 = .ok (.iconst 1, 1) := by decide +kernel
theorem dL_find_16 : decode cL_find 16 = .ok (.ireturn, 1) := by decide +kernel
theorem dL_find_17 : decode cL_find 17 = .ok (.astore 4, 2) := by decide +kernel
theorem dL_find_19 : decode cL_find 19 = .ok (.iconst 2, 1) := by decide +kernel
theorem dL_find_20 : decode cL_find 20 = .ok (.ireturn, 1) := by decide +kernel
theorem dL_find_21 : decode cL_find 21 = .ok (.astore 4, 2) := by decide +kernel
theorem dL_find_23 : decode cL_find 23 = .ok (.iconst 3, 1) := by decide +kernel
theorem dL_find_24 : decode cL_find 24 = .ok (.ireturn, 1) := by decide +kernel
theorem dL_find_25 : decode cL_find 25 = .ok (.iconst 0, 1) := by decide +kernel
theorem dL_find_26 : decode cL_find 26 = .ok (.ireturn, 1) := by decide +kernel
theorem dL_same_0 : decode cL_same 0 = .ok (.aload 4, 2) := by decide +kernel
theorem dL_same_2 : decode cL_same 2 = .ok (.iconst 0, 1) := by decide +kernel
theorem dL_same_3 : decode cL_same 3 = .ok (.aload_n 0, 1) := by decide +kernel
theorem dL_same_4 : decode cL_same 4 = .ok (.iload_n 1, 1) := by decide +kernel
theorem dL_same_5 : decode cL_same 5 = .ok (.iload_n 2, 1) := by decide +kernel
theorem dL_same_6 : decode cL_same 6 = .ok (.iload_n 3, 1) := by decide +kernel
theorem dL_same_7 : decode cL_same 7 = .ok (.invokevirtual 92, 3) := by decide +kernel
theorem dL_same_10 : decode cL_same 10 = .ok (.ifCond .eq 7, 3) := by decide +kernel
theorem dL_same_13 : decode cL_same 13 = .ok (.lconst 1, 1) := by decide +kernel
theorem dL_same_14 : decode cL_same 14 = .ok (.goto 4, 3) := by decide +kernel
theorem dL_same_17 : decode cL_same 17 = .ok (.lconst 0, 1) := by decide +kernel
theorem dL_same_18 : decode cL_same 18 = .ok (.lastore, 1) := by decide +kernel
theorem dL_same_19 : decode cL_same 19 = .ok (.goto 15, 3) := by decide +kernel
theorem dL_same_22 : decode cL_same 22 = .ok (.astore 5, 2) := by decide +kernel
theorem dL_same_24 : decode cL_same 24 = .ok (.iconst 1, 1) := by decide +kernel
theorem dL_same_25 : decode cL_same 25 = .ok (.ireturn, 1) := by decide +kernel
theorem dL_same_26 : decode cL_same 26 = .ok (.astore 5, 2) := by decide +kernel
theorem dL_same_28 : decode cL_same 28 = .ok (.iconst 2, 1) := by decide +kernel
theorem dL_same_29 : decode cL_same 29 = .ok (.ireturn, 1) := by decide +kernel
theorem dL_same_30 : decode cL_same 30 = .ok (.astore 5, 2) := by decide +kernel
theorem dL_same_32 : decode cL_same 32 = .ok (.iconst 3, 1) := by decide +kernel
theorem dL_same_33 : decode cL_same 33 = .ok (.ireturn, 1) := by decide +kernel
theorem dL_same_34 : decode cL_same 34 = .ok (.iconst 0, 1) := by decide +kernel
theorem dL_same_35 : decode cL_same 35 = .ok (.ireturn, 1) := by decide +kernel
theorem dL_checksum_0 : decode cL_checksum 0 = .ok (.aload_n 1, 1) := by decide +kernel
theorem dL_checksum_1 : decode cL_checksum 1 = .ok (.iconst 0, 1) := by decide +kernel
theorem dL_checksum_2 : decode cL_checksum 2 = .ok (.aload_n 0, 1) := by decide +kernel
theorem dL_checksum_3 : decode cL_checksum 3 = .ok (.invokevirtual 96, 3) := by decide +kernel
theorem dL_checksum_6 : decode cL_checksum 6 = .ok (.lastore, 1) := by decide +kernel
theorem dL_checksum_7 : decode cL_checksum 7 = .ok (.goto 6, 3) := by decide +kernel
theorem dL_checksum_10 : decode cL_checksum 10 = .ok (.astore_n 2, 1) := by decide +kernel
theorem dL_checksum_11 : decode cL_checksum 11 = .ok (.iconst 1, 1) := by decide +kernel
theorem dL_checksum_12 : decode cL_checksum 12 = .ok (.ireturn, 1) := by decide +kernel
theorem dL_checksum_13 : decode cL_checksum 13 = .ok (.iconst 0, 1) := by decide +kernel
theorem dL_checksum_14 : decode cL_checksum 14 = .ok (.ireturn, 1) := by decide +kernel
theorem dL_whyCopy_0 : decode cL_whyCopy 0 = .ok (.aload 4, 2) := by decide +kernel
theorem dL_whyCopy_2 : decode cL_whyCopy 2 = .ok (.iconst 0, 1) := by decide +kernel
theorem dL_whyCopy_3 : decode cL_whyCopy 3 = .ok (.aload_n 0, 1) := by decide +kernel
theorem dL_whyCopy_4 : decode cL_whyCopy 4 = .ok (.iload_n 1, 1) := by decide +kernel
theorem dL_whyCopy_5 : decode cL_whyCopy 5 = .ok (.iload_n 2, 1) := by decide +kernel
theorem dL_whyCopy_6 : decode cL_whyCopy 6 = .ok (.iload_n 3, 1) := by decide +kernel
theorem dL_whyCopy_7 : decode cL_whyCopy 7 = .ok (.invokevirtual 100, 3) := by decide +kernel
theorem dL_whyCopy_10 : decode cL_whyCopy 10 = .ok (.i2l, 1) := by decide +kernel
theorem dL_whyCopy_11 : decode cL_whyCopy 11 = .ok (.lastore, 1) := by decide +kernel
theorem dL_whyCopy_12 : decode cL_whyCopy 12 = .ok (.goto 7, 3) := by decide +kernel
theorem dL_whyCopy_15 : decode cL_whyCopy 15 = .ok (.astore 5, 2) := by decide +kernel
theorem dL_whyCopy_17 : decode cL_whyCopy 17 = .ok (.iconst 1, 1) := by decide +kernel
theorem dL_whyCopy_18 : decode cL_whyCopy 18 = .ok (.ireturn, 1) := by decide +kernel
theorem dL_whyCopy_19 : decode cL_whyCopy 19 = .ok (.iconst 0, 1) := by decide +kernel
theorem dL_whyCopy_20 : decode cL_whyCopy 20 = .ok (.ireturn, 1) := by decide +kernel
theorem dL_forcedByCopy_0 : decode cL_forcedByCopy 0 = .ok (.aload 4, 2) := by decide +kernel
theorem dL_forcedByCopy_2 : decode cL_forcedByCopy 2 = .ok (.iconst 0, 1) := by decide +kernel
theorem dL_forcedByCopy_3 : decode cL_forcedByCopy 3 = .ok (.aload_n 0, 1) := by decide +kernel
theorem dL_forcedByCopy_4 : decode cL_forcedByCopy 4 = .ok (.iload_n 1, 1) := by decide +kernel
theorem dL_forcedByCopy_5 : decode cL_forcedByCopy 5 = .ok (.iload_n 2, 1) := by decide +kernel
theorem dL_forcedByCopy_6 : decode cL_forcedByCopy 6 = .ok (.iload_n 3, 1) := by decide +kernel
theorem dL_forcedByCopy_7 : decode cL_forcedByCopy 7 = .ok (.invokevirtual 104, 3) := by decide +kernel
theorem dL_forcedByCopy_10 : decode cL_forcedByCopy 10 = .ok (.i2l, 1) := by decide +kernel
theorem dL_forcedByCopy_11 : decode cL_forcedByCopy 11 = .ok (.lastore, 1) := by decide +kernel
theorem dL_forcedByCopy_12 : decode cL_forcedByCopy 12 = .ok (.goto 11, 3) := by decide +kernel
theorem dL_forcedByCopy_15 : decode cL_forcedByCopy 15 = .ok (.astore 5, 2) := by decide +kernel
theorem dL_forcedByCopy_17 : decode cL_forcedByCopy 17 = .ok (.iconst 1, 1) := by decide +kernel
theorem dL_forcedByCopy_18 : decode cL_forcedByCopy 18 = .ok (.ireturn, 1) := by decide +kernel
theorem dL_forcedByCopy_19 : decode cL_forcedByCopy 19 = .ok (.astore 5, 2) := by decide +kernel
theorem dL_forcedByCopy_21 : decode cL_forcedByCopy 21 = .ok (.iconst 2, 1) := by decide +kernel
theorem dL_forcedByCopy_22 : decode cL_forcedByCopy 22 = .ok (.ireturn, 1) := by decide +kernel
theorem dL_forcedByCopy_23 : decode cL_forcedByCopy 23 = .ok (.iconst 0, 1) := by decide +kernel
theorem dL_forcedByCopy_24 : decode cL_forcedByCopy 24 = .ok (.ireturn, 1) := by decide +kernel
theorem dL_owedIfCopy_0 : decode cL_owedIfCopy 0 = .ok (.aload 4, 2) := by decide +kernel
theorem dL_owedIfCopy_2 : decode cL_owedIfCopy 2 = .ok (.iconst 0, 1) := by decide +kernel
theorem dL_owedIfCopy_3 : decode cL_owedIfCopy 3 = .ok (.aload_n 0, 1) := by decide +kernel
theorem dL_owedIfCopy_4 : decode cL_owedIfCopy 4 = .ok (.iload_n 1, 1) := by decide +kernel
theorem dL_owedIfCopy_5 : decode cL_owedIfCopy 5 = .ok (.iload_n 2, 1) := by decide +kernel
theorem dL_owedIfCopy_6 : decode cL_owedIfCopy 6 = .ok (.iload_n 3, 1) := by decide +kernel
theorem dL_owedIfCopy_7 : decode cL_owedIfCopy 7 = .ok (.invokevirtual 107, 3) := by decide +kernel
theorem dL_owedIfCopy_10 : decode cL_owedIfCopy 10 = .ok (.i2l, 1) := by decide +kernel
theorem dL_owedIfCopy_11 : decode cL_owedIfCopy 11 = .ok (.lastore, 1) := by decide +kernel
theorem dL_owedIfCopy_12 : decode cL_owedIfCopy 12 = .ok (.goto 11, 3) := by decide +kernel
theorem dL_owedIfCopy_15 : decode cL_owedIfCopy 15 = .ok (.astore 5, 2) := by decide +kernel
theorem dL_owedIfCopy_17 : decode cL_owedIfCopy 17 = .ok (.iconst 1, 1) := by decide +kernel
theorem dL_owedIfCopy_18 : decode cL_owedIfCopy 18 = .ok (.ireturn, 1) := by decide +kernel
theorem dL_owedIfCopy_19 : decode cL_owedIfCopy 19 = .ok (.astore 5, 2) := by decide +kernel
theorem dL_owedIfCopy_21 : decode cL_owedIfCopy 21 = .ok (.iconst 2, 1) := by decide +kernel
theorem dL_owedIfCopy_22 : decode cL_owedIfCopy 22 = .ok (.ireturn, 1) := by decide +kernel
theorem dL_owedIfCopy_23 : decode cL_owedIfCopy 23 = .ok (.iconst 0, 1) := by decide +kernel
theorem dL_owedIfCopy_24 : decode cL_owedIfCopy 24 = .ok (.ireturn, 1) := by decide +kernel
theorem dL_costOfCopy_0 : decode cL_costOfCopy 0 = .ok (.aload 4, 2) := by decide +kernel
theorem dL_costOfCopy_2 : decode cL_costOfCopy 2 = .ok (.iconst 0, 1) := by decide +kernel
theorem dL_costOfCopy_3 : decode cL_costOfCopy 3 = .ok (.aload_n 0, 1) := by decide +kernel
theorem dL_costOfCopy_4 : decode cL_costOfCopy 4 = .ok (.iload_n 1, 1) := by decide +kernel
theorem dL_costOfCopy_5 : decode cL_costOfCopy 5 = .ok (.iload_n 2, 1) := by decide +kernel
theorem dL_costOfCopy_6 : decode cL_costOfCopy 6 = .ok (.iload_n 3, 1) := by decide +kernel
theorem dL_costOfCopy_7 : decode cL_costOfCopy 7 = .ok (.invokevirtual 110, 3) := by decide +kernel
theorem dL_costOfCopy_10 : decode cL_costOfCopy 10 = .ok (.i2l, 1) := by decide +kernel
theorem dL_costOfCopy_11 : decode cL_costOfCopy 11 = .ok (.lastore, 1) := by decide +kernel
theorem dL_costOfCopy_12 : decode cL_costOfCopy 12 = .ok (.goto 11, 3) := by decide +kernel
theorem dL_costOfCopy_15 : decode cL_costOfCopy 15 = .ok (.astore 5, 2) := by decide +kernel
theorem dL_costOfCopy_17 : decode cL_costOfCopy 17 = .ok (.iconst 1, 1) := by decide +kernel
theorem dL_costOfCopy_18 : decode cL_costOfCopy 18 = .ok (.ireturn, 1) := by decide +kernel
theorem dL_costOfCopy_19 : decode cL_costOfCopy 19 = .ok (.astore 5, 2) := by decide +kernel
theorem dL_costOfCopy_21 : decode cL_costOfCopy 21 = .ok (.iconst 2, 1) := by decide +kernel
theorem dL_costOfCopy_22 : decode cL_costOfCopy 22 = .ok (.ireturn, 1) := by decide +kernel
theorem dL_costOfCopy_23 : decode cL_costOfCopy 23 = .ok (.iconst 0, 1) := by decide +kernel
theorem dL_costOfCopy_24 : decode cL_costOfCopy 24 = .ok (.ireturn, 1) := by decide +kernel
theorem dL_forcedByWrite_0 : decode cL_forcedByWrite 0 = .ok (.aload_n 2, 1) := by decide +kernel
theorem dL_forcedByWrite_1 : decode cL_forcedByWrite 1 = .ok (.iconst 0, 1) := by decide +kernel
theorem dL_forcedByWrite_2 : decode cL_forcedByWrite 2 = .ok (.aload_n 0, 1) := by decide +kernel
theorem dL_forcedByWrite_3 : decode cL_forcedByWrite 3 = .ok (.iload_n 1, 1) := by decide +kernel
theorem dL_forcedByWrite_4 : decode cL_forcedByWrite 4 = .ok (.invokevirtual 113, 3) := by decide +kernel
theorem dL_forcedByWrite_7 : decode cL_forcedByWrite 7 = .ok (.i2l, 1) := by decide +kernel
theorem dL_forcedByWrite_8 : decode cL_forcedByWrite 8 = .ok (.lastore, 1) := by decide +kernel
theorem dL_forcedByWrite_9 : decode cL_forcedByWrite 9 = .ok (.goto 12, 3) := by decide +kernel
theorem dL_forcedByWrite_12 : decode cL_forcedByWrite 12 = .ok (.astore_n 3, 1) := by decide +kernel
theorem dL_forcedByWrite_13 : decode cL_forcedByWrite 13 = .ok (.iconst 1, 1) := by decide +kernel
theorem dL_forcedByWrite_14 : decode cL_forcedByWrite 14 = .ok (.ireturn, 1) := by decide +kernel
theorem dL_forcedByWrite_15 : decode cL_forcedByWrite 15 = .ok (.astore_n 3, 1) := by decide +kernel
theorem dL_forcedByWrite_16 : decode cL_forcedByWrite 16 = .ok (.iconst 2, 1) := by decide +kernel
theorem dL_forcedByWrite_17 : decode cL_forcedByWrite 17 = .ok (.ireturn, 1) := by decide +kernel
theorem dL_forcedByWrite_18 : decode cL_forcedByWrite 18 = .ok (.astore_n 3, 1) := by decide +kernel
theorem dL_forcedByWrite_19 : decode cL_forcedByWrite 19 = .ok (.iconst 3, 1) := by decide +kernel
theorem dL_forcedByWrite_20 : decode cL_forcedByWrite 20 = .ok (.ireturn, 1) := by decide +kernel
theorem dL_forcedByWrite_21 : decode cL_forcedByWrite 21 = .ok (.iconst 0, 1) := by decide +kernel
theorem dL_forcedByWrite_22 : decode cL_forcedByWrite 22 = .ok (.ireturn, 1) := by decide +kernel
theorem dL_forcedByFill_0 : decode cL_forcedByFill 0 = .ok (.aload_n 3, 1) := by decide +kernel
theorem dL_forcedByFill_1 : decode cL_forcedByFill 1 = .ok (.iconst 0, 1) := by decide +kernel
theorem dL_forcedByFill_2 : decode cL_forcedByFill 2 = .ok (.aload_n 0, 1) := by decide +kernel
theorem dL_forcedByFill_3 : decode cL_forcedByFill 3 = .ok (.iload_n 1, 1) := by decide +kernel
theorem dL_forcedByFill_4 : decode cL_forcedByFill 4 = .ok (.iload_n 2, 1) := by decide +kernel
theorem dL_forcedByFill_5 : decode cL_forcedByFill 5 = .ok (.invokevirtual 116, 3) := by decide +kernel
theorem dL_forcedByFill_8 : decode cL_forcedByFill 8 = .ok (.i2l, 1) := by decide +kernel
theorem dL_forcedByFill_9 : decode cL_forcedByFill 9 = .ok (.lastore, 1) := by decide +kernel
theorem dL_forcedByFill_10 : decode cL_forcedByFill 10 = .ok (.goto 15, 3) := by decide +kernel
theorem dL_forcedByFill_13 : decode cL_forcedByFill 13 = .ok (.astore 4, 2) := by decide +kernel
theorem dL_forcedByFill_15 : decode cL_forcedByFill 15 = .ok (.iconst 1, 1) := by decide +kernel
theorem dL_forcedByFill_16 : decode cL_forcedByFill 16 = .ok (.ireturn, 1) := by decide +kernel
theorem dL_forcedByFill_17 : decode cL_forcedByFill 17 = .ok (.astore 4, 2) := by decide +kernel
theorem dL_forcedByFill_19 : decode cL_forcedByFill 19 = .ok (.iconst 2, 1) := by decide +kernel
theorem dL_forcedByFill_20 : decode cL_forcedByFill 20 = .ok (.ireturn, 1) := by decide +kernel
theorem dL_forcedByFill_21 : decode cL_forcedByFill 21 = .ok (.astore 4, 2) := by decide +kernel
theorem dL_forcedByFill_23 : decode cL_forcedByFill 23 = .ok (.iconst 3, 1) := by decide +kernel
theorem dL_forcedByFill_24 : decode cL_forcedByFill 24 = .ok (.ireturn, 1) := by decide +kernel
theorem dL_forcedByFill_25 : decode cL_forcedByFill 25 = .ok (.iconst 0, 1) := by decide +kernel
theorem dL_forcedByFill_26 : decode cL_forcedByFill 26 = .ok (.ireturn, 1) := by decide +kernel
theorem dL_ticksToClear_0 : decode cL_ticksToClear 0 = .ok (.aload_n 1, 1) := by decide +kernel
theorem dL_ticksToClear_1 : decode cL_ticksToClear 1 = .ok (.iconst 0, 1) := by decide +kernel
theorem dL_ticksToClear_2 : decode cL_ticksToClear 2 = .ok (.aload_n 0, 1) := by decide +kernel
theorem dL_ticksToClear_3 : decode cL_ticksToClear 3 = .ok (.invokevirtual 119, 3) := by decide +kernel
theorem dL_ticksToClear_6 : decode cL_ticksToClear 6 = .ok (.i2l, 1) := by decide +kernel
theorem dL_ticksToClear_7 : decode cL_ticksToClear 7 = .ok (.lastore, 1) := by decide +kernel
theorem dL_ticksToClear_8 : decode cL_ticksToClear 8 = .ok (.goto 6, 3) := by decide +kernel
theorem dL_ticksToClear_11 : decode cL_ticksToClear 11 = .ok (.astore_n 2, 1) := by decide +kernel
theorem dL_ticksToClear_12 : decode cL_ticksToClear 12 = .ok (.iconst 1, 1) := by decide +kernel
theorem dL_ticksToClear_13 : decode cL_ticksToClear 13 = .ok (.ireturn, 1) := by decide +kernel
theorem dL_ticksToClear_14 : decode cL_ticksToClear 14 = .ok (.iconst 0, 1) := by decide +kernel
theorem dL_ticksToClear_15 : decode cL_ticksToClear 15 = .ok (.ireturn, 1) := by decide +kernel
theorem dL_owedAfter_0 : decode cL_owedAfter 0 = .ok (.aload_n 2, 1) := by decide +kernel
theorem dL_owedAfter_1 : decode cL_owedAfter 1 = .ok (.iconst 0, 1) := by decide +kernel
theorem dL_owedAfter_2 : decode cL_owedAfter 2 = .ok (.aload_n 0, 1) := by decide +kernel
theorem dL_owedAfter_3 : decode cL_owedAfter 3 = .ok (.iload_n 1, 1) := by decide +kernel
theorem dL_owedAfter_4 : decode cL_owedAfter 4 = .ok (.invokevirtual 122, 3) := by decide +kernel
theorem dL_owedAfter_7 : decode cL_owedAfter 7 = .ok (.i2l, 1) := by decide +kernel
theorem dL_owedAfter_8 : decode cL_owedAfter 8 = .ok (.lastore, 1) := by decide +kernel
theorem dL_owedAfter_9 : decode cL_owedAfter 9 = .ok (.goto 9, 3) := by decide +kernel
theorem dL_owedAfter_12 : decode cL_owedAfter 12 = .ok (.astore_n 3, 1) := by decide +kernel
theorem dL_owedAfter_13 : decode cL_owedAfter 13 = .ok (.iconst 1, 1) := by decide +kernel
theorem dL_owedAfter_14 : decode cL_owedAfter 14 = .ok (.ireturn, 1) := by decide +kernel
theorem dL_owedAfter_15 : decode cL_owedAfter 15 = .ok (.astore_n 3, 1) := by decide +kernel
theorem dL_owedAfter_16 : decode cL_owedAfter 16 = .ok (.iconst 2, 1) := by decide +kernel
theorem dL_owedAfter_17 : decode cL_owedAfter 17 = .ok (.ireturn, 1) := by decide +kernel
theorem dL_owedAfter_18 : decode cL_owedAfter 18 = .ok (.iconst 0, 1) := by decide +kernel
theorem dL_owedAfter_19 : decode cL_owedAfter 19 = .ok (.ireturn, 1) := by decide +kernel
theorem dL_paidIn_0 : decode cL_paidIn 0 = .ok (.aload_n 2, 1) := by decide +kernel
theorem dL_paidIn_1 : decode cL_paidIn 1 = .ok (.iconst 0, 1) := by decide +kernel
theorem dL_paidIn_2 : decode cL_paidIn 2 = .ok (.aload_n 0, 1) := by decide +kernel
theorem dL_paidIn_3 : decode cL_paidIn 3 = .ok (.iload_n 1, 1) := by decide +kernel
theorem dL_paidIn_4 : decode cL_paidIn 4 = .ok (.invokevirtual 125, 3) := by decide +kernel
theorem dL_paidIn_7 : decode cL_paidIn 7 = .ok (.i2l, 1) := by decide +kernel
theorem dL_paidIn_8 : decode cL_paidIn 8 = .ok (.lastore, 1) := by decide +kernel
theorem dL_paidIn_9 : decode cL_paidIn 9 = .ok (.goto 9, 3) := by decide +kernel
theorem dL_paidIn_12 : decode cL_paidIn 12 = .ok (.astore_n 3, 1) := by decide +kernel
theorem dL_paidIn_13 : decode cL_paidIn 13 = .ok (.iconst 1, 1) := by decide +kernel
theorem dL_paidIn_14 : decode cL_paidIn 14 = .ok (.ireturn, 1) := by decide +kernel
theorem dL_paidIn_15 : decode cL_paidIn 15 = .ok (.astore_n 3, 1) := by decide +kernel
theorem dL_paidIn_16 : decode cL_paidIn 16 = .ok (.iconst 2, 1) := by decide +kernel
theorem dL_paidIn_17 : decode cL_paidIn 17 = .ok (.ireturn, 1) := by decide +kernel
theorem dL_paidIn_18 : decode cL_paidIn 18 = .ok (.iconst 0, 1) := by decide +kernel
theorem dL_paidIn_19 : decode cL_paidIn 19 = .ok (.ireturn, 1) := by decide +kernel
theorem dL_bestPolicy_0 : decode cL_bestPolicy 0 = .ok (.aload_n 1, 1) := by decide +kernel
theorem dL_bestPolicy_1 : decode cL_bestPolicy 1 = .ok (.iconst 0, 1) := by decide +kernel
theorem dL_bestPolicy_2 : decode cL_bestPolicy 2 = .ok (.aload_n 0, 1) := by decide +kernel
theorem dL_bestPolicy_3 : decode cL_bestPolicy 3 = .ok (.invokevirtual 128, 3) := by decide +kernel
theorem dL_bestPolicy_6 : decode cL_bestPolicy 6 = .ok (.i2l, 1) := by decide +kernel
theorem dL_bestPolicy_7 : decode cL_bestPolicy 7 = .ok (.lastore, 1) := by decide +kernel
theorem dL_bestPolicy_8 : decode cL_bestPolicy 8 = .ok (.goto 6, 3) := by decide +kernel
theorem dL_bestPolicy_11 : decode cL_bestPolicy 11 = .ok (.astore_n 2, 1) := by decide +kernel
theorem dL_bestPolicy_12 : decode cL_bestPolicy 12 = .ok (.iconst 1, 1) := by decide +kernel
theorem dL_bestPolicy_13 : decode cL_bestPolicy 13 = .ok (.ireturn, 1) := by decide +kernel
theorem dL_bestPolicy_14 : decode cL_bestPolicy 14 = .ok (.iconst 0, 1) := by decide +kernel
theorem dL_bestPolicy_15 : decode cL_bestPolicy 15 = .ok (.ireturn, 1) := by decide +kernel
theorem dL_account_0 : decode cL_account 0 = .ok (.aload_n 2, 1) := by decide +kernel
theorem dL_account_1 : decode cL_account 1 = .ok (.iconst 0, 1) := by decide +kernel
theorem dL_account_2 : decode cL_account 2 = .ok (.aload_n 0, 1) := by decide +kernel
theorem dL_account_3 : decode cL_account 3 = .ok (.iload_n 1, 1) := by decide +kernel
theorem dL_account_4 : decode cL_account 4 = .ok (.invokevirtual 131, 3) := by decide +kernel
theorem dL_account_7 : decode cL_account 7 = .ok (.i2l, 1) := by decide +kernel
theorem dL_account_8 : decode cL_account 8 = .ok (.lastore, 1) := by decide +kernel
theorem dL_account_9 : decode cL_account 9 = .ok (.goto 9, 3) := by decide +kernel
theorem dL_account_12 : decode cL_account 12 = .ok (.astore_n 3, 1) := by decide +kernel
theorem dL_account_13 : decode cL_account 13 = .ok (.iconst 1, 1) := by decide +kernel
theorem dL_account_14 : decode cL_account 14 = .ok (.ireturn, 1) := by decide +kernel
theorem dL_account_15 : decode cL_account 15 = .ok (.astore_n 3, 1) := by decide +kernel
theorem dL_account_16 : decode cL_account 16 = .ok (.iconst 2, 1) := by decide +kernel
theorem dL_account_17 : decode cL_account 17 = .ok (.ireturn, 1) := by decide +kernel
theorem dL_account_18 : decode cL_account 18 = .ok (.iconst 0, 1) := by decide +kernel
theorem dL_account_19 : decode cL_account 19 = .ok (.ireturn, 1) := by decide +kernel
theorem dL_meanHops_0 : decode cL_meanHops 0 = .ok (.aload_n 1, 1) := by decide +kernel
theorem dL_meanHops_1 : decode cL_meanHops 1 = .ok (.iconst 0, 1) := by decide +kernel
theorem dL_meanHops_2 : decode cL_meanHops 2 = .ok (.aload_n 0, 1) := by decide +kernel
theorem dL_meanHops_3 : decode cL_meanHops 3 = .ok (.invokevirtual 134, 3) := by decide +kernel
theorem dL_meanHops_6 : decode cL_meanHops 6 = .ok (.dastore, 1) := by decide +kernel
theorem dL_meanHops_7 : decode cL_meanHops 7 = .ok (.goto 6, 3) := by decide +kernel
theorem dL_meanHops_10 : decode cL_meanHops 10 = .ok (.astore_n 2, 1) := by decide +kernel
theorem dL_meanHops_11 : decode cL_meanHops 11 = .ok (.iconst 1, 1) := by decide +kernel
theorem dL_meanHops_12 : decode cL_meanHops 12 = .ok (.ireturn, 1) := by decide +kernel
theorem dL_meanHops_13 : decode cL_meanHops 13 = .ok (.iconst 0, 1) := by decide +kernel
theorem dL_meanHops_14 : decode cL_meanHops 14 = .ok (.ireturn, 1) := by decide +kernel
theorem dL_idleShare_0 : decode cL_idleShare 0 = .ok (.aload_n 1, 1) := by decide +kernel
theorem dL_idleShare_1 : decode cL_idleShare 1 = .ok (.iconst 0, 1) := by decide +kernel
theorem dL_idleShare_2 : decode cL_idleShare 2 = .ok (.aload_n 0, 1) := by decide +kernel
theorem dL_idleShare_3 : decode cL_idleShare 3 = .ok (.invokevirtual 138, 3) := by decide +kernel
theorem dL_idleShare_6 : decode cL_idleShare 6 = .ok (.f2d, 1) := by decide +kernel
theorem dL_idleShare_7 : decode cL_idleShare 7 = .ok (.dastore, 1) := by decide +kernel
theorem dL_idleShare_8 : decode cL_idleShare 8 = .ok (.goto 6, 3) := by decide +kernel
theorem dL_idleShare_11 : decode cL_idleShare 11 = .ok (.astore_n 2, 1) := by decide +kernel
theorem dL_idleShare_12 : decode cL_idleShare 12 = .ok (.iconst 1, 1) := by decide +kernel
theorem dL_idleShare_13 : decode cL_idleShare 13 = .ok (.ireturn, 1) := by decide +kernel
theorem dL_idleShare_14 : decode cL_idleShare 14 = .ok (.iconst 0, 1) := by decide +kernel
theorem dL_idleShare_15 : decode cL_idleShare 15 = .ok (.ireturn, 1) := by decide +kernel
theorem dL_event_0 : decode cL_event 0 = .ok (.aload_n 3, 1) := by decide +kernel
theorem dL_event_1 : decode cL_event 1 = .ok (.iconst 0, 1) := by decide +kernel
theorem dL_event_2 : decode cL_event 2 = .ok (.aload_n 0, 1) := by decide +kernel
theorem dL_event_3 : decode cL_event 3 = .ok (.iload_n 1, 1) := by decide +kernel
theorem dL_event_4 : decode cL_event 4 = .ok (.iload_n 2, 1) := by decide +kernel
theorem dL_event_5 : decode cL_event 5 = .ok (.invokevirtual 142, 3) := by decide +kernel
theorem dL_event_8 : decode cL_event 8 = .ok (.i2l, 1) := by decide +kernel
theorem dL_event_9 : decode cL_event 9 = .ok (.lastore, 1) := by decide +kernel
theorem dL_event_10 : decode cL_event 10 = .ok (.goto 15, 3) := by decide +kernel
theorem dL_event_13 : decode cL_event 13 = .ok (.astore 4, 2) := by decide +kernel
theorem dL_event_15 : decode cL_event 15 = .ok (.iconst 1, 1) := by decide +kernel
theorem dL_event_16 : decode cL_event 16 = .ok (.ireturn, 1) := by decide +kernel
theorem dL_event_17 : decode cL_event 17 = .ok (.astore 4, 2) := by decide +kernel
theorem dL_event_19 : decode cL_event 19 = .ok (.iconst 2, 1) := by decide +kernel
theorem dL_event_20 : decode cL_event 20 = .ok (.ireturn, 1) := by decide +kernel
theorem dL_event_21 : decode cL_event 21 = .ok (.astore 4, 2) := by decide +kernel
theorem dL_event_23 : decode cL_event 23 = .ok (.iconst 3, 1) := by decide +kernel
theorem dL_event_24 : decode cL_event 24 = .ok (.ireturn, 1) := by decide +kernel
theorem dL_event_25 : decode cL_event 25 = .ok (.iconst 0, 1) := by decide +kernel
theorem dL_event_26 : decode cL_event 26 = .ok (.ireturn, 1) := by decide +kernel
theorem dL_writeDebts_0 : decode cL_writeDebts 0 = .ok (.aload_n 1, 1) := by decide +kernel
theorem dL_writeDebts_1 : decode cL_writeDebts 1 = .ok (.iconst 0, 1) := by decide +kernel
theorem dL_writeDebts_2 : decode cL_writeDebts 2 = .ok (.aload_n 0, 1) := by decide +kernel
theorem dL_writeDebts_3 : decode cL_writeDebts 3 = .ok (.invokevirtual 145, 3) := by decide +kernel
theorem dL_writeDebts_6 : decode cL_writeDebts 6 = .ok (.i2l, 1) := by decide +kernel
theorem dL_writeDebts_7 : decode cL_writeDebts 7 = .ok (.lastore, 1) := by decide +kernel
theorem dL_writeDebts_8 : decode cL_writeDebts 8 = .ok (.goto 6, 3) := by decide +kernel
theorem dL_writeDebts_11 : decode cL_writeDebts 11 = .ok (.astore_n 2, 1) := by decide +kernel
theorem dL_writeDebts_12 : decode cL_writeDebts 12 = .ok (.iconst 1, 1) := by decide +kernel
theorem dL_writeDebts_13 : decode cL_writeDebts 13 = .ok (.ireturn, 1) := by decide +kernel
theorem dL_writeDebts_14 : decode cL_writeDebts 14 = .ok (.iconst 0, 1) := by decide +kernel
theorem dL_writeDebts_15 : decode cL_writeDebts 15 = .ok (.ireturn, 1) := by decide +kernel
theorem dL_writeChain_0 : decode cL_writeChain 0 = .ok (.aload_n 2, 1) := by decide +kernel
theorem dL_writeChain_1 : decode cL_writeChain 1 = .ok (.iconst 0, 1) := by decide +kernel
theorem dL_writeChain_2 : decode cL_writeChain 2 = .ok (.aload_n 0, 1) := by decide +kernel
theorem dL_writeChain_3 : decode cL_writeChain 3 = .ok (.iload_n 1, 1) := by decide +kernel
theorem dL_writeChain_4 : decode cL_writeChain 4 = .ok (.invokevirtual 148, 3) := by decide +kernel
theorem dL_writeChain_7 : decode cL_writeChain 7 = .ok (.i2l, 1) := by decide +kernel
theorem dL_writeChain_8 : decode cL_writeChain 8 = .ok (.lastore, 1) := by decide +kernel
theorem dL_writeChain_9 : decode cL_writeChain 9 = .ok (.goto 9, 3) := by decide +kernel
theorem dL_writeChain_12 : decode cL_writeChain 12 = .ok (.astore_n 3, 1) := by decide +kernel
theorem dL_writeChain_13 : decode cL_writeChain 13 = .ok (.iconst 1, 1) := by decide +kernel
theorem dL_writeChain_14 : decode cL_writeChain 14 = .ok (.ireturn, 1) := by decide +kernel
theorem dL_writeChain_15 : decode cL_writeChain 15 = .ok (.astore_n 3, 1) := by decide +kernel
theorem dL_writeChain_16 : decode cL_writeChain 16 = .ok (.iconst 2, 1) := by decide +kernel
theorem dL_writeChain_17 : decode cL_writeChain 17 = .ok (.ireturn, 1) := by decide +kernel
theorem dL_writeChain_18 : decode cL_writeChain 18 = .ok (.iconst 0, 1) := by decide +kernel
theorem dL_writeChain_19 : decode cL_writeChain 19 = .ok (.ireturn, 1) := by decide +kernel
theorem dL_textByte_0 : decode cL_textByte 0 = .ok (.aload_n 2, 1) := by decide +kernel
theorem dL_textByte_1 : decode cL_textByte 1 = .ok (.iconst 0, 1) := by decide +kernel
theorem dL_textByte_2 : decode cL_textByte 2 = .ok (.aload_n 0, 1) := by decide +kernel
theorem dL_textByte_3 : decode cL_textByte 3 = .ok (.iload_n 1, 1) := by decide +kernel
theorem dL_textByte_4 : decode cL_textByte 4 = .ok (.invokevirtual 151, 3) := by decide +kernel
theorem dL_textByte_7 : decode cL_textByte 7 = .ok (.i2l, 1) := by decide +kernel
theorem dL_textByte_8 : decode cL_textByte 8 = .ok (.lastore, 1) := by decide +kernel
theorem dL_textByte_9 : decode cL_textByte 9 = .ok (.goto 6, 3) := by decide +kernel
theorem dL_textByte_12 : decode cL_textByte 12 = .ok (.astore_n 3, 1) := by decide +kernel
theorem dL_textByte_13 : decode cL_textByte 13 = .ok (.iconst 1, 1) := by decide +kernel
theorem dL_textByte_14 : decode cL_textByte 14 = .ok (.ireturn, 1) := by decide +kernel
theorem dL_textByte_15 : decode cL_textByte 15 = .ok (.iconst 0, 1) := by decide +kernel
theorem dL_textByte_16 : decode cL_textByte 16 = .ok (.ireturn, 1) := by decide +kernel
theorem dL_copy_0 : decode cL_copy 0 = .ok (.aload 4, 2) := by decide +kernel
theorem dL_copy_2 : decode cL_copy 2 = .ok (.iconst 0, 1) := by decide +kernel
theorem dL_copy_3 : decode cL_copy 3 = .ok (.aload_n 0, 1) := by decide +kernel
theorem dL_copy_4 : decode cL_copy 4 = .ok (.iload_n 1, 1) := by decide +kernel
theorem dL_copy_5 : decode cL_copy 5 = .ok (.iload_n 2, 1) := by decide +kernel
theorem dL_copy_6 : decode cL_copy 6 = .ok (.iload_n 3, 1) := by decide +kernel
theorem dL_copy_7 : decode cL_copy 7 = .ok (.invokevirtual 154, 3) := by decide +kernel
theorem dL_copy_10 : decode cL_copy 10 = .ok (.i2l, 1) := by decide +kernel
theorem dL_copy_11 : decode cL_copy 11 = .ok (.lastore, 1) := by decide +kernel
theorem dL_copy_12 : decode cL_copy 12 = .ok (.goto 11, 3) := by decide +kernel
theorem dL_copy_15 : decode cL_copy 15 = .ok (.astore 5, 2) := by decide +kernel
theorem dL_copy_17 : decode cL_copy 17 = .ok (.iconst 1, 1) := by decide +kernel
theorem dL_copy_18 : decode cL_copy 18 = .ok (.ireturn, 1) := by decide +kernel
theorem dL_copy_19 : decode cL_copy 19 = .ok (.astore 5, 2) := by decide +kernel
theorem dL_copy_21 : decode cL_copy 21 = .ok (.iconst 2, 1) := by decide +kernel
theorem dL_copy_22 : decode cL_copy 22 = .ok (.ireturn, 1) := by decide +kernel
theorem dL_copy_23 : decode cL_copy 23 = .ok (.iconst 0, 1) := by decide +kernel
theorem dL_copy_24 : decode cL_copy 24 = .ok (.ireturn, 1) := by decide +kernel
theorem dL_write_0 : decode cL_write 0 = .ok (.aload_n 3, 1) := by decide +kernel
theorem dL_write_1 : decode cL_write 1 = .ok (.iconst 0, 1) := by decide +kernel
theorem dL_write_2 : decode cL_write 2 = .ok (.aload_n 0, 1) := by decide +kernel
theorem dL_write_3 : decode cL_write 3 = .ok (.iload_n 1, 1) := by decide +kernel
theorem dL_write_4 : decode cL_write 4 = .ok (.iload_n 2, 1) := by decide +kernel
theorem dL_write_5 : decode cL_write 5 = .ok (.invokevirtual 157, 3) := by decide +kernel
theorem dL_write_8 : decode cL_write 8 = .ok (.i2l, 1) := by decide +kernel
theorem dL_write_9 : decode cL_write 9 = .ok (.lastore, 1) := by decide +kernel
theorem dL_write_10 : decode cL_write 10 = .ok (.goto 15, 3) := by decide +kernel
theorem dL_write_13 : decode cL_write 13 = .ok (.astore 4, 2) := by decide +kernel
theorem dL_write_15 : decode cL_write 15 = .ok (.iconst 1, 1) := by decide +kernel
theorem dL_write_16 : decode cL_write 16 = .ok (.ireturn, 1) := by decide +kernel
theorem dL_write_17 : decode cL_write 17 = .ok (.astore 4, 2) := by decide +kernel
theorem dL_write_19 : decode cL_write 19 = .ok (.iconst 2, 1) := by decide +kernel
theorem dL_write_20 : decode cL_write 20 = .ok (.ireturn, 1) := by decide +kernel
theorem dL_write_21 : decode cL_write 21 = .ok (.astore 4, 2) := by decide +kernel
theorem dL_write_23 : decode cL_write 23 = .ok (.iconst 3, 1) := by decide +kernel
theorem dL_write_24 : decode cL_write 24 = .ok (.ireturn, 1) := by decide +kernel
theorem dL_write_25 : decode cL_write 25 = .ok (.iconst 0, 1) := by decide +kernel
theorem dL_write_26 : decode cL_write 26 = .ok (.ireturn, 1) := by decide +kernel
theorem dL_fill_0 : decode cL_fill 0 = .ok (.aload 4, 2) := by decide +kernel
theorem dL_fill_2 : decode cL_fill 2 = .ok (.iconst 0, 1) := by decide +kernel
theorem dL_fill_3 : decode cL_fill 3 = .ok (.aload_n 0, 1) := by decide +kernel
theorem dL_fill_4 : decode cL_fill 4 = .ok (.iload_n 1, 1) := by decide +kernel
theorem dL_fill_5 : decode cL_fill 5 = .ok (.iload_n 2, 1) := by decide +kernel
theorem dL_fill_6 : decode cL_fill 6 = .ok (.iload_n 3, 1) := by decide +kernel
theorem dL_fill_7 : decode cL_fill 7 = .ok (.invokevirtual 160, 3) := by decide +kernel
theorem dL_fill_10 : decode cL_fill 10 = .ok (.i2l, 1) := by decide +kernel
theorem dL_fill_11 : decode cL_fill 11 = .ok (.lastore, 1) := by decide +kernel
theorem dL_fill_12 : decode cL_fill 12 = .ok (.goto 15, 3) := by decide +kernel
theorem dL_fill_15 : decode cL_fill 15 = .ok (.astore 5, 2) := by decide +kernel
theorem dL_fill_17 : decode cL_fill 17 = .ok (.iconst 1, 1) := by decide +kernel
theorem dL_fill_18 : decode cL_fill 18 = .ok (.ireturn, 1) := by decide +kernel
theorem dL_fill_19 : decode cL_fill 19 = .ok (.astore 5, 2) := by decide +kernel
theorem dL_fill_21 : decode cL_fill 21 = .ok (.iconst 2, 1) := by decide +kernel
theorem dL_fill_22 : decode cL_fill 22 = .ok (.ireturn, 1) := by decide +kernel
theorem dL_fill_23 : decode cL_fill 23 = .ok (.astore 5, 2) := by decide +kernel
theorem dL_fill_25 : decode cL_fill 25 = .ok (.iconst 3, 1) := by decide +kernel
theorem dL_fill_26 : decode cL_fill 26 = .ok (.ireturn, 1) := by decide +kernel
theorem dL_fill_27 : decode cL_fill 27 = .ok (.iconst 0, 1) := by decide +kernel
theorem dL_fill_28 : decode cL_fill 28 = .ok (.ireturn, 1) := by decide +kernel
theorem dL_exchange_0 : decode cL_exchange 0 = .ok (.aload_n 3, 1) := by decide +kernel
theorem dL_exchange_1 : decode cL_exchange 1 = .ok (.iconst 0, 1) := by decide +kernel
theorem dL_exchange_2 : decode cL_exchange 2 = .ok (.aload_n 0, 1) := by decide +kernel
theorem dL_exchange_3 : decode cL_exchange 3 = .ok (.iload_n 1, 1) := by decide +kernel
theorem dL_exchange_4 : decode cL_exchange 4 = .ok (.iload_n 2, 1) := by decide +kernel
theorem dL_exchange_5 : decode cL_exchange 5 = .ok (.invokevirtual 163, 3) := by decide +kernel
theorem dL_exchange_8 : decode cL_exchange 8 = .ok (.i2l, 1) := by decide +kernel
theorem dL_exchange_9 : decode cL_exchange 9 = .ok (.lastore, 1) := by decide +kernel
theorem dL_exchange_10 : decode cL_exchange 10 = .ok (.goto 15, 3) := by decide +kernel
theorem dL_exchange_13 : decode cL_exchange 13 = .ok (.astore 4, 2) := by decide +kernel
theorem dL_exchange_15 : decode cL_exchange 15 = .ok (.iconst 1, 1) := by decide +kernel
theorem dL_exchange_16 : decode cL_exchange 16 = .ok (.ireturn, 1) := by decide +kernel
theorem dL_exchange_17 : decode cL_exchange 17 = .ok (.astore 4, 2) := by decide +kernel
theorem dL_exchange_19 : decode cL_exchange 19 = .ok (.iconst 2, 1) := by decide +kernel
theorem dL_exchange_20 : decode cL_exchange 20 = .ok (.ireturn, 1) := by decide +kernel
theorem dL_exchange_21 : decode cL_exchange 21 = .ok (.astore 4, 2) := by decide +kernel
theorem dL_exchange_23 : decode cL_exchange 23 = .ok (.iconst 3, 1) := by decide +kernel
theorem dL_exchange_24 : decode cL_exchange 24 = .ok (.ireturn, 1) := by decide +kernel
theorem dL_exchange_25 : decode cL_exchange 25 = .ok (.iconst 0, 1) := by decide +kernel
theorem dL_exchange_26 : decode cL_exchange 26 = .ok (.ireturn, 1) := by decide +kernel
theorem dL_move_0 : decode cL_move 0 = .ok (.aload 4, 2) := by decide +kernel
theorem dL_move_2 : decode cL_move 2 = .ok (.iconst 0, 1) := by decide +kernel
theorem dL_move_3 : decode cL_move 3 = .ok (.aload_n 0, 1) := by decide +kernel
theorem dL_move_4 : decode cL_move 4 = .ok (.iload_n 1, 1) := by decide +kernel
theorem dL_move_5 : decode cL_move 5 = .ok (.iload_n 2, 1) := by decide +kernel
theorem dL_move_6 : decode cL_move 6 = .ok (.iload_n 3, 1) := by decide +kernel
theorem dL_move_7 : decode cL_move 7 = .ok (.invokevirtual 166, 3) := by decide +kernel
theorem dL_move_10 : decode cL_move 10 = .ok (.i2l, 1) := by decide +kernel
theorem dL_move_11 : decode cL_move 11 = .ok (.lastore, 1) := by decide +kernel
theorem dL_move_12 : decode cL_move 12 = .ok (.goto 11, 3) := by decide +kernel
theorem dL_move_15 : decode cL_move 15 = .ok (.astore 5, 2) := by decide +kernel
theorem dL_move_17 : decode cL_move 17 = .ok (.iconst 1, 1) := by decide +kernel
theorem dL_move_18 : decode cL_move 18 = .ok (.ireturn, 1) := by decide +kernel
theorem dL_move_19 : decode cL_move 19 = .ok (.astore 5, 2) := by decide +kernel
theorem dL_move_21 : decode cL_move 21 = .ok (.iconst 2, 1) := by decide +kernel
theorem dL_move_22 : decode cL_move 22 = .ok (.ireturn, 1) := by decide +kernel
theorem dL_move_23 : decode cL_move 23 = .ok (.iconst 0, 1) := by decide +kernel
theorem dL_move_24 : decode cL_move 24 = .ok (.ireturn, 1) := by decide +kernel
theorem dL_fetch_0 : decode cL_fetch 0 = .ok (.aload_n 2, 1) := by decide +kernel
theorem dL_fetch_1 : decode cL_fetch 1 = .ok (.iconst 0, 1) := by decide +kernel
theorem dL_fetch_2 : decode cL_fetch 2 = .ok (.aload_n 0, 1) := by decide +kernel
theorem dL_fetch_3 : decode cL_fetch 3 = .ok (.iload_n 1, 1) := by decide +kernel
theorem dL_fetch_4 : decode cL_fetch 4 = .ok (.invokevirtual 169, 3) := by decide +kernel
theorem dL_fetch_7 : decode cL_fetch 7 = .ok (.i2l, 1) := by decide +kernel
theorem dL_fetch_8 : decode cL_fetch 8 = .ok (.lastore, 1) := by decide +kernel
theorem dL_fetch_9 : decode cL_fetch 9 = .ok (.goto 9, 3) := by decide +kernel
theorem dL_fetch_12 : decode cL_fetch 12 = .ok (.astore_n 3, 1) := by decide +kernel
theorem dL_fetch_13 : decode cL_fetch 13 = .ok (.iconst 1, 1) := by decide +kernel
theorem dL_fetch_14 : decode cL_fetch 14 = .ok (.ireturn, 1) := by decide +kernel
theorem dL_fetch_15 : decode cL_fetch 15 = .ok (.astore_n 3, 1) := by decide +kernel
theorem dL_fetch_16 : decode cL_fetch 16 = .ok (.iconst 2, 1) := by decide +kernel
theorem dL_fetch_17 : decode cL_fetch 17 = .ok (.ireturn, 1) := by decide +kernel
theorem dL_fetch_18 : decode cL_fetch 18 = .ok (.iconst 0, 1) := by decide +kernel
theorem dL_fetch_19 : decode cL_fetch 19 = .ok (.ireturn, 1) := by decide +kernel
theorem dL_tick_0 : decode cL_tick 0 = .ok (.aload_n 2, 1) := by decide +kernel
theorem dL_tick_1 : decode cL_tick 1 = .ok (.iconst 0, 1) := by decide +kernel
theorem dL_tick_2 : decode cL_tick 2 = .ok (.aload_n 0, 1) := by decide +kernel
theorem dL_tick_3 : decode cL_tick 3 = .ok (.iload_n 1, 1) := by decide +kernel
theorem dL_tick_4 : decode cL_tick 4 = .ok (.invokevirtual 172, 3) := by decide +kernel
theorem dL_tick_7 : decode cL_tick 7 = .ok (.i2l, 1) := by decide +kernel
theorem dL_tick_8 : decode cL_tick 8 = .ok (.lastore, 1) := by decide +kernel
theorem dL_tick_9 : decode cL_tick 9 = .ok (.goto 9, 3) := by decide +kernel
theorem dL_tick_12 : decode cL_tick 12 = .ok (.astore_n 3, 1) := by decide +kernel
theorem dL_tick_13 : decode cL_tick 13 = .ok (.iconst 1, 1) := by decide +kernel
theorem dL_tick_14 : decode cL_tick 14 = .ok (.ireturn, 1) := by decide +kernel
theorem dL_tick_15 : decode cL_tick 15 = .ok (.astore_n 3, 1) := by decide +kernel
theorem dL_tick_16 : decode cL_tick 16 = .ok (.iconst 2, 1) := by decide +kernel
theorem dL_tick_17 : decode cL_tick 17 = .ok (.ireturn, 1) := by decide +kernel
theorem dL_tick_18 : decode cL_tick 18 = .ok (.iconst 0, 1) := by decide +kernel
theorem dL_tick_19 : decode cL_tick 19 = .ok (.ireturn, 1) := by decide +kernel
theorem dL_payRange_0 : decode cL_payRange 0 = .ok (.aload_n 3, 1) := by decide +kernel
theorem dL_payRange_1 : decode cL_payRange 1 = .ok (.iconst 0, 1) := by decide +kernel
theorem dL_payRange_2 : decode cL_payRange 2 = .ok (.aload_n 0, 1) := by decide +kernel
theorem dL_payRange_3 : decode cL_payRange 3 = .ok (.iload_n 1, 1) := by decide +kernel
theorem dL_payRange_4 : decode cL_payRange 4 = .ok (.iload_n 2, 1) := by decide +kernel
theorem dL_payRange_5 : decode cL_payRange 5 = .ok (.invokevirtual 175, 3) := by decide +kernel
theorem dL_payRange_8 : decode cL_payRange 8 = .ok (.i2l, 1) := by decide +kernel
theorem dL_payRange_9 : decode cL_payRange 9 = .ok (.lastore, 1) := by decide +kernel
theorem dL_payRange_10 : decode cL_payRange 10 = .ok (.goto 15, 3) := by decide +kernel
theorem dL_payRange_13 : decode cL_payRange 13 = .ok (.astore 4, 2) := by decide +kernel
theorem dL_payRange_15 : decode cL_payRange 15 = .ok (.iconst 1, 1) := by decide +kernel
theorem dL_payRange_16 : decode cL_payRange 16 = .ok (.ireturn, 1) := by decide +kernel
theorem dL_payRange_17 : decode cL_payRange 17 = .ok (.astore 4, 2) := by decide +kernel
theorem dL_payRange_19 : decode cL_payRange 19 = .ok (.iconst 2, 1) := by decide +kernel
theorem dL_payRange_20 : decode cL_payRange 20 = .ok (.ireturn, 1) := by decide +kernel
theorem dL_payRange_21 : decode cL_payRange 21 = .ok (.astore 4, 2) := by decide +kernel
theorem dL_payRange_23 : decode cL_payRange 23 = .ok (.iconst 3, 1) := by decide +kernel
theorem dL_payRange_24 : decode cL_payRange 24 = .ok (.ireturn, 1) := by decide +kernel
theorem dL_payRange_25 : decode cL_payRange 25 = .ok (.iconst 0, 1) := by decide +kernel
theorem dL_payRange_26 : decode cL_payRange 26 = .ok (.ireturn, 1) := by decide +kernel
theorem dL_shorten_0 : decode cL_shorten 0 = .ok (.aload_n 2, 1) := by decide +kernel
theorem dL_shorten_1 : decode cL_shorten 1 = .ok (.iconst 0, 1) := by decide +kernel
theorem dL_shorten_2 : decode cL_shorten 2 = .ok (.aload_n 0, 1) := by decide +kernel
theorem dL_shorten_3 : decode cL_shorten 3 = .ok (.iload_n 1, 1) := by decide +kernel
theorem dL_shorten_4 : decode cL_shorten 4 = .ok (.invokevirtual 178, 3) := by decide +kernel
theorem dL_shorten_7 : decode cL_shorten 7 = .ok (.i2l, 1) := by decide +kernel
theorem dL_shorten_8 : decode cL_shorten 8 = .ok (.lastore, 1) := by decide +kernel
theorem dL_shorten_9 : decode cL_shorten 9 = .ok (.goto 12, 3) := by decide +kernel
theorem dL_shorten_12 : decode cL_shorten 12 = .ok (.astore_n 3, 1) := by decide +kernel
theorem dL_shorten_13 : decode cL_shorten 13 = .ok (.iconst 1, 1) := by decide +kernel
theorem dL_shorten_14 : decode cL_shorten 14 = .ok (.ireturn, 1) := by decide +kernel
theorem dL_shorten_15 : decode cL_shorten 15 = .ok (.astore_n 3, 1) := by decide +kernel
theorem dL_shorten_16 : decode cL_shorten 16 = .ok (.iconst 2, 1) := by decide +kernel
theorem dL_shorten_17 : decode cL_shorten 17 = .ok (.ireturn, 1) := by decide +kernel
theorem dL_shorten_18 : decode cL_shorten 18 = .ok (.astore_n 3, 1) := by decide +kernel
theorem dL_shorten_19 : decode cL_shorten 19 = .ok (.iconst 3, 1) := by decide +kernel
theorem dL_shorten_20 : decode cL_shorten 20 = .ok (.ireturn, 1) := by decide +kernel
theorem dL_shorten_21 : decode cL_shorten 21 = .ok (.iconst 0, 1) := by decide +kernel
theorem dL_shorten_22 : decode cL_shorten 22 = .ok (.ireturn, 1) := by decide +kernel
theorem dL_setLock_0 : decode cL_setLock 0 = .ok (.aload_n 3, 1) := by decide +kernel
theorem dL_setLock_1 : decode cL_setLock 1 = .ok (.iconst 0, 1) := by decide +kernel
theorem dL_setLock_2 : decode cL_setLock 2 = .ok (.aload_n 0, 1) := by decide +kernel
theorem dL_setLock_3 : decode cL_setLock 3 = .ok (.iload_n 1, 1) := by decide +kernel
theorem dL_setLock_4 : decode cL_setLock 4 = .ok (.iload_n 2, 1) := by decide +kernel
theorem dL_setLock_5 : decode cL_setLock 5 = .ok (.invokevirtual 181, 3) := by decide +kernel
theorem dL_setLock_8 : decode cL_setLock 8 = .ok (.i2l, 1) := by decide +kernel
theorem dL_setLock_9 : decode cL_setLock 9 = .ok (.lastore, 1) := by decide +kernel
theorem dL_setLock_10 : decode cL_setLock 10 = .ok (.goto 11, 3) := by decide +kernel
theorem dL_setLock_13 : decode cL_setLock 13 = .ok (.astore 4, 2) := by decide +kernel
theorem dL_setLock_15 : decode cL_setLock 15 = .ok (.iconst 1, 1) := by decide +kernel
theorem dL_setLock_16 : decode cL_setLock 16 = .ok (.ireturn, 1) := by decide +kernel
theorem dL_setLock_17 : decode cL_setLock 17 = .ok (.astore 4, 2) := by decide +kernel
theorem dL_setLock_19 : decode cL_setLock 19 = .ok (.iconst 2, 1) := by decide +kernel
theorem dL_setLock_20 : decode cL_setLock 20 = .ok (.ireturn, 1) := by decide +kernel
theorem dL_setLock_21 : decode cL_setLock 21 = .ok (.iconst 0, 1) := by decide +kernel
theorem dL_setLock_22 : decode cL_setLock 22 = .ok (.ireturn, 1) := by decide +kernel
theorem dL_setSetting_0 : decode cL_setSetting 0 = .ok (.aload_n 3, 1) := by decide +kernel
theorem dL_setSetting_1 : decode cL_setSetting 1 = .ok (.iconst 0, 1) := by decide +kernel
theorem dL_setSetting_2 : decode cL_setSetting 2 = .ok (.aload_n 0, 1) := by decide +kernel
theorem dL_setSetting_3 : decode cL_setSetting 3 = .ok (.iload_n 1, 1) := by decide +kernel
theorem dL_setSetting_4 : decode cL_setSetting 4 = .ok (.iload_n 2, 1) := by decide +kernel
theorem dL_setSetting_5 : decode cL_setSetting 5 = .ok (.invokevirtual 184, 3) := by decide +kernel
theorem dL_setSetting_8 : decode cL_setSetting 8 = .ok (.i2l, 1) := by decide +kernel
theorem dL_setSetting_9 : decode cL_setSetting 9 = .ok (.lastore, 1) := by decide +kernel
theorem dL_setSetting_10 : decode cL_setSetting 10 = .ok (.goto 11, 3) := by decide +kernel
theorem dL_setSetting_13 : decode cL_setSetting 13 = .ok (.astore 4, 2) := by decide +kernel
theorem dL_setSetting_15 : decode cL_setSetting 15 = .ok (.iconst 1, 1) := by decide +kernel
theorem dL_setSetting_16 : decode cL_setSetting 16 = .ok (.ireturn, 1) := by decide +kernel
theorem dL_setSetting_17 : decode cL_setSetting 17 = .ok (.astore 4, 2) := by decide +kernel
theorem dL_setSetting_19 : decode cL_setSetting 19 = .ok (.iconst 2, 1) := by decide +kernel
theorem dL_setSetting_20 : decode cL_setSetting 20 = .ok (.ireturn, 1) := by decide +kernel
theorem dL_setSetting_21 : decode cL_setSetting 21 = .ok (.iconst 0, 1) := by decide +kernel
theorem dL_setSetting_22 : decode cL_setSetting 22 = .ok (.ireturn, 1) := by decide +kernel
theorem dL_undo_0 : decode cL_undo 0 = .ok (.aload_n 1, 1) := by decide +kernel
theorem dL_undo_1 : decode cL_undo 1 = .ok (.iconst 0, 1) := by decide +kernel
theorem dL_undo_2 : decode cL_undo 2 = .ok (.aload_n 0, 1) := by decide +kernel
theorem dL_undo_3 : decode cL_undo 3 = .ok (.invokevirtual 187, 3) := by decide +kernel
theorem dL_undo_6 : decode cL_undo 6 = .ok (.i2l, 1) := by decide +kernel
theorem dL_undo_7 : decode cL_undo 7 = .ok (.lastore, 1) := by decide +kernel
theorem dL_undo_8 : decode cL_undo 8 = .ok (.goto 6, 3) := by decide +kernel
theorem dL_undo_11 : decode cL_undo 11 = .ok (.astore_n 2, 1) := by decide +kernel
theorem dL_undo_12 : decode cL_undo 12 = .ok (.iconst 1, 1) := by decide +kernel
theorem dL_undo_13 : decode cL_undo 13 = .ok (.ireturn, 1) := by decide +kernel
theorem dL_undo_14 : decode cL_undo 14 = .ok (.iconst 0, 1) := by decide +kernel
theorem dL_undo_15 : decode cL_undo 15 = .ok (.ireturn, 1) := by decide +kernel
theorem dL_save_0 : decode cL_save 0 = .ok (.aload_n 2, 1) := by decide +kernel
theorem dL_save_1 : decode cL_save 1 = .ok (.iconst 0, 1) := by decide +kernel
theorem dL_save_2 : decode cL_save 2 = .ok (.aload_n 0, 1) := by decide +kernel
theorem dL_save_3 : decode cL_save 3 = .ok (.iload_n 1, 1) := by decide +kernel
theorem dL_save_4 : decode cL_save 4 = .ok (.invokevirtual 190, 3) := by decide +kernel
theorem dL_save_7 : decode cL_save 7 = .ok (.i2l, 1) := by decide +kernel
theorem dL_save_8 : decode cL_save 8 = .ok (.lastore, 1) := by decide +kernel
theorem dL_save_9 : decode cL_save 9 = .ok (.goto 9, 3) := by decide +kernel
theorem dL_save_12 : decode cL_save 12 = .ok (.astore_n 3, 1) := by decide +kernel
theorem dL_save_13 : decode cL_save 13 = .ok (.iconst 1, 1) := by decide +kernel
theorem dL_save_14 : decode cL_save 14 = .ok (.ireturn, 1) := by decide +kernel
theorem dL_save_15 : decode cL_save 15 = .ok (.astore_n 3, 1) := by decide +kernel
theorem dL_save_16 : decode cL_save 16 = .ok (.iconst 2, 1) := by decide +kernel
theorem dL_save_17 : decode cL_save 17 = .ok (.ireturn, 1) := by decide +kernel
theorem dL_save_18 : decode cL_save 18 = .ok (.iconst 0, 1) := by decide +kernel
theorem dL_save_19 : decode cL_save 19 = .ok (.ireturn, 1) := by decide +kernel
theorem dL_restore_0 : decode cL_restore 0 = .ok (.aload_n 2, 1) := by decide +kernel
theorem dL_restore_1 : decode cL_restore 1 = .ok (.iconst 0, 1) := by decide +kernel
theorem dL_restore_2 : decode cL_restore 2 = .ok (.aload_n 0, 1) := by decide +kernel
theorem dL_restore_3 : decode cL_restore 3 = .ok (.iload_n 1, 1) := by decide +kernel
theorem dL_restore_4 : decode cL_restore 4 = .ok (.invokevirtual 193, 3) := by decide +kernel
theorem dL_restore_7 : decode cL_restore 7 = .ok (.i2l, 1) := by decide +kernel
theorem dL_restore_8 : decode cL_restore 8 = .ok (.lastore, 1) := by decide +kernel
theorem dL_restore_9 : decode cL_restore 9 = .ok (.goto 9, 3) := by decide +kernel
theorem dL_restore_12 : decode cL_restore 12 = .ok (.astore_n 3, 1) := by decide +kernel
theorem dL_restore_13 : decode cL_restore 13 = .ok (.iconst 1, 1) := by decide +kernel
theorem dL_restore_14 : decode cL_restore 14 = .ok (.ireturn, 1) := by decide +kernel
theorem dL_restore_15 : decode cL_restore 15 = .ok (.astore_n 3, 1) := by decide +kernel
theorem dL_restore_16 : decode cL_restore 16 = .ok (.iconst 2, 1) := by decide +kernel
theorem dL_restore_17 : decode cL_restore 17 = .ok (.ireturn, 1) := by decide +kernel
theorem dL_restore_18 : decode cL_restore 18 = .ok (.iconst 0, 1) := by decide +kernel
theorem dL_restore_19 : decode cL_restore 19 = .ok (.ireturn, 1) := by decide +kernel
