theorem dL_lot_0 : decode cL_lot 0 = .ok (.iload_n 1, 1) := by decide +kernel
theorem dL_lot_1 : decode cL_lot 1 = .ok (.aload_n 0, 1) := by decide +kernel
theorem dL_lot_2 : decode cL_lot 2 = .ok (.arraylength, 1) := by decide +kernel
theorem dL_lot_3 : decode cL_lot 3 = .ok (.if_icmp .ge 9, 3) := by decide +kernel
theorem dL_lot_6 : decode cL_lot 6 = .ok (.aload_n 0, 1) := by decide +kernel
theorem dL_lot_7 : decode cL_lot 7 = .ok (.iload_n 1, 1) := by decide +kernel
theorem dL_lot_8 : decode cL_lot 8 = .ok (.iaload, 1) := by decide +kernel
theorem dL_lot_9 : decode cL_lot 9 = .ok (.goto 15, 3) := by decide +kernel
theorem dL_lot_12 : decode cL_lot 12 = .ok (.ldc 7, 2) := by decide +kernel
theorem dL_lot_14 : decode cL_lot 14 = .ok (.iload_n 1, 1) := by decide +kernel
theorem dL_lot_15 : decode cL_lot 15 = .ok (.sipush 1741, 3) := by decide +kernel
theorem dL_lot_18 : decode cL_lot 18 = .ok (.iadd, 1) := by decide +kernel
theorem dL_lot_19 : decode cL_lot 19 = .ok (.imul, 1) := by decide +kernel
theorem dL_lot_20 : decode cL_lot 20 = .ok (.sipush 1559, 3) := by decide +kernel
theorem dL_lot_23 : decode cL_lot 23 = .ok (.iadd, 1) := by decide +kernel
theorem dL_lot_24 : decode cL_lot 24 = .ok (.ireturn, 1) := by decide +kernel
theorem dL_low_0 : decode cL_low 0 = .ok (.iload_n 0, 1) := by decide +kernel
theorem dL_low_1 : decode cL_low 1 = .ok (.ldc 8, 2) := by decide +kernel
theorem dL_low_3 : decode cL_low 3 = .ok (.iand, 1) := by decide +kernel
theorem dL_low_4 : decode cL_low 4 = .ok (.iload_n 1, 1) := by decide +kernel
theorem dL_low_5 : decode cL_low 5 = .ok (.irem, 1) := by decide +kernel
theorem dL_low_6 : decode cL_low 6 = .ok (.ireturn, 1) := by decide +kernel
theorem dL_addStreet_0 : decode cL_addStreet 0 = .ok (.aload_n 0, 1) := by decide +kernel
theorem dL_addStreet_1 : decode cL_addStreet 1 = .ok (.iload_n 1, 1) := by decide +kernel
theorem dL_addStreet_2 : decode cL_addStreet 2 = .ok (.iload_n 2, 1) := by decide +kernel
theorem dL_addStreet_3 : decode cL_addStreet 3 = .ok (.invokevirtual 9, 3) := by decide +kernel
theorem dL_addStreet_6 : decode cL_addStreet 6 = .ok (.ireturn, 1) := by decide +kernel
theorem dL_addStreet_7 : decode cL_addStreet 7 = .ok (.astore_n 3, 1) := by decide +kernel
theorem dL_addStreet_8 : decode cL_addStreet 8 = .ok (.ldc 17, 2) := by decide +kernel
theorem dL_addStreet_10 : decode cL_addStreet 10 = .ok (.ireturn, 1) := by decide +kernel
theorem dL_addStreet_11 : decode cL_addStreet 11 = .ok (.astore_n 3, 1) := by decide +kernel
theorem dL_addStreet_12 : decode cL_addStreet 12 = .ok (.ldc 20, 2) := by decide +kernel
theorem dL_addStreet_14 : decode cL_addStreet 14 = .ok (.ireturn, 1) := by decide +kernel
theorem dL_addPlow_0 : decode cL_addPlow 0 = .ok (.aload_n 0, 1) := by decide +kernel
theorem dL_addPlow_1 : decode cL_addPlow 1 = .ok (.iload_n 1, 1) := by decide +kernel
theorem dL_addPlow_2 : decode cL_addPlow 2 = .ok (.iload_n 2, 1) := by decide +kernel
theorem dL_addPlow_3 : decode cL_addPlow 3 = .ok (.invokevirtual 21, 3) := by decide +kernel
theorem dL_addPlow_6 : decode cL_addPlow 6 = .ok (.ireturn, 1) := by decide +kernel
theorem dL_addPlow_7 : decode cL_addPlow 7 = .ok (.astore_n 3, 1) := by decide +kernel
theorem dL_addPlow_8 : decode cL_addPlow 8 = .ok (.ldc 17, 2) := by decide +kernel
theorem dL_addPlow_10 : decode cL_addPlow 10 = .ok (.ireturn, 1) := by decide +kernel
theorem dL_addPlow_11 : decode cL_addPlow 11 = .ok (.astore_n 3, 1) := by decide +kernel
theorem dL_addPlow_12 : decode cL_addPlow 12 = .ok (.ldc 20, 2) := by decide +kernel
theorem dL_addPlow_14 : decode cL_addPlow 14 = .ok (.ireturn, 1) := by decide +kernel
theorem dL_addStop_0 : decode cL_addStop 0 = .ok (.aload_n 0, 1) := by decide +kernel
theorem dL_addStop_1 : decode cL_addStop 1 = .ok (.iload_n 1, 1) := by decide +kernel
theorem dL_addStop_2 : decode cL_addStop 2 = .ok (.iload_n 2, 1) := by decide +kernel
theorem dL_addStop_3 : decode cL_addStop 3 = .ok (.invokevirtual 24, 3) := by decide +kernel
theorem dL_addStop_6 : decode cL_addStop 6 = .ok (.ireturn, 1) := by decide +kernel
theorem dL_addStop_7 : decode cL_addStop 7 = .ok (.astore_n 3, 1) := by decide +kernel
theorem dL_addStop_8 : decode cL_addStop 8 = .ok (.ldc 29, 2) := by decide +kernel
theorem dL_addStop_10 : decode cL_addStop 10 = .ok (.ireturn, 1) := by decide +kernel
theorem dL_addStop_11 : decode cL_addStop 11 = .ok (.astore_n 3, 1) := by decide +kernel
theorem dL_addStop_12 : decode cL_addStop 12 = .ok (.ldc 20, 2) := by decide +kernel
theorem dL_addStop_14 : decode cL_addStop 14 = .ok (.ireturn, 1) := by decide +kernel
theorem dL_clearRoute_0 : decode cL_clearRoute 0 = .ok (.aload_n 0, 1) := by decide +kernel
theorem dL_clearRoute_1 : decode cL_clearRoute 1 = .ok (.iload_n 1, 1) := by decide +kernel
theorem dL_clearRoute_2 : decode cL_clearRoute 2 = .ok (.invokevirtual 30, 3) := by decide +kernel
theorem dL_clearRoute_5 : decode cL_clearRoute 5 = .ok (.ireturn, 1) := by decide +kernel
theorem dL_clearRoute_6 : decode cL_clearRoute 6 = .ok (.astore_n 2, 1) := by decide +kernel
theorem dL_clearRoute_7 : decode cL_clearRoute 7 = .ok (.ldc 29, 2) := by decide +kernel
theorem dL_clearRoute_9 : decode cL_clearRoute 9 = .ok (.ireturn, 1) := by decide +kernel
theorem dL_exchange_0 : decode cL_exchange 0 = .ok (.aload_n 0, 1) := by decide +kernel
theorem dL_exchange_1 : decode cL_exchange 1 = .ok (.iload_n 1, 1) := by decide +kernel
theorem dL_exchange_2 : decode cL_exchange 2 = .ok (.iload_n 2, 1) := by decide +kernel
theorem dL_exchange_3 : decode cL_exchange 3 = .ok (.invokevirtual 34, 3) := by decide +kernel
theorem dL_exchange_6 : decode cL_exchange 6 = .ok (.ireturn, 1) := by decide +kernel
theorem dL_exchange_7 : decode cL_exchange 7 = .ok (.astore_n 3, 1) := by decide +kernel
theorem dL_exchange_8 : decode cL_exchange 8 = .ok (.ldc 29, 2) := by decide +kernel
theorem dL_exchange_10 : decode cL_exchange 10 = .ok (.ireturn, 1) := by decide +kernel
theorem dL_exchange_11 : decode cL_exchange 11 = .ok (.astore_n 3, 1) := by decide +kernel
theorem dL_exchange_12 : decode cL_exchange 12 = .ok (.ldc 20, 2) := by decide +kernel
theorem dL_exchange_14 : decode cL_exchange 14 = .ok (.ireturn, 1) := by decide +kernel
theorem dL_setTerms_0 : decode cL_setTerms 0 = .ok (.aload_n 0, 1) := by decide +kernel
theorem dL_setTerms_1 : decode cL_setTerms 1 = .ok (.iload_n 1, 1) := by decide +kernel
theorem dL_setTerms_2 : decode cL_setTerms 2 = .ok (.iload_n 2, 1) := by decide +kernel
theorem dL_setTerms_3 : decode cL_setTerms 3 = .ok (.iload_n 3, 1) := by decide +kernel
theorem dL_setTerms_4 : decode cL_setTerms 4 = .ok (.iload 4, 2) := by decide +kernel
theorem dL_setTerms_6 : decode cL_setTerms 6 = .ok (.invokevirtual 37, 3) := by decide +kernel
theorem dL_setTerms_9 : decode cL_setTerms 9 = .ok (.ireturn, 1) := by decide +kernel
theorem dL_setTerms_10 : decode cL_setTerms 10 = .ok (.astore 5, 2) := by decide +kernel
theorem dL_setTerms_12 : decode cL_setTerms 12 = .ok (.ldc 29, 2) := by decide +kernel
theorem dL_setTerms_14 : decode cL_setTerms 14 = .ok (.ireturn, 1) := by decide +kernel
theorem dL_setTerms_15 : decode cL_setTerms 15 = .ok (.astore 5, 2) := by decide +kernel
theorem dL_setTerms_17 : decode cL_setTerms 17 = .ok (.ldc 17, 2) := by decide +kernel
theorem dL_setTerms_19 : decode cL_setTerms 19 = .ok (.ireturn, 1) := by decide +kernel
theorem dL_setSpread_0 : decode cL_setSpread 0 = .ok (.aload_n 0, 1) := by decide +kernel
theorem dL_setSpread_1 : decode cL_setSpread 1 = .ok (.iload_n 1, 1) := by decide +kernel
theorem dL_setSpread_2 : decode cL_setSpread 2 = .ok (.invokevirtual 41, 3) := by decide +kernel
theorem dL_setSpread_5 : decode cL_setSpread 5 = .ok (.ireturn, 1) := by decide +kernel
theorem dL_setSpread_6 : decode cL_setSpread 6 = .ok (.astore_n 2, 1) := by decide +kernel
theorem dL_setSpread_7 : decode cL_setSpread 7 = .ok (.ldc 17, 2) := by decide +kernel
theorem dL_setSpread_9 : decode cL_setSpread 9 = .ok (.ireturn, 1) := by decide +kernel
theorem dL_deliver_0 : decode cL_deliver 0 = .ok (.aload_n 0, 1) := by decide +kernel
theorem dL_deliver_1 : decode cL_deliver 1 = .ok (.iload_n 1, 1) := by decide +kernel
theorem dL_deliver_2 : decode cL_deliver 2 = .ok (.invokevirtual 44, 3) := by decide +kernel
theorem dL_deliver_5 : decode cL_deliver 5 = .ok (.ireturn, 1) := by decide +kernel
theorem dL_deliver_6 : decode cL_deliver 6 = .ok (.astore_n 2, 1) := by decide +kernel
theorem dL_deliver_7 : decode cL_deliver 7 = .ok (.ldc 17, 2) := by decide +kernel
theorem dL_deliver_9 : decode cL_deliver 9 = .ok (.ireturn, 1) := by decide +kernel
theorem dL_deliver_10 : decode cL_deliver 10 = .ok (.astore_n 2, 1) := by decide +kernel
theorem dL_deliver_11 : decode cL_deliver 11 = .ok (.ldc 20, 2) := by decide +kernel
theorem dL_deliver_13 : decode cL_deliver 13 = .ok (.ireturn, 1) := by decide +kernel
theorem dL_run_0 : decode cL_run 0 = .ok (.aload_n 0, 1) := by decide +kernel
theorem dL_run_1 : decode cL_run 1 = .ok (.iload_n 1, 1) := by decide +kernel
theorem dL_run_2 : decode cL_run 2 = .ok (.iload_n 2, 1) := by decide +kernel
theorem dL_run_3 : decode cL_run 3 = .ok (.iload_n 3, 1) := by decide +kernel
theorem dL_run_4 : decode cL_run 4 = .ok (.invokevirtual 47, 3) := by decide +kernel
theorem dL_run_7 : decode cL_run 7 = .ok (.ireturn, 1) := by decide +kernel
theorem dL_run_8 : decode cL_run 8 = .ok (.astore 4, 2) := by decide +kernel
theorem dL_run_10 : decode cL_run 10 = .ok (.ldc 17, 2) := by decide +kernel
theorem dL_run_12 : decode cL_run 12 = .ok (.ireturn, 1) := by decide +kernel
theorem dL_run_13 : decode cL_run 13 = .ok (.astore 4, 2) := by decide +kernel
theorem dL_run_15 : decode cL_run 15 = .ok (.ldc 20, 2) := by decide +kernel
theorem dL_run_17 : decode cL_run 17 = .ok (.ireturn, 1) := by decide +kernel
theorem dL_value_0 : decode cL_value 0 = .ok (.aload_n 0, 1) := by decide +kernel
theorem dL_value_1 : decode cL_value 1 = .ok (.iload_n 1, 1) := by decide +kernel
theorem dL_value_2 : decode cL_value 2 = .ok (.invokevirtual 51, 3) := by decide +kernel
theorem dL_value_5 : decode cL_value 5 = .ok (.ireturn, 1) := by decide +kernel
theorem dL_value_6 : decode cL_value 6 = .ok (.astore_n 2, 1) := by decide +kernel
theorem dL_value_7 : decode cL_value 7 = .ok (.ldc 17, 2) := by decide +kernel
theorem dL_value_9 : decode cL_value 9 = .ok (.ireturn, 1) := by decide +kernel
theorem dL_street_0 : decode cL_street 0 = .ok (.aload_n 0, 1) := by decide +kernel
theorem dL_street_1 : decode cL_street 1 = .ok (.iload_n 1, 1) := by decide +kernel
theorem dL_street_2 : decode cL_street 2 = .ok (.iload_n 2, 1) := by decide +kernel
theorem dL_street_3 : decode cL_street 3 = .ok (.invokevirtual 54, 3) := by decide +kernel
theorem dL_street_6 : decode cL_street 6 = .ok (.ireturn, 1) := by decide +kernel
theorem dL_street_7 : decode cL_street 7 = .ok (.astore_n 3, 1) := by decide +kernel
theorem dL_street_8 : decode cL_street 8 = .ok (.ldc 29, 2) := by decide +kernel
theorem dL_street_10 : decode cL_street 10 = .ok (.ireturn, 1) := by decide +kernel
theorem dL_street_11 : decode cL_street 11 = .ok (.astore_n 3, 1) := by decide +kernel
theorem dL_street_12 : decode cL_street 12 = .ok (.ldc 17, 2) := by decide +kernel
theorem dL_street_14 : decode cL_street 14 = .ok (.ireturn, 1) := by decide +kernel
theorem dL_plow_0 : decode cL_plow 0 = .ok (.aload_n 0, 1) := by decide +kernel
theorem dL_plow_1 : decode cL_plow 1 = .ok (.iload_n 1, 1) := by decide +kernel
theorem dL_plow_2 : decode cL_plow 2 = .ok (.iload_n 2, 1) := by decide +kernel
theorem dL_plow_3 : decode cL_plow 3 = .ok (.invokevirtual 57, 3) := by decide +kernel
theorem dL_plow_6 : decode cL_plow 6 = .ok (.ireturn, 1) := by decide +kernel
theorem dL_plow_7 : decode cL_plow 7 = .ok (.astore_n 3, 1) := by decide +kernel
theorem dL_plow_8 : decode cL_plow 8 = .ok (.ldc 29, 2) := by decide +kernel
theorem dL_plow_10 : decode cL_plow 10 = .ok (.ireturn, 1) := by decide +kernel
theorem dL_plow_11 : decode cL_plow 11 = .ok (.astore_n 3, 1) := by decide +kernel
theorem dL_plow_12 : decode cL_plow 12 = .ok (.ldc 17, 2) := by decide +kernel
theorem dL_plow_14 : decode cL_plow 14 = .ok (.ireturn, 1) := by decide +kernel
theorem dL_stop_0 : decode cL_stop 0 = .ok (.aload_n 0, 1) := by decide +kernel
theorem dL_stop_1 : decode cL_stop 1 = .ok (.iload_n 1, 1) := by decide +kernel
theorem dL_stop_2 : decode cL_stop 2 = .ok (.iload_n 2, 1) := by decide +kernel
theorem dL_stop_3 : decode cL_stop 3 = .ok (.invokevirtual 60, 3) := by decide +kernel
theorem dL_stop_6 : decode cL_stop 6 = .ok (.ireturn, 1) := by decide +kernel
theorem dL_stop_7 : decode cL_stop 7 = .ok (.astore_n 3, 1) := by decide +kernel
theorem dL_stop_8 : decode cL_stop 8 = .ok (.ldc 29, 2) := by decide +kernel
theorem dL_stop_10 : decode cL_stop 10 = .ok (.ireturn, 1) := by decide +kernel
theorem dL_terms_0 : decode cL_terms 0 = .ok (.aload_n 0, 1) := by decide +kernel
theorem dL_terms_1 : decode cL_terms 1 = .ok (.iload_n 1, 1) := by decide +kernel
theorem dL_terms_2 : decode cL_terms 2 = .ok (.iload_n 2, 1) := by decide +kernel
theorem dL_terms_3 : decode cL_terms 3 = .ok (.invokevirtual 63, 3) := by decide +kernel
theorem dL_terms_6 : decode cL_terms 6 = .ok (.ireturn, 1) := by decide +kernel
theorem dL_terms_7 : decode cL_terms 7 = .ok (.astore_n 3, 1) := by decide +kernel
theorem dL_terms_8 : decode cL_terms 8 = .ok (.ldc 29, 2) := by decide +kernel
theorem dL_terms_10 : decode cL_terms 10 = .ok (.ireturn, 1) := by decide +kernel
theorem dL_terms_11 : decode cL_terms 11 = .ok (.astore_n 3, 1) := by decide +kernel
theorem dL_terms_12 : decode cL_terms 12 = .ok (.ldc 17, 2) := by decide +kernel
theorem dL_terms_14 : decode cL_terms 14 = .ok (.ireturn, 1) := by decide +kernel
theorem dL_creditsIn_0 : decode cL_creditsIn 0 = .ok (.aload_n 0, 1) := by decide +kernel
theorem dL_creditsIn_1 : decode cL_creditsIn 1 = .ok (.iload_n 1, 1) := by decide +kernel
theorem dL_creditsIn_2 : decode cL_creditsIn 2 = .ok (.iload_n 2, 1) := by decide +kernel
theorem dL_creditsIn_3 : decode cL_creditsIn 3 = .ok (.iload_n 3, 1) := by decide +kernel
theorem dL_creditsIn_4 : decode cL_creditsIn 4 = .ok (.invokevirtual 66, 3) := by decide +kernel
theorem dL_creditsIn_7 : decode cL_creditsIn 7 = .ok (.ireturn, 1) := by decide +kernel
theorem dL_creditsIn_8 : decode cL_creditsIn 8 = .ok (.astore 4, 2) := by decide +kernel
theorem dL_creditsIn_10 : decode cL_creditsIn 10 = .ok (.ldc 17, 2) := by decide +kernel
theorem dL_creditsIn_12 : decode cL_creditsIn 12 = .ok (.ireturn, 1) := by decide +kernel
theorem dL_bestExchange_0 : decode cL_bestExchange 0 = .ok (.aload_n 0, 1) := by decide +kernel
theorem dL_bestExchange_1 : decode cL_bestExchange 1 = .ok (.iload_n 1, 1) := by decide +kernel
theorem dL_bestExchange_2 : decode cL_bestExchange 2 = .ok (.iload_n 2, 1) := by decide +kernel
theorem dL_bestExchange_3 : decode cL_bestExchange 3 = .ok (.iload_n 3, 1) := by decide +kernel
theorem dL_bestExchange_4 : decode cL_bestExchange 4 = .ok (.iload 4, 2) := by decide +kernel
theorem dL_bestExchange_6 : decode cL_bestExchange 6 = .ok (.invokevirtual 69, 3) := by decide +kernel
theorem dL_bestExchange_9 : decode cL_bestExchange 9 = .ok (.ireturn, 1) := by decide +kernel
theorem dL_bestExchange_10 : decode cL_bestExchange 10 = .ok (.astore 5, 2) := by decide +kernel
theorem dL_bestExchange_12 : decode cL_bestExchange 12 = .ok (.ldc 29, 2) := by decide +kernel
theorem dL_bestExchange_14 : decode cL_bestExchange 14 = .ok (.ireturn, 1) := by decide +kernel
theorem dL_bestExchange_15 : decode cL_bestExchange 15 = .ok (.astore 5, 2) := by decide +kernel
theorem dL_bestExchange_17 : decode cL_bestExchange 17 = .ok (.ldc 17, 2) := by decide +kernel
theorem dL_bestExchange_19 : decode cL_bestExchange 19 = .ok (.ireturn, 1) := by decide +kernel
theorem dL_leastSpeed_0 : decode cL_leastSpeed 0 = .ok (.aload_n 0, 1) := by decide +kernel
theorem dL_leastSpeed_1 : decode cL_leastSpeed 1 = .ok (.iload_n 1, 1) := by decide +kernel
theorem dL_leastSpeed_2 : decode cL_leastSpeed 2 = .ok (.iload_n 2, 1) := by decide +kernel
theorem dL_leastSpeed_3 : decode cL_leastSpeed 3 = .ok (.iload_n 3, 1) := by decide +kernel
theorem dL_leastSpeed_4 : decode cL_leastSpeed 4 = .ok (.iload 4, 2) := by decide +kernel
theorem dL_leastSpeed_6 : decode cL_leastSpeed 6 = .ok (.invokevirtual 72, 3) := by decide +kernel
theorem dL_leastSpeed_9 : decode cL_leastSpeed 9 = .ok (.ireturn, 1) := by decide +kernel
theorem dL_leastSpeed_10 : decode cL_leastSpeed 10 = .ok (.astore 5, 2) := by decide +kernel
theorem dL_leastSpeed_12 : decode cL_leastSpeed 12 = .ok (.ldc 29, 2) := by decide +kernel
theorem dL_leastSpeed_14 : decode cL_leastSpeed 14 = .ok (.ireturn, 1) := by decide +kernel
theorem dL_leastSpeed_15 : decode cL_leastSpeed 15 = .ok (.astore 5, 2) := by decide +kernel
theorem dL_leastSpeed_17 : decode cL_leastSpeed 17 = .ok (.ldc 17, 2) := by decide +kernel
theorem dL_leastSpeed_19 : decode cL_leastSpeed 19 = .ok (.ireturn, 1) := by decide +kernel
theorem dL_emptyIn_0 : decode cL_emptyIn 0 = .ok (.aload_n 0, 1) := by decide +kernel
theorem dL_emptyIn_1 : decode cL_emptyIn 1 = .ok (.iload_n 1, 1) := by decide +kernel
theorem dL_emptyIn_2 : decode cL_emptyIn 2 = .ok (.iload_n 2, 1) := by decide +kernel
theorem dL_emptyIn_3 : decode cL_emptyIn 3 = .ok (.invokevirtual 75, 3) := by decide +kernel
theorem dL_emptyIn_6 : decode cL_emptyIn 6 = .ok (.ireturn, 1) := by decide +kernel
theorem dL_emptyIn_7 : decode cL_emptyIn 7 = .ok (.astore_n 3, 1) := by decide +kernel
theorem dL_emptyIn_8 : decode cL_emptyIn 8 = .ok (.ldc 17, 2) := by decide +kernel
theorem dL_emptyIn_10 : decode cL_emptyIn 10 = .ok (.ireturn, 1) := by decide +kernel
theorem dL_append_0 : decode cL_append 0 = .ok (.aload_n 0, 1) := by decide +kernel
theorem dL_append_1 : decode cL_append 1 = .ok (.iload_n 1, 1) := by decide +kernel
theorem dL_append_2 : decode cL_append 2 = .ok (.invokevirtual 78, 3) := by decide +kernel
theorem dL_append_5 : decode cL_append 5 = .ok (.ireturn, 1) := by decide +kernel
theorem dL_append_6 : decode cL_append 6 = .ok (.astore_n 2, 1) := by decide +kernel
theorem dL_append_7 : decode cL_append 7 = .ok (.ldc 17, 2) := by decide +kernel
theorem dL_append_9 : decode cL_append 9 = .ok (.ireturn, 1) := by decide +kernel
theorem dL_append_10 : decode cL_append 10 = .ok (.astore_n 2, 1) := by decide +kernel
theorem dL_append_11 : decode cL_append 11 = .ok (.ldc 20, 2) := by decide +kernel
theorem dL_append_13 : decode cL_append 13 = .ok (.ireturn, 1) := by decide +kernel
theorem dL_runText_0 : decode cL_runText 0 = .ok (.aload_n 0, 1) := by decide +kernel
theorem dL_runText_1 : decode cL_runText 1 = .ok (.invokevirtual 81, 3) := by decide +kernel
theorem dL_runText_4 : decode cL_runText 4 = .ok (.ireturn, 1) := by decide +kernel
theorem dL_runText_5 : decode cL_runText 5 = .ok (.astore_n 1, 1) := by decide +kernel
theorem dL_runText_6 : decode cL_runText 6 = .ok (.ldc 20, 2) := by decide +kernel
theorem dL_runText_8 : decode cL_runText 8 = .ok (.ireturn, 1) := by decide +kernel
theorem dL_undo_0 : decode cL_undo 0 = .ok (.aload_n 0, 1) := by decide +kernel
theorem dL_undo_1 : decode cL_undo 1 = .ok (.invokevirtual 85, 3) := by decide +kernel
theorem dL_undo_4 : decode cL_undo 4 = .ok (.ireturn, 1) := by decide +kernel
theorem dL_undo_5 : decode cL_undo 5 = .ok (.astore_n 1, 1) := by decide +kernel
theorem dL_undo_6 : decode cL_undo 6 = .ok (.ldc 20, 2) := by decide +kernel
theorem dL_undo_8 : decode cL_undo 8 = .ok (.ireturn, 1) := by decide +kernel
theorem dL_sound_0 : decode cL_sound 0 = .ok (.aload_n 0, 1) := by decide +kernel
theorem dL_sound_1 : decode cL_sound 1 = .ok (.iconst 1, 1) := by decide +kernel
theorem dL_sound_2 : decode cL_sound 2 = .ok (.invokestatic 88, 3) := by decide +kernel
theorem dL_sound_5 : decode cL_sound 5 = .ok (.istore_n 1, 1) := by decide +kernel
theorem dL_sound_6 : decode cL_sound 6 = .ok (.aload_n 0, 1) := by decide +kernel
theorem dL_sound_7 : decode cL_sound 7 = .ok (.iconst 2, 1) := by decide +kernel
theorem dL_sound_8 : decode cL_sound 8 = .ok (.invokestatic 88, 3) := by decide +kernel
theorem dL_sound_11 : decode cL_sound 11 = .ok (.istore_n 2, 1) := by decide +kernel
theorem dL_sound_12 : decode cL_sound 12 = .ok (.iconst 0, 1) := by decide +kernel
theorem dL_sound_13 : decode cL_sound 13 = .ok (.istore_n 3, 1) := by decide +kernel
theorem dL_sound_14 : decode cL_sound 14 = .ok (.iconst 0, 1) := by decide +kernel
theorem dL_sound_15 : decode cL_sound 15 = .ok (.istore 4, 2) := by decide +kernel
theorem dL_sound_17 : decode cL_sound 17 = .ok (.iconst 0, 1) := by decide +kernel
theorem dL_sound_18 : decode cL_sound 18 = .ok (.istore 5, 2) := by decide +kernel
theorem dL_sound_20 : decode cL_sound 20 = .ok (.ldc2_w 93, 3) := by decide +kernel
theorem dL_sound_23 : decode cL_sound 23 = .ok (.dstore 6, 2) := by decide +kernel
theorem dL_sound_25 : decode cL_sound 25 = .ok (.dconst 0, 1) := by decide +kernel
theorem dL_sound_26 : decode cL_sound 26 = .ok (.dstore 8, 2) := by decide +kernel
theorem dL_sound_28 : decode cL_sound 28 = .ok (.iconst 0, 1) := by decide +kernel
theorem dL_sound_29 : decode cL_sound 29 = .ok (.istore 10, 2) := by decide +kernel
theorem dL_sound_31 : decode cL_sound 31 = .ok (.iload 10, 2) := by decide +kernel
theorem dL_sound_33 : decode cL_sound 33 = .ok (.iload_n 1, 1) := by decide +kernel
theorem dL_sound_34 : decode cL_sound 34 = .ok (.if_icmp .ge 241, 3) := by decide +kernel
theorem dL_sound_37 : decode cL_sound 37 = .ok (.aload_n 0, 1) := by decide +kernel
theorem dL_sound_38 : decode cL_sound 38 = .ok (.iload 10, 2) := by decide +kernel
theorem dL_sound_40 : decode cL_sound 40 = .ok (.iconst 2, 1) := by decide +kernel
theorem dL_sound_41 : decode cL_sound 41 = .ok (.invokestatic 95, 3) := by decide +kernel
theorem dL_sound_44 : decode cL_sound 44 = .ok (.istore 11, 2) := by decide +kernel
theorem dL_sound_46 : decode cL_sound 46 = .ok (.iload 11, 2) := by decide +kernel
theorem dL_sound_48 : decode cL_sound 48 = .ok (.aload_n 0, 1) := by decide +kernel
theorem dL_sound_49 : decode cL_sound 49 = .ok (.aload_n 0, 1) := by decide +kernel
theorem dL_sound_50 : decode cL_sound 50 = .ok (.iload 10, 2) := by decide +kernel
theorem dL_sound_52 : decode cL_sound 52 = .ok (.iconst 1, 1) := by decide +kernel
theorem dL_sound_53 : decode cL_sound 53 = .ok (.invokestatic 95, 3) := by decide +kernel
theorem dL_sound_56 : decode cL_sound 56 = .ok (.iconst 0, 1) := by decide +kernel
theorem dL_sound_57 : decode cL_sound 57 = .ok (.invokestatic 98, 3) := by decide +kernel
theorem dL_sound_60 : decode cL_sound 60 = .ok (.if_icmp .lt 7, 3) := by decide +kernel
theorem dL_sound_63 : decode cL_sound 63 = .ok (.iconst 1, 1) := by decide +kernel
theorem dL_sound_64 : decode cL_sound 64 = .ok (.goto 4, 3) := by decide +kernel
theorem dL_sound_67 : decode cL_sound 67 = .ok (.iconst 0, 1) := by decide +kernel
theorem dL_sound_68 : decode cL_sound 68 = .ok (.istore 12, 2) := by decide +kernel
theorem dL_sound_70 : decode cL_sound 70 = .ok (.iload_n 3, 1) := by decide +kernel
theorem dL_sound_71 : decode cL_sound 71 = .ok (.aload_n 0, 1) := by decide +kernel
theorem dL_sound_72 : decode cL_sound 72 = .ok (.iload 10, 2) := by decide +kernel
theorem dL_sound_74 : decode cL_sound 74 = .ok (.bipush 6, 2) := by decide +kernel
theorem dL_sound_76 : decode cL_sound 76 = .ok (.invokestatic 95, 3) := by decide +kernel
theorem dL_sound_79 : decode cL_sound 79 = .ok (.iadd, 1) := by decide +kernel
theorem dL_sound_80 : decode cL_sound 80 = .ok (.istore_n 3, 1) := by decide +kernel
theorem dL_sound_81 : decode cL_sound 81 = .ok (.iload 11, 2) := by decide +kernel
theorem dL_sound_83 : decode cL_sound 83 = .ok (.i2d, 1) := by decide +kernel
theorem dL_sound_84 : decode cL_sound 84 = .ok (.dload 6, 2) := by decide +kernel
theorem dL_sound_86 : decode cL_sound 86 = .ok (.dcmp .g, 1) := by decide +kernel
theorem dL_sound_87 : decode cL_sound 87 = .ok (.ifCond .ge 9, 3) := by decide +kernel
theorem dL_sound_90 : decode cL_sound 90 = .ok (.iload 11, 2) := by decide +kernel
theorem dL_sound_92 : decode cL_sound 92 = .ok (.i2d, 1) := by decide +kernel
theorem dL_sound_93 : decode cL_sound 93 = .ok (.goto 5, 3) := by decide +kernel
theorem dL_sound_96 : decode cL_sound 96 = .ok (.dload 6, 2) := by decide +kernel
theorem dL_sound_98 : decode cL_sound 98 = .ok (.dstore 6, 2) := by decide +kernel
theorem dL_sound_100 : decode cL_sound 100 = .ok (.iload 11, 2) := by decide +kernel
theorem dL_sound_102 : decode cL_sound 102 = .ok (.i2d, 1) := by decide +kernel
theorem dL_sound_103 : decode cL_sound 103 = .ok (.dload 8, 2) := by decide +kernel
theorem dL_sound_105 : decode cL_sound 105 = .ok (.dcmp .l, 1) := by decide +kernel
theorem dL_sound_106 : decode cL_sound 106 = .ok (.ifCond .le 9, 3) := by decide +kernel
theorem dL_sound_109 : decode cL_sound 109 = .ok (.iload 11, 2) := by decide +kernel
theorem dL_sound_111 : decode cL_sound 111 = .ok (.i2d, 1) := by decide +kernel
theorem dL_sound_112 : decode cL_sound 112 = .ok (.goto 5, 3) := by decide +kernel
theorem dL_sound_115 : decode cL_sound 115 = .ok (.dload 8, 2) := by decide +kernel
theorem dL_sound_117 : decode cL_sound 117 = .ok (.dstore 8, 2) := by decide +kernel
theorem dL_sound_119 : decode cL_sound 119 = .ok (.iload 11, 2) := by decide +kernel
theorem dL_sound_121 : decode cL_sound 121 = .ok (.ifCond .lt 146, 3) := by decide +kernel
theorem dL_sound_124 : decode cL_sound 124 = .ok (.aload_n 0, 1) := by decide +kernel
theorem dL_sound_125 : decode cL_sound 125 = .ok (.iload 10, 2) := by decide +kernel
theorem dL_sound_127 : decode cL_sound 127 = .ok (.iconst 3, 1) := by decide +kernel
theorem dL_sound_128 : decode cL_sound 128 = .ok (.invokestatic 95, 3) := by decide +kernel
theorem dL_sound_131 : decode cL_sound 131 = .ok (.ifCond .lt 136, 3) := by decide +kernel
theorem dL_sound_134 : decode cL_sound 134 = .ok (.aload_n 0, 1) := by decide +kernel
theorem dL_sound_135 : decode cL_sound 135 = .ok (.iload 10, 2) := by decide +kernel
theorem dL_sound_137 : decode cL_sound 137 = .ok (.iconst 3, 1) := by decide +kernel
theorem dL_sound_138 : decode cL_sound 138 = .ok (.invokestatic 95, 3) := by decide +kernel
theorem dL_sound_141 : decode cL_sound 141 = .ok (.bipush 100, 2) := by decide +kernel
theorem dL_sound_143 : decode cL_sound 143 = .ok (.if_icmp .gt 124, 3) := by decide +kernel
theorem dL_sound_146 : decode cL_sound 146 = .ok (.aload_n 0, 1) := by decide +kernel
theorem dL_sound_147 : decode cL_sound 147 = .ok (.iload 10, 2) := by decide +kernel
theorem dL_sound_149 : decode cL_sound 149 = .ok (.iconst 4, 1) := by decide +kernel
theorem dL_sound_150 : decode cL_sound 150 = .ok (.invokestatic 95, 3) := by decide +kernel
theorem dL_sound_153 : decode cL_sound 153 = .ok (.ifCond .lt 114, 3) := by decide +kernel
theorem dL_sound_156 : decode cL_sound 156 = .ok (.aload_n 0, 1) := by decide +kernel
theorem dL_sound_157 : decode cL_sound 157 = .ok (.iload 10, 2) := by decide +kernel
theorem dL_sound_159 : decode cL_sound 159 = .ok (.iconst 4, 1) := by decide +kernel
theorem dL_sound_160 : decode cL_sound 160 = .ok (.invokestatic 95, 3) := by decide +kernel
theorem dL_sound_163 : decode cL_sound 163 = .ok (.bipush 100, 2) := by decide +kernel
theorem dL_sound_165 : decode cL_sound 165 = .ok (.if_icmp .gt 102, 3) := by decide +kernel
theorem dL_sound_168 : decode cL_sound 168 = .ok (.aload_n 0, 1) := by decide +kernel
theorem dL_sound_169 : decode cL_sound 169 = .ok (.iload 10, 2) := by decide +kernel
theorem dL_sound_171 : decode cL_sound 171 = .ok (.iconst 5, 1) := by decide +kernel
theorem dL_sound_172 : decode cL_sound 172 = .ok (.invokestatic 95, 3) := by decide +kernel
theorem dL_sound_175 : decode cL_sound 175 = .ok (.ifCond .lt 92, 3) := by decide +kernel
theorem dL_sound_178 : decode cL_sound 178 = .ok (.aload_n 0, 1) := by decide +kernel
theorem dL_sound_179 : decode cL_sound 179 = .ok (.iload 10, 2) := by decide +kernel
theorem dL_sound_181 : decode cL_sound 181 = .ok (.iconst 5, 1) := by decide +kernel
theorem dL_sound_182 : decode cL_sound 182 = .ok (.invokestatic 95, 3) := by decide +kernel
theorem dL_sound_185 : decode cL_sound 185 = .ok (.aload_n 0, 1) := by decide +kernel
theorem dL_sound_186 : decode cL_sound 186 = .ok (.iconst 0, 1) := by decide +kernel
theorem dL_sound_187 : decode cL_sound 187 = .ok (.invokestatic 88, 3) := by decide +kernel
theorem dL_sound_190 : decode cL_sound 190 = .ok (.if_icmp .gt 77, 3) := by decide +kernel
theorem dL_sound_193 : decode cL_sound 193 = .ok (.aload_n 0, 1) := by decide +kernel
theorem dL_sound_194 : decode cL_sound 194 = .ok (.iload 10, 2) := by decide +kernel
theorem dL_sound_196 : decode cL_sound 196 = .ok (.bipush 6, 2) := by decide +kernel
theorem dL_sound_198 : decode cL_sound 198 = .ok (.invokestatic 95, 3) := by decide +kernel
theorem dL_sound_201 : decode cL_sound 201 = .ok (.iconst 1, 1) := by decide +kernel
theorem dL_sound_202 : decode cL_sound 202 = .ok (.if_icmp .ne 7, 3) := by decide +kernel
theorem dL_sound_205 : decode cL_sound 205 = .ok (.iconst 1, 1) := by decide +kernel
theorem dL_sound_206 : decode cL_sound 206 = .ok (.goto 4, 3) := by decide +kernel
theorem dL_sound_209 : decode cL_sound 209 = .ok (.iconst 0, 1) := by decide +kernel
theorem dL_sound_210 : decode cL_sound 210 = .ok (.iload 12, 2) := by decide +kernel
theorem dL_sound_212 : decode cL_sound 212 = .ok (.if_icmp .ne 55, 3) := by decide +kernel
theorem dL_sound_215 : decode cL_sound 215 = .ok (.aload_n 0, 1) := by decide +kernel
theorem dL_sound_216 : decode cL_sound 216 = .ok (.iload 10, 2) := by decide +kernel
theorem dL_sound_218 : decode cL_sound 218 = .ok (.bipush 7, 2) := by decide +kernel
theorem dL_sound_220 : decode cL_sound 220 = .ok (.invokestatic 95, 3) := by decide +kernel
theorem dL_sound_223 : decode cL_sound 223 = .ok (.ifCond .ne 7, 3) := by decide +kernel
theorem dL_sound_226 : decode cL_sound 226 = .ok (.iconst 1, 1) := by decide +kernel
theorem dL_sound_227 : decode cL_sound 227 = .ok (.goto 4, 3) := by decide +kernel
theorem dL_sound_230 : decode cL_sound 230 = .ok (.iconst 0, 1) := by decide +kernel
theorem dL_sound_231 : decode cL_sound 231 = .ok (.aload_n 0, 1) := by decide +kernel
theorem dL_sound_232 : decode cL_sound 232 = .ok (.iload 10, 2) := by decide +kernel
theorem dL_sound_234 : decode cL_sound 234 = .ok (.bipush 8, 2) := by decide +kernel
theorem dL_sound_236 : decode cL_sound 236 = .ok (.invokestatic 95, 3) := by decide +kernel
theorem dL_sound_239 : decode cL_sound 239 = .ok (.iconst (-1), 1) := by decide +kernel
theorem dL_sound_240 : decode cL_sound 240 = .ok (.if_icmp .ne 7, 3) := by decide +kernel
theorem dL_sound_243 : decode cL_sound 243 = .ok (.iconst 1, 1) := by decide +kernel
theorem dL_sound_244 : decode cL_sound 244 = .ok (.goto 4, 3) := by decide +kernel
theorem dL_sound_247 : decode cL_sound 247 = .ok (.iconst 0, 1) := by decide +kernel
theorem dL_sound_248 : decode cL_sound 248 = .ok (.if_icmp .ne 19, 3) := by decide +kernel
theorem dL_sound_251 : decode cL_sound 251 = .ok (.aload_n 0, 1) := by decide +kernel
theorem dL_sound_252 : decode cL_sound 252 = .ok (.iload 10, 2) := by decide +kernel
theorem dL_sound_254 : decode cL_sound 254 = .ok (.bipush 8, 2) := by decide +kernel
theorem dL_sound_256 : decode cL_sound 256 = .ok (.invokestatic 95, 3) := by decide +kernel
theorem dL_sound_259 : decode cL_sound 259 = .ok (.aload_n 0, 1) := by decide +kernel
theorem dL_sound_260 : decode cL_sound 260 = .ok (.iconst 0, 1) := by decide +kernel
theorem dL_sound_261 : decode cL_sound 261 = .ok (.invokestatic 88, 3) := by decide +kernel
theorem dL_sound_264 : decode cL_sound 264 = .ok (.if_icmp .lt 5, 3) := by decide +kernel
theorem dL_sound_267 : decode cL_sound 267 = .ok (.iconst 0, 1) := by decide +kernel
theorem dL_sound_268 : decode cL_sound 268 = .ok (.ireturn, 1) := by decide +kernel
theorem dL_sound_269 : decode cL_sound 269 = .ok (.iinc 10 1, 3) := by decide +kernel
theorem dL_sound_272 : decode cL_sound 272 = .ok (.goto (-241), 3) := by decide +kernel
theorem dL_sound_275 : decode cL_sound 275 = .ok (.iconst 0, 1) := by decide +kernel
theorem dL_sound_276 : decode cL_sound 276 = .ok (.istore 10, 2) := by decide +kernel
theorem dL_sound_278 : decode cL_sound 278 = .ok (.iload 10, 2) := by decide +kernel
theorem dL_sound_280 : decode cL_sound 280 = .ok (.iload_n 2, 1) := by decide +kernel
theorem dL_sound_281 : decode cL_sound 281 = .ok (.if_icmp .ge 187, 3) := by decide +kernel
theorem dL_sound_284 : decode cL_sound 284 = .ok (.aload_n 0, 1) := by decide +kernel
theorem dL_sound_285 : decode cL_sound 285 = .ok (.iload 10, 2) := by decide +kernel
theorem dL_sound_287 : decode cL_sound 287 = .ok (.iconst 3, 1) := by decide +kernel
theorem dL_sound_288 : decode cL_sound 288 = .ok (.invokestatic 100, 3) := by decide +kernel
theorem dL_sound_291 : decode cL_sound 291 = .ok (.istore 11, 2) := by decide +kernel
theorem dL_sound_293 : decode cL_sound 293 = .ok (.aload_n 0, 1) := by decide +kernel
theorem dL_sound_294 : decode cL_sound 294 = .ok (.iload 10, 2) := by decide +kernel
theorem dL_sound_296 : decode cL_sound 296 = .ok (.iconst 4, 1) := by decide +kernel
theorem dL_sound_297 : decode cL_sound 297 = .ok (.invokestatic 100, 3) := by decide +kernel
theorem dL_sound_300 : decode cL_sound 300 = .ok (.istore 12, 2) := by decide +kernel
theorem dL_sound_302 : decode cL_sound 302 = .ok (.aload_n 0, 1) := by decide +kernel
theorem dL_sound_303 : decode cL_sound 303 = .ok (.iload 10, 2) := by decide +kernel
theorem dL_sound_305 : decode cL_sound 305 = .ok (.iconst 5, 1) := by decide +kernel
theorem dL_sound_306 : decode cL_sound 306 = .ok (.invokestatic 100, 3) := by decide +kernel
theorem dL_sound_309 : decode cL_sound 309 = .ok (.istore 13, 2) := by decide +kernel
theorem dL_sound_311 : decode cL_sound 311 = .ok (.iload 4, 2) := by decide +kernel
theorem dL_sound_313 : decode cL_sound 313 = .ok (.aload_n 0, 1) := by decide +kernel
theorem dL_sound_314 : decode cL_sound 314 = .ok (.iload 10, 2) := by decide +kernel
theorem dL_sound_316 : decode cL_sound 316 = .ok (.iconst 2, 1) := by decide +kernel
theorem dL_sound_317 : decode cL_sound 317 = .ok (.invokestatic 100, 3) := by decide +kernel
theorem dL_sound_320 : decode cL_sound 320 = .ok (.iadd, 1) := by decide +kernel
theorem dL_sound_321 : decode cL_sound 321 = .ok (.istore 4, 2) := by decide +kernel
theorem dL_sound_323 : decode cL_sound 323 = .ok (.aload_n 0, 1) := by decide +kernel
theorem dL_sound_324 : decode cL_sound 324 = .ok (.iload 10, 2) := by decide +kernel
theorem dL_sound_326 : decode cL_sound 326 = .ok (.iconst 2, 1) := by decide +kernel
theorem dL_sound_327 : decode cL_sound 327 = .ok (.invokestatic 100, 3) := by decide +kernel
theorem dL_sound_330 : decode cL_sound 330 = .ok (.ifCond .lt 130, 3) := by decide +kernel
theorem dL_sound_333 : decode cL_sound 333 = .ok (.aload_n 0, 1) := by decide +kernel
theorem dL_sound_334 : decode cL_sound 334 = .ok (.iload 10, 2) := by decide +kernel
theorem dL_sound_336 : decode cL_sound 336 = .ok (.iconst 2, 1) := by decide +kernel
theorem dL_sound_337 : decode cL_sound 337 = .ok (.invokestatic 100, 3) := by decide +kernel
theorem dL_sound_340 : decode cL_sound 340 = .ok (.aload_n 0, 1) := by decide +kernel
theorem dL_sound_341 : decode cL_sound 341 = .ok (.iload 10, 2) := by decide +kernel
theorem dL_sound_343 : decode cL_sound 343 = .ok (.iconst 1, 1) := by decide +kernel
theorem dL_sound_344 : decode cL_sound 344 = .ok (.invokestatic 100, 3) := by decide +kernel
theorem dL_sound_347 : decode cL_sound 347 = .ok (.if_icmp .gt 113, 3) := by decide +kernel
theorem dL_sound_350 : decode cL_sound 350 = .ok (.iload 11, 2) := by decide +kernel
theorem dL_sound_352 : decode cL_sound 352 = .ok (.ifCond .lt 108, 3) := by decide +kernel
theorem dL_sound_355 : decode cL_sound 355 = .ok (.iload 11, 2) := by decide +kernel
theorem dL_sound_357 : decode cL_sound 357 = .ok (.bipush 12, 2) := by decide +kernel
theorem dL_sound_359 : decode cL_sound 359 = .ok (.if_icmp .gt 101, 3) := by decide +kernel
theorem dL_sound_362 : decode cL_sound 362 = .ok (.iload 12, 2) := by decide +kernel
theorem dL_sound_364 : decode cL_sound 364 = .ok (.ifCond .lt 96, 3) := by decide +kernel
theorem dL_sound_367 : decode cL_sound 367 = .ok (.iload 12, 2) := by decide +kernel
theorem dL_sound_369 : decode cL_sound 369 = .ok (.ifCond .le 10, 3) := by decide +kernel
theorem dL_sound_372 : decode cL_sound 372 = .ok (.iload 12, 2) := by decide +kernel
theorem dL_sound_374 : decode cL_sound 374 = .ok (.iload 11, 2) := by decide +kernel
theorem dL_sound_376 : decode cL_sound 376 = .ok (.if_icmp .ge 84, 3) := by decide +kernel
theorem dL_sound_379 : decode cL_sound 379 = .ok (.iload 13, 2) := by decide +kernel
theorem dL_sound_381 : decode cL_sound 381 = .ok (.ifCond .lt 79, 3) := by decide +kernel
theorem dL_sound_384 : decode cL_sound 384 = .ok (.iload 13, 2) := by decide +kernel
theorem dL_sound_386 : decode cL_sound 386 = .ok (.ifCond .le 21, 3) := by decide +kernel
theorem dL_sound_389 : decode cL_sound 389 = .ok (.iload 13, 2) := by decide +kernel
theorem dL_sound_391 : decode cL_sound 391 = .ok (.aload_n 0, 1) := by decide +kernel
theorem dL_sound_392 : decode cL_sound 392 = .ok (.aload_n 0, 1) := by decide +kernel
theorem dL_sound_393 : decode cL_sound 393 = .ok (.iload 10, 2) := by decide +kernel
theorem dL_sound_395 : decode cL_sound 395 = .ok (.iload 12, 2) := by decide +kernel
theorem dL_sound_397 : decode cL_sound 397 = .ok (.invokestatic 102, 3) := by decide +kernel
theorem dL_sound_400 : decode cL_sound 400 = .ok (.iconst 0, 1) := by decide +kernel
theorem dL_sound_401 : decode cL_sound 401 = .ok (.invokestatic 95, 3) := by decide +kernel
theorem dL_sound_404 : decode cL_sound 404 = .ok (.if_icmp .ge 56, 3) := by decide +kernel
theorem dL_sound_407 : decode cL_sound 407 = .ok (.aload_n 0, 1) := by decide +kernel
theorem dL_sound_408 : decode cL_sound 408 = .ok (.iload 10, 2) := by decide +kernel
theorem dL_sound_410 : decode cL_sound 410 = .ok (.bipush 7, 2) := by decide +kernel
theorem dL_sound_412 : decode cL_sound 412 = .ok (.invokestatic 100, 3) := by decide +kernel
theorem dL_sound_415 : decode cL_sound 415 = .ok (.aload_n 0, 1) := by decide +kernel
theorem dL_sound_416 : decode cL_sound 416 = .ok (.iload 10, 2) := by decide +kernel
theorem dL_sound_418 : decode cL_sound 418 = .ok (.iconst 0, 1) := by decide +kernel
theorem dL_sound_419 : decode cL_sound 419 = .ok (.invokestatic 100, 3) := by decide +kernel
theorem dL_sound_422 : decode cL_sound 422 = .ok (.aload_n 0, 1) := by decide +kernel
theorem dL_sound_423 : decode cL_sound 423 = .ok (.iconst 0, 1) := by decide +kernel
theorem dL_sound_424 : decode cL_sound 424 = .ok (.invokestatic 88, 3) := by decide +kernel
theorem dL_sound_427 : decode cL_sound 427 = .ok (.imul, 1) := by decide +kernel
theorem dL_sound_428 : decode cL_sound 428 = .ok (.if_icmp .gt 32, 3) := by decide +kernel
theorem dL_sound_431 : decode cL_sound 431 = .ok (.aload_n 0, 1) := by decide +kernel
theorem dL_sound_432 : decode cL_sound 432 = .ok (.iload 10, 2) := by decide +kernel
theorem dL_sound_434 : decode cL_sound 434 = .ok (.bipush 6, 2) := by decide +kernel
theorem dL_sound_436 : decode cL_sound 436 = .ok (.invokestatic 100, 3) := by decide +kernel
theorem dL_sound_439 : decode cL_sound 439 = .ok (.aload_n 0, 1) := by decide +kernel
theorem dL_sound_440 : decode cL_sound 440 = .ok (.iconst 0, 1) := by decide +kernel
theorem dL_sound_441 : decode cL_sound 441 = .ok (.invokestatic 88, 3) := by decide +kernel
theorem dL_sound_444 : decode cL_sound 444 = .ok (.if_icmp .gt 16, 3) := by decide +kernel
theorem dL_sound_447 : decode cL_sound 447 = .ok (.aload_n 0, 1) := by decide +kernel
theorem dL_sound_448 : decode cL_sound 448 = .ok (.iload 10, 2) := by decide +kernel
theorem dL_sound_450 : decode cL_sound 450 = .ok (.iload 11, 2) := by decide +kernel
theorem dL_sound_452 : decode cL_sound 452 = .ok (.invokestatic 102, 3) := by decide +kernel
theorem dL_sound_455 : decode cL_sound 455 = .ok (.ldc 29, 2) := by decide +kernel
theorem dL_sound_457 : decode cL_sound 457 = .ok (.if_icmp .eq 5, 3) := by decide +kernel
theorem dL_sound_460 : decode cL_sound 460 = .ok (.iconst 0, 1) := by decide +kernel
theorem dL_sound_461 : decode cL_sound 461 = .ok (.ireturn, 1) := by decide +kernel
theorem dL_sound_462 : decode cL_sound 462 = .ok (.iinc 10 1, 3) := by decide +kernel
theorem dL_sound_465 : decode cL_sound 465 = .ok (.goto (-187), 3) := by decide +kernel
theorem dL_sound_468 : decode cL_sound 468 = .ok (.iconst 0, 1) := by decide +kernel
theorem dL_sound_469 : decode cL_sound 469 = .ok (.istore 10, 2) := by decide +kernel
theorem dL_sound_471 : decode cL_sound 471 = .ok (.iload 10, 2) := by decide +kernel
theorem dL_sound_473 : decode cL_sound 473 = .ok (.iconst 3, 1) := by decide +kernel
theorem dL_sound_474 : decode cL_sound 474 = .ok (.if_icmp .ge 21, 3) := by decide +kernel
theorem dL_sound_477 : decode cL_sound 477 = .ok (.iload 5, 2) := by decide +kernel
theorem dL_sound_479 : decode cL_sound 479 = .ok (.aload_n 0, 1) := by decide +kernel
theorem dL_sound_480 : decode cL_sound 480 = .ok (.iload 10, 2) := by decide +kernel
theorem dL_sound_482 : decode cL_sound 482 = .ok (.iconst 3, 1) := by decide +kernel
theorem dL_sound_483 : decode cL_sound 483 = .ok (.invokestatic 98, 3) := by decide +kernel
theorem dL_sound_486 : decode cL_sound 486 = .ok (.iadd, 1) := by decide +kernel
theorem dL_sound_487 : decode cL_sound 487 = .ok (.istore 5, 2) := by decide +kernel
theorem dL_sound_489 : decode cL_sound 489 = .ok (.iinc 10 1, 3) := by decide +kernel
theorem dL_sound_492 : decode cL_sound 492 = .ok (.goto (-21), 3) := by decide +kernel
theorem dL_sound_495 : decode cL_sound 495 = .ok (.aload_n 0, 1) := by decide +kernel
theorem dL_sound_496 : decode cL_sound 496 = .ok (.invokevirtual 104, 3) := by decide +kernel
theorem dL_sound_499 : decode cL_sound 499 = .ok (.dstore 10, 2) := by decide +kernel
theorem dL_sound_501 : decode cL_sound 501 = .ok (.iload_n 1, 1) := by decide +kernel
theorem dL_sound_502 : decode cL_sound 502 = .ok (.ifCond .ne 18, 3) := by decide +kernel
theorem dL_sound_505 : decode cL_sound 505 = .ok (.dload 10, 2) := by decide +kernel
theorem dL_sound_507 : decode cL_sound 507 = .ok (.dconst 0, 1) := by decide +kernel
theorem dL_sound_508 : decode cL_sound 508 = .ok (.dcmp .l, 1) := by decide +kernel
theorem dL_sound_509 : decode cL_sound 509 = .ok (.ifCond .ne 7, 3) := by decide +kernel
theorem dL_sound_512 : decode cL_sound 512 = .ok (.iconst 1, 1) := by decide +kernel
theorem dL_sound_513 : decode cL_sound 513 = .ok (.goto 28, 3) := by decide +kernel
theorem dL_sound_516 : decode cL_sound 516 = .ok (.iconst 0, 1) := by decide +kernel
theorem dL_sound_517 : decode cL_sound 517 = .ok (.goto 24, 3) := by decide +kernel
theorem dL_sound_520 : decode cL_sound 520 = .ok (.dload 10, 2) := by decide +kernel
theorem dL_sound_522 : decode cL_sound 522 = .ok (.dload 6, 2) := by decide +kernel
theorem dL_sound_524 : decode cL_sound 524 = .ok (.dcmp .l, 1) := by decide +kernel
theorem dL_sound_525 : decode cL_sound 525 = .ok (.ifCond .lt 15, 3) := by decide +kernel
theorem dL_sound_528 : decode cL_sound 528 = .ok (.dload 10, 2) := by decide +kernel
theorem dL_sound_530 : decode cL_sound 530 = .ok (.dload 8, 2) := by decide +kernel
theorem dL_sound_532 : decode cL_sound 532 = .ok (.dcmp .g, 1) := by decide +kernel
theorem dL_sound_533 : decode cL_sound 533 = .ok (.ifCond .gt 7, 3) := by decide +kernel
theorem dL_sound_536 : decode cL_sound 536 = .ok (.iconst 1, 1) := by decide +kernel
theorem dL_sound_537 : decode cL_sound 537 = .ok (.goto 4, 3) := by decide +kernel
theorem dL_sound_540 : decode cL_sound 540 = .ok (.iconst 0, 1) := by decide +kernel
theorem dL_sound_541 : decode cL_sound 541 = .ok (.istore 12, 2) := by decide +kernel
theorem dL_sound_543 : decode cL_sound 543 = .ok (.iload 12, 2) := by decide +kernel
theorem dL_sound_545 : decode cL_sound 545 = .ok (.ifCond .eq 78, 3) := by decide +kernel
theorem dL_sound_548 : decode cL_sound 548 = .ok (.aload_n 0, 1) := by decide +kernel
theorem dL_sound_549 : decode cL_sound 549 = .ok (.bipush 7, 2) := by decide +kernel
theorem dL_sound_551 : decode cL_sound 551 = .ok (.invokestatic 88, 3) := by decide +kernel
theorem dL_sound_554 : decode cL_sound 554 = .ok (.iload_n 3, 1) := by decide +kernel
theorem dL_sound_555 : decode cL_sound 555 = .ok (.if_icmp .ne 68, 3) := by decide +kernel
theorem dL_sound_558 : decode cL_sound 558 = .ok (.aload_n 0, 1) := by decide +kernel
theorem dL_sound_559 : decode cL_sound 559 = .ok (.iconst 5, 1) := by decide +kernel
theorem dL_sound_560 : decode cL_sound 560 = .ok (.invokestatic 88, 3) := by decide +kernel
theorem dL_sound_563 : decode cL_sound 563 = .ok (.iload 5, 2) := by decide +kernel
theorem dL_sound_565 : decode cL_sound 565 = .ok (.if_icmp .ne 58, 3) := by decide +kernel
theorem dL_sound_568 : decode cL_sound 568 = .ok (.aload_n 0, 1) := by decide +kernel
theorem dL_sound_569 : decode cL_sound 569 = .ok (.bipush 8, 2) := by decide +kernel
theorem dL_sound_571 : decode cL_sound 571 = .ok (.invokestatic 88, 3) := by decide +kernel
theorem dL_sound_574 : decode cL_sound 574 = .ok (.aload_n 0, 1) := by decide +kernel
theorem dL_sound_575 : decode cL_sound 575 = .ok (.bipush 9, 2) := by decide +kernel
theorem dL_sound_577 : decode cL_sound 577 = .ok (.invokestatic 88, 3) := by decide +kernel
theorem dL_sound_580 : decode cL_sound 580 = .ok (.aload_n 0, 1) := by decide +kernel
theorem dL_sound_581 : decode cL_sound 581 = .ok (.iconst 3, 1) := by decide +kernel
theorem dL_sound_582 : decode cL_sound 582 = .ok (.invokestatic 88, 3) := by decide +kernel
theorem dL_sound_585 : decode cL_sound 585 = .ok (.iadd, 1) := by decide +kernel
theorem dL_sound_586 : decode cL_sound 586 = .ok (.iload 4, 2) := by decide +kernel
theorem dL_sound_588 : decode cL_sound 588 = .ok (.iadd, 1) := by decide +kernel
theorem dL_sound_589 : decode cL_sound 589 = .ok (.if_icmp .ne 34, 3) := by decide +kernel
theorem dL_sound_592 : decode cL_sound 592 = .ok (.aload_n 0, 1) := by decide +kernel
theorem dL_sound_593 : decode cL_sound 593 = .ok (.iconst 3, 1) := by decide +kernel
theorem dL_sound_594 : decode cL_sound 594 = .ok (.invokestatic 88, 3) := by decide +kernel
theorem dL_sound_597 : decode cL_sound 597 = .ok (.ifCond .lt 26, 3) := by decide +kernel
theorem dL_sound_600 : decode cL_sound 600 = .ok (.aload_n 0, 1) := by decide +kernel
theorem dL_sound_601 : decode cL_sound 601 = .ok (.iconst 3, 1) := by decide +kernel
theorem dL_sound_602 : decode cL_sound 602 = .ok (.invokestatic 88, 3) := by decide +kernel
theorem dL_sound_605 : decode cL_sound 605 = .ok (.ldc 108, 2) := by decide +kernel
theorem dL_sound_607 : decode cL_sound 607 = .ok (.if_icmp .gt 16, 3) := by decide +kernel
theorem dL_sound_610 : decode cL_sound 610 = .ok (.aload_n 0, 1) := by decide +kernel
theorem dL_sound_611 : decode cL_sound 611 = .ok (.bipush 6, 2) := by decide +kernel
theorem dL_sound_613 : decode cL_sound 613 = .ok (.invokestatic 88, 3) := by decide +kernel
theorem dL_sound_616 : decode cL_sound 616 = .ok (.ifCond .lt 7, 3) := by decide +kernel
theorem dL_sound_619 : decode cL_sound 619 = .ok (.iconst 1, 1) := by decide +kernel
theorem dL_sound_620 : decode cL_sound 620 = .ok (.goto 4, 3) := by decide +kernel
theorem dL_sound_623 : decode cL_sound 623 = .ok (.iconst 0, 1) := by decide +kernel
theorem dL_sound_624 : decode cL_sound 624 = .ok (.ireturn, 1) := by decide +kernel
theorem dL_passes_0 : decode cL_passes 0 = .ok (.aload_n 0, 1) := by decide +kernel
theorem dL_passes_1 : decode cL_passes 1 = .ok (.invokevirtual 109, 3) := by decide +kernel
theorem dL_passes_4 : decode cL_passes 4 = .ok (.lstore 4, 2) := by decide +kernel
theorem dL_passes_6 : decode cL_passes 6 = .ok (.aload_n 0, 1) := by decide +kernel
theorem dL_passes_7 : decode cL_passes 7 = .ok (.iload_n 1, 1) := by decide +kernel
theorem dL_passes_8 : decode cL_passes 8 = .ok (.iload_n 2, 1) := by decide +kernel
theorem dL_passes_9 : decode cL_passes 9 = .ok (.iload_n 3, 1) := by decide +kernel
theorem dL_passes_10 : decode cL_passes 10 = .ok (.invokestatic 113, 3) := by decide +kernel
theorem dL_passes_13 : decode cL_passes 13 = .ok (.istore 6, 2) := by decide +kernel
theorem dL_passes_15 : decode cL_passes 15 = .ok (.aload_n 0, 1) := by decide +kernel
theorem dL_passes_16 : decode cL_passes 16 = .ok (.bipush 6, 2) := by decide +kernel
theorem dL_passes_18 : decode cL_passes 18 = .ok (.invokestatic 88, 3) := by decide +kernel
theorem dL_passes_21 : decode cL_passes 21 = .ok (.istore 7, 2) := by decide +kernel
theorem dL_passes_23 : decode cL_passes 23 = .ok (.aload_n 0, 1) := by decide +kernel
theorem dL_passes_24 : decode cL_passes 24 = .ok (.iconst 0, 1) := by decide +kernel
theorem dL_passes_25 : decode cL_passes 25 = .ok (.invokestatic 88, 3) := by decide +kernel
theorem dL_passes_28 : decode cL_passes 28 = .ok (.istore 8, 2) := by decide +kernel
theorem dL_passes_30 : decode cL_passes 30 = .ok (.iconst 3, 1) := by decide +kernel
theorem dL_passes_31 : decode cL_passes 31 = .ok (.newarray .int, 2) := by decide +kernel
theorem dL_passes_33 : decode cL_passes 33 = .ok (.astore 9, 2) := by decide +kernel
theorem dL_passes_35 : decode cL_passes 35 = .ok (.iconst 3, 1) := by decide +kernel
theorem dL_passes_36 : decode cL_passes 36 = .ok (.newarray .int, 2) := by decide +kernel
theorem dL_passes_38 : decode cL_passes 38 = .ok (.astore 10, 2) := by decide +kernel
theorem dL_passes_40 : decode cL_passes 40 = .ok (.iconst 3, 1) := by decide +kernel
theorem dL_passes_41 : decode cL_passes 41 = .ok (.newarray .int, 2) := by decide +kernel
theorem dL_passes_43 : decode cL_passes 43 = .ok (.astore 11, 2) := by decide +kernel
theorem dL_passes_45 : decode cL_passes 45 = .ok (.bipush 20, 2) := by decide +kernel
theorem dL_passes_47 : decode cL_passes 47 = .ok (.newarray .int, 2) := by decide +kernel
theorem dL_passes_49 : decode cL_passes 49 = .ok (.astore 12, 2) := by decide +kernel
theorem dL_passes_51 : decode cL_passes 51 = .ok (.iconst 0, 1) := by decide +kernel
theorem dL_passes_52 : decode cL_passes 52 = .ok (.istore 13, 2) := by decide +kernel
theorem dL_passes_54 : decode cL_passes 54 = .ok (.iload 13, 2) := by decide +kernel
theorem dL_passes_56 : decode cL_passes 56 = .ok (.aload_n 0, 1) := by decide +kernel
theorem dL_passes_57 : decode cL_passes 57 = .ok (.iconst 2, 1) := by decide +kernel
theorem dL_passes_58 : decode cL_passes 58 = .ok (.invokestatic 88, 3) := by decide +kernel
theorem dL_passes_61 : decode cL_passes 61 = .ok (.if_icmp .ge 47, 3) := by decide +kernel
theorem dL_passes_64 : decode cL_passes 64 = .ok (.aload 9, 2) := by decide +kernel
theorem dL_passes_66 : decode cL_passes 66 = .ok (.iload 13, 2) := by decide +kernel
theorem dL_passes_68 : decode cL_passes 68 = .ok (.aload_n 0, 1) := by decide +kernel
theorem dL_passes_69 : decode cL_passes 69 = .ok (.iload 13, 2) := by decide +kernel
theorem dL_passes_71 : decode cL_passes 71 = .ok (.bipush 7, 2) := by decide +kernel
theorem dL_passes_73 : decode cL_passes 73 = .ok (.invokestatic 100, 3) := by decide +kernel
theorem dL_passes_76 : decode cL_passes 76 = .ok (.iastore, 1) := by decide +kernel
theorem dL_passes_77 : decode cL_passes 77 = .ok (.aload 10, 2) := by decide +kernel
theorem dL_passes_79 : decode cL_passes 79 = .ok (.iload 13, 2) := by decide +kernel
theorem dL_passes_81 : decode cL_passes 81 = .ok (.aload_n 0, 1) := by decide +kernel
theorem dL_passes_82 : decode cL_passes 82 = .ok (.iload 13, 2) := by decide +kernel
theorem dL_passes_84 : decode cL_passes 84 = .ok (.bipush 6, 2) := by decide +kernel
