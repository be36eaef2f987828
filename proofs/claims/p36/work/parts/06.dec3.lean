theorem dL_at_0 : decode cL_at 0 = .ok (.iload_n 1, 1) := by decide +kernel
theorem dL_at_1 : decode cL_at 1 = .ok (.aload_n 0, 1) := by decide +kernel
theorem dL_at_2 : decode cL_at 2 = .ok (.arraylength, 1) := by decide +kernel
theorem dL_at_3 : decode cL_at 3 = .ok (.if_icmp .ge 9, 3) := by decide +kernel
theorem dL_at_6 : decode cL_at 6 = .ok (.aload_n 0, 1) := by decide +kernel
theorem dL_at_7 : decode cL_at 7 = .ok (.iload_n 1, 1) := by decide +kernel
theorem dL_at_8 : decode cL_at 8 = .ok (.iaload, 1) := by decide +kernel
theorem dL_at_9 : decode cL_at 9 = .ok (.goto 12, 3) := by decide +kernel
theorem dL_at_12 : decode cL_at 12 = .ok (.ldc 7, 2) := by decide +kernel
theorem dL_at_14 : decode cL_at 14 = .ok (.iload_n 1, 1) := by decide +kernel
theorem dL_at_15 : decode cL_at 15 = .ok (.iconst 1, 1) := by decide +kernel
theorem dL_at_16 : decode cL_at 16 = .ok (.iadd, 1) := by decide +kernel
theorem dL_at_17 : decode cL_at 17 = .ok (.imul, 1) := by decide +kernel
theorem dL_at_18 : decode cL_at 18 = .ok (.ldc 8, 2) := by decide +kernel
theorem dL_at_20 : decode cL_at 20 = .ok (.iadd, 1) := by decide +kernel
theorem dL_at_21 : decode cL_at 21 = .ok (.ireturn, 1) := by decide +kernel
theorem dL_low_0 : decode cL_low 0 = .ok (.iload_n 0, 1) := by decide +kernel
theorem dL_low_1 : decode cL_low 1 = .ok (.ldc 9, 2) := by decide +kernel
theorem dL_low_3 : decode cL_low 3 = .ok (.iand, 1) := by decide +kernel
theorem dL_low_4 : decode cL_low 4 = .ok (.iload_n 1, 1) := by decide +kernel
theorem dL_low_5 : decode cL_low 5 = .ok (.irem, 1) := by decide +kernel
theorem dL_low_6 : decode cL_low 6 = .ok (.ireturn, 1) := by decide +kernel
theorem dL_link_0 : decode cL_link 0 = .ok (.aload_n 0, 1) := by decide +kernel
theorem dL_link_1 : decode cL_link 1 = .ok (.iload_n 1, 1) := by decide +kernel
theorem dL_link_2 : decode cL_link 2 = .ok (.iload_n 2, 1) := by decide +kernel
theorem dL_link_3 : decode cL_link 3 = .ok (.iload_n 3, 1) := by decide +kernel
theorem dL_link_4 : decode cL_link 4 = .ok (.invokevirtual 10, 3) := by decide +kernel
theorem dL_link_7 : decode cL_link 7 = .ok (.ireturn, 1) := by decide +kernel
theorem dL_link_8 : decode cL_link 8 = .ok (.astore 4, 2) := by decide +kernel
theorem dL_link_10 : decode cL_link 10 = .ok (.ldc 18, 2) := by decide +kernel
theorem dL_link_12 : decode cL_link 12 = .ok (.ireturn, 1) := by decide +kernel
theorem dL_link_13 : decode cL_link 13 = .ok (.astore 4, 2) := by decide +kernel
theorem dL_link_15 : decode cL_link 15 = .ok (.ldc 21, 2) := by decide +kernel
theorem dL_link_17 : decode cL_link 17 = .ok (.ireturn, 1) := by decide +kernel
theorem dL_power_0 : decode cL_power 0 = .ok (.aload_n 0, 1) := by decide +kernel
theorem dL_power_1 : decode cL_power 1 = .ok (.iload_n 1, 1) := by decide +kernel
theorem dL_power_2 : decode cL_power 2 = .ok (.iload_n 2, 1) := by decide +kernel
theorem dL_power_3 : decode cL_power 3 = .ok (.invokevirtual 22, 3) := by decide +kernel
theorem dL_power_6 : decode cL_power 6 = .ok (.ireturn, 1) := by decide +kernel
theorem dL_power_7 : decode cL_power 7 = .ok (.astore_n 3, 1) := by decide +kernel
theorem dL_power_8 : decode cL_power 8 = .ok (.ldc 18, 2) := by decide +kernel
theorem dL_power_10 : decode cL_power 10 = .ok (.ireturn, 1) := by decide +kernel
theorem dL_jump_0 : decode cL_jump 0 = .ok (.aload_n 0, 1) := by decide +kernel
theorem dL_jump_1 : decode cL_jump 1 = .ok (.iload_n 1, 1) := by decide +kernel
theorem dL_jump_2 : decode cL_jump 2 = .ok (.iload_n 2, 1) := by decide +kernel
theorem dL_jump_3 : decode cL_jump 3 = .ok (.invokevirtual 26, 3) := by decide +kernel
theorem dL_jump_6 : decode cL_jump 6 = .ok (.ireturn, 1) := by decide +kernel
theorem dL_jump_7 : decode cL_jump 7 = .ok (.astore_n 3, 1) := by decide +kernel
theorem dL_jump_8 : decode cL_jump 8 = .ok (.ldc 18, 2) := by decide +kernel
theorem dL_jump_10 : decode cL_jump 10 = .ok (.ireturn, 1) := by decide +kernel
theorem dL_jump_11 : decode cL_jump 11 = .ok (.astore_n 3, 1) := by decide +kernel
theorem dL_jump_12 : decode cL_jump 12 = .ok (.ldc 21, 2) := by decide +kernel
theorem dL_jump_14 : decode cL_jump 14 = .ok (.ireturn, 1) := by decide +kernel
theorem dL_setFaults_0 : decode cL_setFaults 0 = .ok (.aload_n 0, 1) := by decide +kernel
theorem dL_setFaults_1 : decode cL_setFaults 1 = .ok (.iload_n 1, 1) := by decide +kernel
theorem dL_setFaults_2 : decode cL_setFaults 2 = .ok (.iload_n 2, 1) := by decide +kernel
theorem dL_setFaults_3 : decode cL_setFaults 3 = .ok (.invokevirtual 30, 3) := by decide +kernel
theorem dL_setFaults_6 : decode cL_setFaults 6 = .ok (.ireturn, 1) := by decide +kernel
theorem dL_setFaults_7 : decode cL_setFaults 7 = .ok (.astore_n 3, 1) := by decide +kernel
theorem dL_setFaults_8 : decode cL_setFaults 8 = .ok (.ldc 18, 2) := by decide +kernel
theorem dL_setFaults_10 : decode cL_setFaults 10 = .ok (.ireturn, 1) := by decide +kernel
theorem dL_setFaults_11 : decode cL_setFaults 11 = .ok (.astore_n 3, 1) := by decide +kernel
theorem dL_setFaults_12 : decode cL_setFaults 12 = .ok (.ldc 21, 2) := by decide +kernel
theorem dL_setFaults_14 : decode cL_setFaults 14 = .ok (.ireturn, 1) := by decide +kernel
theorem dL_setPatience_0 : decode cL_setPatience 0 = .ok (.aload_n 0, 1) := by decide +kernel
theorem dL_setPatience_1 : decode cL_setPatience 1 = .ok (.iload_n 1, 1) := by decide +kernel
theorem dL_setPatience_2 : decode cL_setPatience 2 = .ok (.invokevirtual 33, 3) := by decide +kernel
theorem dL_setPatience_5 : decode cL_setPatience 5 = .ok (.ireturn, 1) := by decide +kernel
theorem dL_setPatience_6 : decode cL_setPatience 6 = .ok (.astore_n 2, 1) := by decide +kernel
theorem dL_setPatience_7 : decode cL_setPatience 7 = .ok (.ldc 18, 2) := by decide +kernel
theorem dL_setPatience_9 : decode cL_setPatience 9 = .ok (.ireturn, 1) := by decide +kernel
theorem dL_take_0 : decode cL_take 0 = .ok (.aload_n 0, 1) := by decide +kernel
theorem dL_take_1 : decode cL_take 1 = .ok (.iload_n 1, 1) := by decide +kernel
theorem dL_take_2 : decode cL_take 2 = .ok (.iload_n 2, 1) := by decide +kernel
theorem dL_take_3 : decode cL_take 3 = .ok (.invokevirtual 37, 3) := by decide +kernel
theorem dL_take_6 : decode cL_take 6 = .ok (.ireturn, 1) := by decide +kernel
theorem dL_take_7 : decode cL_take 7 = .ok (.astore_n 3, 1) := by decide +kernel
theorem dL_take_8 : decode cL_take 8 = .ok (.ldc 18, 2) := by decide +kernel
theorem dL_take_10 : decode cL_take 10 = .ok (.ireturn, 1) := by decide +kernel
theorem dL_take_11 : decode cL_take 11 = .ok (.astore_n 3, 1) := by decide +kernel
theorem dL_take_12 : decode cL_take 12 = .ok (.ldc 21, 2) := by decide +kernel
theorem dL_take_14 : decode cL_take 14 = .ok (.ireturn, 1) := by decide +kernel
theorem dL_take_15 : decode cL_take 15 = .ok (.astore_n 3, 1) := by decide +kernel
theorem dL_take_16 : decode cL_take 16 = .ok (.ldc 42, 2) := by decide +kernel
theorem dL_take_18 : decode cL_take 18 = .ok (.ireturn, 1) := by decide +kernel
theorem dL_run_0 : decode cL_run 0 = .ok (.aload_n 0, 1) := by decide +kernel
theorem dL_run_1 : decode cL_run 1 = .ok (.iload_n 1, 1) := by decide +kernel
theorem dL_run_2 : decode cL_run 2 = .ok (.invokevirtual 43, 3) := by decide +kernel
theorem dL_run_5 : decode cL_run 5 = .ok (.ireturn, 1) := by decide +kernel
theorem dL_run_6 : decode cL_run 6 = .ok (.astore_n 2, 1) := by decide +kernel
theorem dL_run_7 : decode cL_run 7 = .ok (.ldc 18, 2) := by decide +kernel
theorem dL_run_9 : decode cL_run 9 = .ok (.ireturn, 1) := by decide +kernel
theorem dL_undo_0 : decode cL_undo 0 = .ok (.aload_n 0, 1) := by decide +kernel
theorem dL_undo_1 : decode cL_undo 1 = .ok (.invokevirtual 46, 3) := by decide +kernel
theorem dL_undo_4 : decode cL_undo 4 = .ok (.ireturn, 1) := by decide +kernel
theorem dL_undo_5 : decode cL_undo 5 = .ok (.astore_n 1, 1) := by decide +kernel
theorem dL_undo_6 : decode cL_undo 6 = .ok (.ldc 18, 2) := by decide +kernel
theorem dL_undo_8 : decode cL_undo 8 = .ok (.ireturn, 1) := by decide +kernel
theorem dL_parent_0 : decode cL_parent 0 = .ok (.aload_n 0, 1) := by decide +kernel
theorem dL_parent_1 : decode cL_parent 1 = .ok (.iload_n 1, 1) := by decide +kernel
theorem dL_parent_2 : decode cL_parent 2 = .ok (.invokevirtual 50, 3) := by decide +kernel
theorem dL_parent_5 : decode cL_parent 5 = .ok (.ireturn, 1) := by decide +kernel
theorem dL_parent_6 : decode cL_parent 6 = .ok (.astore_n 2, 1) := by decide +kernel
theorem dL_parent_7 : decode cL_parent 7 = .ok (.ldc 18, 2) := by decide +kernel
theorem dL_parent_9 : decode cL_parent 9 = .ok (.ireturn, 1) := by decide +kernel
theorem dL_depth_0 : decode cL_depth 0 = .ok (.aload_n 0, 1) := by decide +kernel
theorem dL_depth_1 : decode cL_depth 1 = .ok (.iload_n 1, 1) := by decide +kernel
theorem dL_depth_2 : decode cL_depth 2 = .ok (.invokevirtual 53, 3) := by decide +kernel
theorem dL_depth_5 : decode cL_depth 5 = .ok (.ireturn, 1) := by decide +kernel
theorem dL_depth_6 : decode cL_depth 6 = .ok (.astore_n 2, 1) := by decide +kernel
theorem dL_depth_7 : decode cL_depth 7 = .ok (.ldc 18, 2) := by decide +kernel
theorem dL_depth_9 : decode cL_depth 9 = .ok (.ireturn, 1) := by decide +kernel
theorem dL_clock_0 : decode cL_clock 0 = .ok (.aload_n 0, 1) := by decide +kernel
theorem dL_clock_1 : decode cL_clock 1 = .ok (.iload_n 1, 1) := by decide +kernel
theorem dL_clock_2 : decode cL_clock 2 = .ok (.invokevirtual 56, 3) := by decide +kernel
theorem dL_clock_5 : decode cL_clock 5 = .ok (.ireturn, 1) := by decide +kernel
theorem dL_clock_6 : decode cL_clock 6 = .ok (.astore_n 2, 1) := by decide +kernel
theorem dL_clock_7 : decode cL_clock 7 = .ok (.ldc 18, 2) := by decide +kernel
theorem dL_clock_9 : decode cL_clock 9 = .ok (.ireturn, 1) := by decide +kernel
theorem dL_silence_0 : decode cL_silence 0 = .ok (.aload_n 0, 1) := by decide +kernel
theorem dL_silence_1 : decode cL_silence 1 = .ok (.iload_n 1, 1) := by decide +kernel
theorem dL_silence_2 : decode cL_silence 2 = .ok (.invokevirtual 59, 3) := by decide +kernel
theorem dL_silence_5 : decode cL_silence 5 = .ok (.ireturn, 1) := by decide +kernel
theorem dL_silence_6 : decode cL_silence 6 = .ok (.astore_n 2, 1) := by decide +kernel
theorem dL_silence_7 : decode cL_silence 7 = .ok (.ldc 18, 2) := by decide +kernel
theorem dL_silence_9 : decode cL_silence 9 = .ok (.ireturn, 1) := by decide +kernel
theorem dL_faults_0 : decode cL_faults 0 = .ok (.aload_n 0, 1) := by decide +kernel
theorem dL_faults_1 : decode cL_faults 1 = .ok (.iload_n 1, 1) := by decide +kernel
theorem dL_faults_2 : decode cL_faults 2 = .ok (.invokevirtual 62, 3) := by decide +kernel
theorem dL_faults_5 : decode cL_faults 5 = .ok (.ireturn, 1) := by decide +kernel
theorem dL_faults_6 : decode cL_faults 6 = .ok (.astore_n 2, 1) := by decide +kernel
theorem dL_faults_7 : decode cL_faults 7 = .ok (.ldc 18, 2) := by decide +kernel
theorem dL_faults_9 : decode cL_faults 9 = .ok (.ireturn, 1) := by decide +kernel
theorem dL_hops_0 : decode cL_hops 0 = .ok (.aload_n 0, 1) := by decide +kernel
theorem dL_hops_1 : decode cL_hops 1 = .ok (.iload_n 1, 1) := by decide +kernel
theorem dL_hops_2 : decode cL_hops 2 = .ok (.invokevirtual 65, 3) := by decide +kernel
theorem dL_hops_5 : decode cL_hops 5 = .ok (.ireturn, 1) := by decide +kernel
theorem dL_hops_6 : decode cL_hops 6 = .ok (.astore_n 2, 1) := by decide +kernel
theorem dL_hops_7 : decode cL_hops 7 = .ok (.ldc 18, 2) := by decide +kernel
theorem dL_hops_9 : decode cL_hops 9 = .ok (.ireturn, 1) := by decide +kernel
theorem dL_stored_0 : decode cL_stored 0 = .ok (.aload_n 0, 1) := by decide +kernel
theorem dL_stored_1 : decode cL_stored 1 = .ok (.iload_n 1, 1) := by decide +kernel
theorem dL_stored_2 : decode cL_stored 2 = .ok (.invokevirtual 68, 3) := by decide +kernel
theorem dL_stored_5 : decode cL_stored 5 = .ok (.ireturn, 1) := by decide +kernel
theorem dL_stored_6 : decode cL_stored 6 = .ok (.astore_n 2, 1) := by decide +kernel
theorem dL_stored_7 : decode cL_stored 7 = .ok (.ldc 18, 2) := by decide +kernel
theorem dL_stored_9 : decode cL_stored 9 = .ok (.ireturn, 1) := by decide +kernel
theorem dL_storedReading_0 : decode cL_storedReading 0 = .ok (.aload_n 0, 1) := by decide +kernel
theorem dL_storedReading_1 : decode cL_storedReading 1 = .ok (.iload_n 1, 1) := by decide +kernel
theorem dL_storedReading_2 : decode cL_storedReading 2 = .ok (.iload_n 2, 1) := by decide +kernel
theorem dL_storedReading_3 : decode cL_storedReading 3 = .ok (.iload_n 3, 1) := by decide +kernel
theorem dL_storedReading_4 : decode cL_storedReading 4 = .ok (.invokevirtual 71, 3) := by decide +kernel
theorem dL_storedReading_7 : decode cL_storedReading 7 = .ok (.ireturn, 1) := by decide +kernel
theorem dL_storedReading_8 : decode cL_storedReading 8 = .ok (.astore 4, 2) := by decide +kernel
theorem dL_storedReading_10 : decode cL_storedReading 10 = .ok (.ldc 18, 2) := by decide +kernel
theorem dL_storedReading_12 : decode cL_storedReading 12 = .ok (.ireturn, 1) := by decide +kernel
theorem dL_storedReading_13 : decode cL_storedReading 13 = .ok (.astore 4, 2) := by decide +kernel
theorem dL_storedReading_15 : decode cL_storedReading 15 = .ok (.ldc 21, 2) := by decide +kernel
theorem dL_storedReading_17 : decode cL_storedReading 17 = .ok (.ireturn, 1) := by decide +kernel
theorem dL_collectedReading_0 : decode cL_collectedReading 0 = .ok (.aload_n 0, 1) := by decide +kernel
theorem dL_collectedReading_1 : decode cL_collectedReading 1 = .ok (.iload_n 1, 1) := by decide +kernel
theorem dL_collectedReading_2 : decode cL_collectedReading 2 = .ok (.iload_n 2, 1) := by decide +kernel
theorem dL_collectedReading_3 : decode cL_collectedReading 3 = .ok (.invokevirtual 75, 3) := by decide +kernel
theorem dL_collectedReading_6 : decode cL_collectedReading 6 = .ok (.ireturn, 1) := by decide +kernel
theorem dL_collectedReading_7 : decode cL_collectedReading 7 = .ok (.astore_n 3, 1) := by decide +kernel
theorem dL_collectedReading_8 : decode cL_collectedReading 8 = .ok (.ldc 18, 2) := by decide +kernel
theorem dL_collectedReading_10 : decode cL_collectedReading 10 = .ok (.ireturn, 1) := by decide +kernel
theorem dL_collectedReading_11 : decode cL_collectedReading 11 = .ok (.astore_n 3, 1) := by decide +kernel
theorem dL_collectedReading_12 : decode cL_collectedReading 12 = .ok (.ldc 21, 2) := by decide +kernel
theorem dL_collectedReading_14 : decode cL_collectedReading 14 = .ok (.ireturn, 1) := by decide +kernel
theorem dL_copies_0 : decode cL_copies 0 = .ok (.aload_n 0, 1) := by decide +kernel
theorem dL_copies_1 : decode cL_copies 1 = .ok (.iload_n 1, 1) := by decide +kernel
theorem dL_copies_2 : decode cL_copies 2 = .ok (.iload_n 2, 1) := by decide +kernel
theorem dL_copies_3 : decode cL_copies 3 = .ok (.invokevirtual 78, 3) := by decide +kernel
theorem dL_copies_6 : decode cL_copies 6 = .ok (.ireturn, 1) := by decide +kernel
theorem dL_copies_7 : decode cL_copies 7 = .ok (.astore_n 3, 1) := by decide +kernel
theorem dL_copies_8 : decode cL_copies 8 = .ok (.ldc 18, 2) := by decide +kernel
theorem dL_copies_10 : decode cL_copies 10 = .ok (.ireturn, 1) := by decide +kernel
theorem dL_ifRun_0 : decode cL_ifRun 0 = .ok (.aload_n 0, 1) := by decide +kernel
theorem dL_ifRun_1 : decode cL_ifRun 1 = .ok (.iload_n 1, 1) := by decide +kernel
theorem dL_ifRun_2 : decode cL_ifRun 2 = .ok (.invokevirtual 81, 3) := by decide +kernel
theorem dL_ifRun_5 : decode cL_ifRun 5 = .ok (.ireturn, 1) := by decide +kernel
theorem dL_ifRun_6 : decode cL_ifRun 6 = .ok (.astore_n 2, 1) := by decide +kernel
theorem dL_ifRun_7 : decode cL_ifRun 7 = .ok (.ldc 18, 2) := by decide +kernel
theorem dL_ifRun_9 : decode cL_ifRun 9 = .ok (.ireturn, 1) := by decide +kernel
theorem dL_count_0 : decode cL_count 0 = .ok (.aload_n 0, 1) := by decide +kernel
theorem dL_count_1 : decode cL_count 1 = .ok (.iload_n 1, 1) := by decide +kernel
theorem dL_count_2 : decode cL_count 2 = .ok (.invokevirtual 84, 3) := by decide +kernel
theorem dL_count_5 : decode cL_count 5 = .ok (.ireturn, 1) := by decide +kernel
theorem dL_count_6 : decode cL_count 6 = .ok (.astore_n 2, 1) := by decide +kernel
theorem dL_count_7 : decode cL_count 7 = .ok (.ldc 18, 2) := by decide +kernel
theorem dL_count_9 : decode cL_count 9 = .ok (.ireturn, 1) := by decide +kernel
theorem dL_act_0 : decode cL_act 0 = .ok (.iconst 1, 1) := by decide +kernel
theorem dL_act_1 : decode cL_act 1 = .ok (.iload_n 1, 1) := by decide +kernel
theorem dL_act_2 : decode cL_act 2 = .ok (.iconst 4, 1) := by decide +kernel
theorem dL_act_3 : decode cL_act 3 = .ok (.ishr, 1) := by decide +kernel
theorem dL_act_4 : decode cL_act 4 = .ok (.iload_n 1, 1) := by decide +kernel
theorem dL_act_5 : decode cL_act 5 = .ok (.bipush 9, 2) := by decide +kernel
theorem dL_act_7 : decode cL_act 7 = .ok (.ishr, 1) := by decide +kernel
theorem dL_act_8 : decode cL_act 8 = .ok (.iconst 2, 1) := by decide +kernel
theorem dL_act_9 : decode cL_act 9 = .ok (.invokestatic 87, 3) := by decide +kernel
theorem dL_act_12 : decode cL_act 12 = .ok (.ifCond .ne 8, 3) := by decide +kernel
theorem dL_act_15 : decode cL_act 15 = .ok (.bipush 9, 2) := by decide +kernel
theorem dL_act_17 : decode cL_act 17 = .ok (.goto 4, 3) := by decide +kernel
theorem dL_act_20 : decode cL_act 20 = .ok (.iconst 4, 1) := by decide +kernel
theorem dL_act_21 : decode cL_act 21 = .ok (.invokestatic 87, 3) := by decide +kernel
theorem dL_act_24 : decode cL_act 24 = .ok (.iadd, 1) := by decide +kernel
theorem dL_act_25 : decode cL_act 25 = .ok (.istore_n 3, 1) := by decide +kernel
theorem dL_act_26 : decode cL_act 26 = .ok (.iload_n 1, 1) := by decide +kernel
theorem dL_act_27 : decode cL_act 27 = .ok (.bipush 15, 2) := by decide +kernel
theorem dL_act_29 : decode cL_act 29 = .ok (.invokestatic 87, 3) := by decide +kernel
theorem dL_act_32 : decode cL_act 32 = .ok (.tableswitch 167 0 9 #[56, 56, 90, 116, 131, 142, 154, 154, 154, 154], 56) := by decide +kernel
theorem dL_act_88 : decode cL_act 88 = .ok (.aload_n 0, 1) := by decide +kernel
theorem dL_act_89 : decode cL_act 89 = .ok (.iload_n 1, 1) := by decide +kernel
theorem dL_act_90 : decode cL_act 90 = .ok (.iconst 4, 1) := by decide +kernel
theorem dL_act_91 : decode cL_act 91 = .ok (.ishr, 1) := by decide +kernel
theorem dL_act_92 : decode cL_act 92 = .ok (.bipush 10, 2) := by decide +kernel
theorem dL_act_94 : decode cL_act 94 = .ok (.invokestatic 87, 3) := by decide +kernel
theorem dL_act_97 : decode cL_act 97 = .ok (.iload_n 2, 1) := by decide +kernel
theorem dL_act_98 : decode cL_act 98 = .ok (.bipush 10, 2) := by decide +kernel
theorem dL_act_100 : decode cL_act 100 = .ok (.invokestatic 87, 3) := by decide +kernel
theorem dL_act_103 : decode cL_act 103 = .ok (.iload_n 2, 1) := by decide +kernel
theorem dL_act_104 : decode cL_act 104 = .ok (.iconst 4, 1) := by decide +kernel
theorem dL_act_105 : decode cL_act 105 = .ok (.ishr, 1) := by decide +kernel
theorem dL_act_106 : decode cL_act 106 = .ok (.iconst 4, 1) := by decide +kernel
theorem dL_act_107 : decode cL_act 107 = .ok (.invokestatic 87, 3) := by decide +kernel
theorem dL_act_110 : decode cL_act 110 = .ok (.ifCond .le 7, 3) := by decide +kernel
theorem dL_act_113 : decode cL_act 113 = .ok (.iconst 1, 1) := by decide +kernel
theorem dL_act_114 : decode cL_act 114 = .ok (.goto 4, 3) := by decide +kernel
theorem dL_act_117 : decode cL_act 117 = .ok (.iconst 0, 1) := by decide +kernel
theorem dL_act_118 : decode cL_act 118 = .ok (.invokestatic 92, 3) := by decide +kernel
theorem dL_act_121 : decode cL_act 121 = .ok (.ireturn, 1) := by decide +kernel
theorem dL_act_122 : decode cL_act 122 = .ok (.aload_n 0, 1) := by decide +kernel
theorem dL_act_123 : decode cL_act 123 = .ok (.iload_n 1, 1) := by decide +kernel
theorem dL_act_124 : decode cL_act 124 = .ok (.iconst 4, 1) := by decide +kernel
theorem dL_act_125 : decode cL_act 125 = .ok (.ishr, 1) := by decide +kernel
theorem dL_act_126 : decode cL_act 126 = .ok (.bipush 10, 2) := by decide +kernel
theorem dL_act_128 : decode cL_act 128 = .ok (.invokestatic 87, 3) := by decide +kernel
theorem dL_act_131 : decode cL_act 131 = .ok (.iload_n 2, 1) := by decide +kernel
theorem dL_act_132 : decode cL_act 132 = .ok (.iconst 3, 1) := by decide +kernel
theorem dL_act_133 : decode cL_act 133 = .ok (.invokestatic 87, 3) := by decide +kernel
theorem dL_act_136 : decode cL_act 136 = .ok (.ifCond .le 7, 3) := by decide +kernel
theorem dL_act_139 : decode cL_act 139 = .ok (.iconst 1, 1) := by decide +kernel
theorem dL_act_140 : decode cL_act 140 = .ok (.goto 4, 3) := by decide +kernel
theorem dL_act_143 : decode cL_act 143 = .ok (.iconst 0, 1) := by decide +kernel
theorem dL_act_144 : decode cL_act 144 = .ok (.invokestatic 95, 3) := by decide +kernel
theorem dL_act_147 : decode cL_act 147 = .ok (.ireturn, 1) := by decide +kernel
theorem dL_act_148 : decode cL_act 148 = .ok (.aload_n 0, 1) := by decide +kernel
theorem dL_act_149 : decode cL_act 149 = .ok (.iload_n 3, 1) := by decide +kernel
theorem dL_act_150 : decode cL_act 150 = .ok (.iload_n 2, 1) := by decide +kernel
theorem dL_act_151 : decode cL_act 151 = .ok (.bipush 41, 2) := by decide +kernel
theorem dL_act_153 : decode cL_act 153 = .ok (.invokestatic 87, 3) := by decide +kernel
theorem dL_act_156 : decode cL_act 156 = .ok (.bipush 20, 2) := by decide +kernel
theorem dL_act_158 : decode cL_act 158 = .ok (.isub, 1) := by decide +kernel
theorem dL_act_159 : decode cL_act 159 = .ok (.invokestatic 98, 3) := by decide +kernel
theorem dL_act_162 : decode cL_act 162 = .ok (.ireturn, 1) := by decide +kernel
theorem dL_act_163 : decode cL_act 163 = .ok (.aload_n 0, 1) := by decide +kernel
theorem dL_act_164 : decode cL_act 164 = .ok (.iload_n 3, 1) := by decide +kernel
theorem dL_act_165 : decode cL_act 165 = .ok (.iload_n 2, 1) := by decide +kernel
theorem dL_act_166 : decode cL_act 166 = .ok (.iconst 4, 1) := by decide +kernel
theorem dL_act_167 : decode cL_act 167 = .ok (.invokestatic 87, 3) := by decide +kernel
theorem dL_act_170 : decode cL_act 170 = .ok (.invokestatic 101, 3) := by decide +kernel
theorem dL_act_173 : decode cL_act 173 = .ok (.ireturn, 1) := by decide +kernel
theorem dL_act_174 : decode cL_act 174 = .ok (.aload_n 0, 1) := by decide +kernel
theorem dL_act_175 : decode cL_act 175 = .ok (.iconst 1, 1) := by decide +kernel
theorem dL_act_176 : decode cL_act 176 = .ok (.iload_n 2, 1) := by decide +kernel
theorem dL_act_177 : decode cL_act 177 = .ok (.iconst 5, 1) := by decide +kernel
theorem dL_act_178 : decode cL_act 178 = .ok (.invokestatic 87, 3) := by decide +kernel
theorem dL_act_181 : decode cL_act 181 = .ok (.iadd, 1) := by decide +kernel
theorem dL_act_182 : decode cL_act 182 = .ok (.invokestatic 103, 3) := by decide +kernel
theorem dL_act_185 : decode cL_act 185 = .ok (.ireturn, 1) := by decide +kernel
theorem dL_act_186 : decode cL_act 186 = .ok (.aload_n 0, 1) := by decide +kernel
theorem dL_act_187 : decode cL_act 187 = .ok (.iload_n 3, 1) := by decide +kernel
theorem dL_act_188 : decode cL_act 188 = .ok (.iload_n 2, 1) := by decide +kernel
theorem dL_act_189 : decode cL_act 189 = .ok (.sipush 1000, 3) := by decide +kernel
theorem dL_act_192 : decode cL_act 192 = .ok (.invokestatic 87, 3) := by decide +kernel
theorem dL_act_195 : decode cL_act 195 = .ok (.invokestatic 106, 3) := by decide +kernel
theorem dL_act_198 : decode cL_act 198 = .ok (.ireturn, 1) := by decide +kernel
theorem dL_act_199 : decode cL_act 199 = .ok (.aload_n 0, 1) := by decide +kernel
theorem dL_act_200 : decode cL_act 200 = .ok (.iconst 1, 1) := by decide +kernel
theorem dL_act_201 : decode cL_act 201 = .ok (.iload_n 2, 1) := by decide +kernel
theorem dL_act_202 : decode cL_act 202 = .ok (.iload_n 2, 1) := by decide +kernel
theorem dL_act_203 : decode cL_act 203 = .ok (.bipush 8, 2) := by decide +kernel
theorem dL_act_205 : decode cL_act 205 = .ok (.ishr, 1) := by decide +kernel
theorem dL_act_206 : decode cL_act 206 = .ok (.iconst 3, 1) := by decide +kernel
theorem dL_act_207 : decode cL_act 207 = .ok (.invokestatic 87, 3) := by decide +kernel
theorem dL_act_210 : decode cL_act 210 = .ok (.ifCond .ne 8, 3) := by decide +kernel
theorem dL_act_213 : decode cL_act 213 = .ok (.bipush 100, 2) := by decide +kernel
theorem dL_act_215 : decode cL_act 215 = .ok (.goto 5, 3) := by decide +kernel
theorem dL_act_218 : decode cL_act 218 = .ok (.bipush 20, 2) := by decide +kernel
theorem dL_act_220 : decode cL_act 220 = .ok (.invokestatic 87, 3) := by decide +kernel
theorem dL_act_223 : decode cL_act 223 = .ok (.iadd, 1) := by decide +kernel
theorem dL_act_224 : decode cL_act 224 = .ok (.invokestatic 108, 3) := by decide +kernel
theorem dL_act_227 : decode cL_act 227 = .ok (.ireturn, 1) := by decide +kernel
theorem dL_nodes_0 : decode cL_nodes 0 = .ok (.iconst 0, 1) := by decide +kernel
theorem dL_nodes_1 : decode cL_nodes 1 = .ok (.istore_n 1, 1) := by decide +kernel
theorem dL_nodes_2 : decode cL_nodes 2 = .ok (.iconst 0, 1) := by decide +kernel
theorem dL_nodes_3 : decode cL_nodes 3 = .ok (.istore_n 2, 1) := by decide +kernel
theorem dL_nodes_4 : decode cL_nodes 4 = .ok (.iload_n 2, 1) := by decide +kernel
theorem dL_nodes_5 : decode cL_nodes 5 = .ok (.bipush 10, 2) := by decide +kernel
theorem dL_nodes_7 : decode cL_nodes 7 = .ok (.if_icmp .ge 272, 3) := by decide +kernel
theorem dL_nodes_10 : decode cL_nodes 10 = .ok (.aload_n 0, 1) := by decide +kernel
theorem dL_nodes_11 : decode cL_nodes 11 = .ok (.iload_n 2, 1) := by decide +kernel
theorem dL_nodes_12 : decode cL_nodes 12 = .ok (.invokestatic 110, 3) := by decide +kernel
theorem dL_nodes_15 : decode cL_nodes 15 = .ok (.istore_n 3, 1) := by decide +kernel
theorem dL_nodes_16 : decode cL_nodes 16 = .ok (.iload_n 1, 1) := by decide +kernel
theorem dL_nodes_17 : decode cL_nodes 17 = .ok (.iload_n 3, 1) := by decide +kernel
theorem dL_nodes_18 : decode cL_nodes 18 = .ok (.ifCond .ge 7, 3) := by decide +kernel
theorem dL_nodes_21 : decode cL_nodes 21 = .ok (.iconst 0, 1) := by decide +kernel
theorem dL_nodes_22 : decode cL_nodes 22 = .ok (.goto 4, 3) := by decide +kernel
theorem dL_nodes_25 : decode cL_nodes 25 = .ok (.iconst 1, 1) := by decide +kernel
theorem dL_nodes_26 : decode cL_nodes 26 = .ok (.iadd, 1) := by decide +kernel
theorem dL_nodes_27 : decode cL_nodes 27 = .ok (.istore_n 1, 1) := by decide +kernel
theorem dL_nodes_28 : decode cL_nodes 28 = .ok (.iload_n 3, 1) := by decide +kernel
theorem dL_nodes_29 : decode cL_nodes 29 = .ok (.ifCond .lt 7, 3) := by decide +kernel
theorem dL_nodes_32 : decode cL_nodes 32 = .ok (.iconst 1, 1) := by decide +kernel
theorem dL_nodes_33 : decode cL_nodes 33 = .ok (.goto 4, 3) := by decide +kernel
theorem dL_nodes_36 : decode cL_nodes 36 = .ok (.iconst 0, 1) := by decide +kernel
theorem dL_nodes_37 : decode cL_nodes 37 = .ok (.istore 4, 2) := by decide +kernel
theorem dL_nodes_39 : decode cL_nodes 39 = .ok (.iload_n 2, 1) := by decide +kernel
theorem dL_nodes_40 : decode cL_nodes 40 = .ok (.ifCond .ne 31, 3) := by decide +kernel
theorem dL_nodes_43 : decode cL_nodes 43 = .ok (.iload 4, 2) := by decide +kernel
theorem dL_nodes_45 : decode cL_nodes 45 = .ok (.ifCond .ne 91, 3) := by decide +kernel
theorem dL_nodes_48 : decode cL_nodes 48 = .ok (.aload_n 0, 1) := by decide +kernel
theorem dL_nodes_49 : decode cL_nodes 49 = .ok (.iconst 0, 1) := by decide +kernel
theorem dL_nodes_50 : decode cL_nodes 50 = .ok (.invokestatic 112, 3) := by decide +kernel
theorem dL_nodes_53 : decode cL_nodes 53 = .ok (.ifCond .ne 83, 3) := by decide +kernel
theorem dL_nodes_56 : decode cL_nodes 56 = .ok (.aload_n 0, 1) := by decide +kernel
theorem dL_nodes_57 : decode cL_nodes 57 = .ok (.iconst 0, 1) := by decide +kernel
theorem dL_nodes_58 : decode cL_nodes 58 = .ok (.invokestatic 114, 3) := by decide +kernel
theorem dL_nodes_61 : decode cL_nodes 61 = .ok (.aload_n 0, 1) := by decide +kernel
theorem dL_nodes_62 : decode cL_nodes 62 = .ok (.invokevirtual 116, 3) := by decide +kernel
theorem dL_nodes_65 : decode cL_nodes 65 = .ok (.if_icmp .eq 73, 3) := by decide +kernel
theorem dL_nodes_68 : decode cL_nodes 68 = .ok (.goto 68, 3) := by decide +kernel
theorem dL_nodes_71 : decode cL_nodes 71 = .ok (.iload 4, 2) := by decide +kernel
theorem dL_nodes_73 : decode cL_nodes 73 = .ok (.aload_n 0, 1) := by decide +kernel
theorem dL_nodes_74 : decode cL_nodes 74 = .ok (.iload_n 2, 1) := by decide +kernel
theorem dL_nodes_75 : decode cL_nodes 75 = .ok (.invokestatic 112, 3) := by decide +kernel
theorem dL_nodes_78 : decode cL_nodes 78 = .ok (.ifCond .lt 7, 3) := by decide +kernel
theorem dL_nodes_81 : decode cL_nodes 81 = .ok (.iconst 1, 1) := by decide +kernel
theorem dL_nodes_82 : decode cL_nodes 82 = .ok (.goto 4, 3) := by decide +kernel
theorem dL_nodes_85 : decode cL_nodes 85 = .ok (.iconst 0, 1) := by decide +kernel
theorem dL_nodes_86 : decode cL_nodes 86 = .ok (.if_icmp .ne 50, 3) := by decide +kernel
theorem dL_nodes_89 : decode cL_nodes 89 = .ok (.iload 4, 2) := by decide +kernel
theorem dL_nodes_91 : decode cL_nodes 91 = .ok (.aload_n 0, 1) := by decide +kernel
theorem dL_nodes_92 : decode cL_nodes 92 = .ok (.iload_n 2, 1) := by decide +kernel
theorem dL_nodes_93 : decode cL_nodes 93 = .ok (.invokestatic 119, 3) := by decide +kernel
theorem dL_nodes_96 : decode cL_nodes 96 = .ok (.ifCond .lt 7, 3) := by decide +kernel
theorem dL_nodes_99 : decode cL_nodes 99 = .ok (.iconst 1, 1) := by decide +kernel
theorem dL_nodes_100 : decode cL_nodes 100 = .ok (.goto 4, 3) := by decide +kernel
theorem dL_nodes_103 : decode cL_nodes 103 = .ok (.iconst 0, 1) := by decide +kernel
theorem dL_nodes_104 : decode cL_nodes 104 = .ok (.if_icmp .ne 32, 3) := by decide +kernel
theorem dL_nodes_107 : decode cL_nodes 107 = .ok (.iload 4, 2) := by decide +kernel
theorem dL_nodes_109 : decode cL_nodes 109 = .ok (.ifCond .eq 29, 3) := by decide +kernel
theorem dL_nodes_112 : decode cL_nodes 112 = .ok (.aload_n 0, 1) := by decide +kernel
theorem dL_nodes_113 : decode cL_nodes 113 = .ok (.iload_n 2, 1) := by decide +kernel
theorem dL_nodes_114 : decode cL_nodes 114 = .ok (.invokestatic 112, 3) := by decide +kernel
theorem dL_nodes_117 : decode cL_nodes 117 = .ok (.iconst 1, 1) := by decide +kernel
theorem dL_nodes_118 : decode cL_nodes 118 = .ok (.if_icmp .lt 18, 3) := by decide +kernel
theorem dL_nodes_121 : decode cL_nodes 121 = .ok (.aload_n 0, 1) := by decide +kernel
theorem dL_nodes_122 : decode cL_nodes 122 = .ok (.iload_n 2, 1) := by decide +kernel
theorem dL_nodes_123 : decode cL_nodes 123 = .ok (.invokestatic 112, 3) := by decide +kernel
theorem dL_nodes_126 : decode cL_nodes 126 = .ok (.bipush 9, 2) := by decide +kernel
theorem dL_nodes_128 : decode cL_nodes 128 = .ok (.if_icmp .gt 8, 3) := by decide +kernel
theorem dL_nodes_131 : decode cL_nodes 131 = .ok (.iload_n 3, 1) := by decide +kernel
theorem dL_nodes_132 : decode cL_nodes 132 = .ok (.iload_n 2, 1) := by decide +kernel
theorem dL_nodes_133 : decode cL_nodes 133 = .ok (.if_icmp .ne 5, 3) := by decide +kernel
theorem dL_nodes_136 : decode cL_nodes 136 = .ok (.iconst 0, 1) := by decide +kernel
theorem dL_nodes_137 : decode cL_nodes 137 = .ok (.ireturn, 1) := by decide +kernel
theorem dL_nodes_138 : decode cL_nodes 138 = .ok (.iconst (-1), 1) := by decide +kernel
theorem dL_nodes_139 : decode cL_nodes 139 = .ok (.istore 5, 2) := by decide +kernel
theorem dL_nodes_141 : decode cL_nodes 141 = .ok (.iconst 0, 1) := by decide +kernel
theorem dL_nodes_142 : decode cL_nodes 142 = .ok (.istore 6, 2) := by decide +kernel
theorem dL_nodes_144 : decode cL_nodes 144 = .ok (.iload 6, 2) := by decide +kernel
theorem dL_nodes_146 : decode cL_nodes 146 = .ok (.bipush 10, 2) := by decide +kernel
theorem dL_nodes_148 : decode cL_nodes 148 = .ok (.if_icmp .ge 86, 3) := by decide +kernel
theorem dL_nodes_151 : decode cL_nodes 151 = .ok (.aload_n 0, 1) := by decide +kernel
theorem dL_nodes_152 : decode cL_nodes 152 = .ok (.iload_n 2, 1) := by decide +kernel
theorem dL_nodes_153 : decode cL_nodes 153 = .ok (.iload 6, 2) := by decide +kernel
theorem dL_nodes_155 : decode cL_nodes 155 = .ok (.invokevirtual 121, 3) := by decide +kernel
theorem dL_nodes_158 : decode cL_nodes 158 = .ok (.istore 7, 2) := by decide +kernel
theorem dL_nodes_160 : decode cL_nodes 160 = .ok (.iload 7, 2) := by decide +kernel
theorem dL_nodes_162 : decode cL_nodes 162 = .ok (.ifCond .eq 37, 3) := by decide +kernel
theorem dL_nodes_165 : decode cL_nodes 165 = .ok (.aload_n 0, 1) := by decide +kernel
theorem dL_nodes_166 : decode cL_nodes 166 = .ok (.iload 6, 2) := by decide +kernel
theorem dL_nodes_168 : decode cL_nodes 168 = .ok (.invokestatic 125, 3) := by decide +kernel
theorem dL_nodes_171 : decode cL_nodes 171 = .ok (.ifCond .lt 28, 3) := by decide +kernel
theorem dL_nodes_174 : decode cL_nodes 174 = .ok (.iload 5, 2) := by decide +kernel
theorem dL_nodes_176 : decode cL_nodes 176 = .ok (.ifCond .lt 14, 3) := by decide +kernel
theorem dL_nodes_179 : decode cL_nodes 179 = .ok (.aload_n 0, 1) := by decide +kernel
theorem dL_nodes_180 : decode cL_nodes 180 = .ok (.iload 6, 2) := by decide +kernel
theorem dL_nodes_182 : decode cL_nodes 182 = .ok (.invokestatic 125, 3) := by decide +kernel
theorem dL_nodes_185 : decode cL_nodes 185 = .ok (.iload 5, 2) := by decide +kernel
theorem dL_nodes_187 : decode cL_nodes 187 = .ok (.if_icmp .ge 12, 3) := by decide +kernel
theorem dL_nodes_190 : decode cL_nodes 190 = .ok (.aload_n 0, 1) := by decide +kernel
theorem dL_nodes_191 : decode cL_nodes 191 = .ok (.iload 6, 2) := by decide +kernel
theorem dL_nodes_193 : decode cL_nodes 193 = .ok (.invokestatic 125, 3) := by decide +kernel
theorem dL_nodes_196 : decode cL_nodes 196 = .ok (.goto 5, 3) := by decide +kernel
theorem dL_nodes_199 : decode cL_nodes 199 = .ok (.iload 5, 2) := by decide +kernel
theorem dL_nodes_201 : decode cL_nodes 201 = .ok (.istore 5, 2) := by decide +kernel
theorem dL_nodes_203 : decode cL_nodes 203 = .ok (.iload 7, 2) := by decide +kernel
theorem dL_nodes_205 : decode cL_nodes 205 = .ok (.aload_n 0, 1) := by decide +kernel
theorem dL_nodes_206 : decode cL_nodes 206 = .ok (.iload 6, 2) := by decide +kernel
theorem dL_nodes_208 : decode cL_nodes 208 = .ok (.iload_n 2, 1) := by decide +kernel
theorem dL_nodes_209 : decode cL_nodes 209 = .ok (.invokevirtual 121, 3) := by decide +kernel
theorem dL_nodes_212 : decode cL_nodes 212 = .ok (.if_icmp .ne 14, 3) := by decide +kernel
theorem dL_nodes_215 : decode cL_nodes 215 = .ok (.iload 7, 2) := by decide +kernel
theorem dL_nodes_217 : decode cL_nodes 217 = .ok (.ifCond .eq 11, 3) := by decide +kernel
theorem dL_nodes_220 : decode cL_nodes 220 = .ok (.iload_n 2, 1) := by decide +kernel
theorem dL_nodes_221 : decode cL_nodes 221 = .ok (.iload 6, 2) := by decide +kernel
theorem dL_nodes_223 : decode cL_nodes 223 = .ok (.if_icmp .ne 5, 3) := by decide +kernel
theorem dL_nodes_226 : decode cL_nodes 226 = .ok (.iconst 0, 1) := by decide +kernel
theorem dL_nodes_227 : decode cL_nodes 227 = .ok (.ireturn, 1) := by decide +kernel
theorem dL_nodes_228 : decode cL_nodes 228 = .ok (.iinc 6 1, 3) := by decide +kernel
theorem dL_nodes_231 : decode cL_nodes 231 = .ok (.goto (-87), 3) := by decide +kernel
theorem dL_nodes_234 : decode cL_nodes 234 = .ok (.iload_n 2, 1) := by decide +kernel
theorem dL_nodes_235 : decode cL_nodes 235 = .ok (.ifCond .le 24, 3) := by decide +kernel
theorem dL_nodes_238 : decode cL_nodes 238 = .ok (.aload_n 0, 1) := by decide +kernel
theorem dL_nodes_239 : decode cL_nodes 239 = .ok (.iload_n 2, 1) := by decide +kernel
theorem dL_nodes_240 : decode cL_nodes 240 = .ok (.invokestatic 125, 3) := by decide +kernel
theorem dL_nodes_243 : decode cL_nodes 243 = .ok (.iload 5, 2) := by decide +kernel
theorem dL_nodes_245 : decode cL_nodes 245 = .ok (.ifCond .ge 7, 3) := by decide +kernel
theorem dL_nodes_248 : decode cL_nodes 248 = .ok (.iconst (-1), 1) := by decide +kernel
theorem dL_nodes_249 : decode cL_nodes 249 = .ok (.goto 7, 3) := by decide +kernel
theorem dL_nodes_252 : decode cL_nodes 252 = .ok (.iload 5, 2) := by decide +kernel
theorem dL_nodes_254 : decode cL_nodes 254 = .ok (.iconst 1, 1) := by decide +kernel
theorem dL_nodes_255 : decode cL_nodes 255 = .ok (.iadd, 1) := by decide +kernel
theorem dL_nodes_256 : decode cL_nodes 256 = .ok (.if_icmp .ne 15, 3) := by decide +kernel
theorem dL_nodes_259 : decode cL_nodes 259 = .ok (.iload_n 2, 1) := by decide +kernel
theorem dL_nodes_260 : decode cL_nodes 260 = .ok (.ifCond .ne 13, 3) := by decide +kernel
theorem dL_nodes_263 : decode cL_nodes 263 = .ok (.aload_n 0, 1) := by decide +kernel
theorem dL_nodes_264 : decode cL_nodes 264 = .ok (.iconst 0, 1) := by decide +kernel
theorem dL_nodes_265 : decode cL_nodes 265 = .ok (.invokestatic 125, 3) := by decide +kernel
theorem dL_nodes_268 : decode cL_nodes 268 = .ok (.ifCond .le 5, 3) := by decide +kernel
theorem dL_nodes_271 : decode cL_nodes 271 = .ok (.iconst 0, 1) := by decide +kernel
theorem dL_nodes_272 : decode cL_nodes 272 = .ok (.ireturn, 1) := by decide +kernel
theorem dL_nodes_273 : decode cL_nodes 273 = .ok (.iinc 2 1, 3) := by decide +kernel
theorem dL_nodes_276 : decode cL_nodes 276 = .ok (.goto (-272), 3) := by decide +kernel
theorem dL_nodes_279 : decode cL_nodes 279 = .ok (.aload_n 0, 1) := by decide +kernel
theorem dL_nodes_280 : decode cL_nodes 280 = .ok (.invokevirtual 127, 3) := by decide +kernel
theorem dL_nodes_283 : decode cL_nodes 283 = .ok (.iload_n 1, 1) := by decide +kernel
theorem dL_nodes_284 : decode cL_nodes 284 = .ok (.i2d, 1) := by decide +kernel
theorem dL_nodes_285 : decode cL_nodes 285 = .ok (.ldc2_w 131, 3) := by decide +kernel
theorem dL_nodes_288 : decode cL_nodes 288 = .ok (.ddiv, 1) := by decide +kernel
theorem dL_nodes_289 : decode cL_nodes 289 = .ok (.dcmp .l, 1) := by decide +kernel
theorem dL_nodes_290 : decode cL_nodes 290 = .ok (.ifCond .ne 7, 3) := by decide +kernel
theorem dL_nodes_293 : decode cL_nodes 293 = .ok (.iconst 1, 1) := by decide +kernel
theorem dL_nodes_294 : decode cL_nodes 294 = .ok (.goto 4, 3) := by decide +kernel
theorem dL_nodes_297 : decode cL_nodes 297 = .ok (.iconst 0, 1) := by decide +kernel
theorem dL_nodes_298 : decode cL_nodes 298 = .ok (.ireturn, 1) := by decide +kernel
theorem dL_readings_0 : decode cL_readings 0 = .ok (.iconst 0, 1) := by decide +kernel
theorem dL_readings_1 : decode cL_readings 1 = .ok (.istore_n 1, 1) := by decide +kernel
theorem dL_readings_2 : decode cL_readings 2 = .ok (.iconst 0, 1) := by decide +kernel
theorem dL_readings_3 : decode cL_readings 3 = .ok (.istore_n 2, 1) := by decide +kernel
theorem dL_readings_4 : decode cL_readings 4 = .ok (.iconst 0, 1) := by decide +kernel
theorem dL_readings_5 : decode cL_readings 5 = .ok (.istore_n 3, 1) := by decide +kernel
theorem dL_readings_6 : decode cL_readings 6 = .ok (.iconst 0, 1) := by decide +kernel
theorem dL_readings_7 : decode cL_readings 7 = .ok (.istore 4, 2) := by decide +kernel
theorem dL_readings_9 : decode cL_readings 9 = .ok (.iload 4, 2) := by decide +kernel
theorem dL_readings_11 : decode cL_readings 11 = .ok (.aload_n 0, 1) := by decide +kernel
theorem dL_readings_12 : decode cL_readings 12 = .ok (.invokevirtual 133, 3) := by decide +kernel
theorem dL_readings_15 : decode cL_readings 15 = .ok (.if_icmp .ge 121, 3) := by decide +kernel
theorem dL_readings_18 : decode cL_readings 18 = .ok (.aload_n 0, 1) := by decide +kernel
theorem dL_readings_19 : decode cL_readings 19 = .ok (.iload 4, 2) := by decide +kernel
theorem dL_readings_21 : decode cL_readings 21 = .ok (.iconst 0, 1) := by decide +kernel
theorem dL_readings_22 : decode cL_readings 22 = .ok (.invokestatic 136, 3) := by decide +kernel
theorem dL_readings_25 : decode cL_readings 25 = .ok (.istore 5, 2) := by decide +kernel
theorem dL_readings_27 : decode cL_readings 27 = .ok (.aload_n 0, 1) := by decide +kernel
theorem dL_readings_28 : decode cL_readings 28 = .ok (.iload 4, 2) := by decide +kernel
theorem dL_readings_30 : decode cL_readings 30 = .ok (.iconst 1, 1) := by decide +kernel
theorem dL_readings_31 : decode cL_readings 31 = .ok (.invokestatic 136, 3) := by decide +kernel
theorem dL_readings_34 : decode cL_readings 34 = .ok (.istore 6, 2) := by decide +kernel
theorem dL_readings_36 : decode cL_readings 36 = .ok (.iload_n 1, 1) := by decide +kernel
theorem dL_readings_37 : decode cL_readings 37 = .ok (.aload_n 0, 1) := by decide +kernel
theorem dL_readings_38 : decode cL_readings 38 = .ok (.iload 4, 2) := by decide +kernel
theorem dL_readings_40 : decode cL_readings 40 = .ok (.iconst 3, 1) := by decide +kernel
theorem dL_readings_41 : decode cL_readings 41 = .ok (.invokestatic 136, 3) := by decide +kernel
theorem dL_readings_44 : decode cL_readings 44 = .ok (.aload_n 0, 1) := by decide +kernel
theorem dL_readings_45 : decode cL_readings 45 = .ok (.iload 4, 2) := by decide +kernel
theorem dL_readings_47 : decode cL_readings 47 = .ok (.iconst 4, 1) := by decide +kernel
theorem dL_readings_48 : decode cL_readings 48 = .ok (.invokestatic 136, 3) := by decide +kernel
theorem dL_readings_51 : decode cL_readings 51 = .ok (.if_icmp .ne 7, 3) := by decide +kernel
theorem dL_readings_54 : decode cL_readings 54 = .ok (.iconst 0, 1) := by decide +kernel
theorem dL_readings_55 : decode cL_readings 55 = .ok (.goto 4, 3) := by decide +kernel
theorem dL_readings_58 : decode cL_readings 58 = .ok (.iconst 1, 1) := by decide +kernel
theorem dL_readings_59 : decode cL_readings 59 = .ok (.iadd, 1) := by decide +kernel
theorem dL_readings_60 : decode cL_readings 60 = .ok (.istore_n 1, 1) := by decide +kernel
theorem dL_readings_61 : decode cL_readings 61 = .ok (.aload_n 0, 1) := by decide +kernel
theorem dL_readings_62 : decode cL_readings 62 = .ok (.iload 5, 2) := by decide +kernel
theorem dL_readings_64 : decode cL_readings 64 = .ok (.iload 6, 2) := by decide +kernel
theorem dL_readings_66 : decode cL_readings 66 = .ok (.invokestatic 138, 3) := by decide +kernel
theorem dL_readings_69 : decode cL_readings 69 = .ok (.ifCond .lt 17, 3) := by decide +kernel
theorem dL_readings_72 : decode cL_readings 72 = .ok (.aload_n 0, 1) := by decide +kernel
theorem dL_readings_73 : decode cL_readings 73 = .ok (.iload 4, 2) := by decide +kernel
theorem dL_readings_75 : decode cL_readings 75 = .ok (.iconst 3, 1) := by decide +kernel
theorem dL_readings_76 : decode cL_readings 76 = .ok (.invokestatic 136, 3) := by decide +kernel
theorem dL_readings_79 : decode cL_readings 79 = .ok (.aload_n 0, 1) := by decide +kernel
theorem dL_readings_80 : decode cL_readings 80 = .ok (.invokevirtual 116, 3) := by decide +kernel
theorem dL_readings_83 : decode cL_readings 83 = .ok (.if_icmp .lt 5, 3) := by decide +kernel
theorem dL_readings_86 : decode cL_readings 86 = .ok (.iconst 0, 1) := by decide +kernel
theorem dL_readings_87 : decode cL_readings 87 = .ok (.ireturn, 1) := by decide +kernel
theorem dL_readings_88 : decode cL_readings 88 = .ok (.iconst 0, 1) := by decide +kernel
theorem dL_readings_89 : decode cL_readings 89 = .ok (.istore 7, 2) := by decide +kernel
theorem dL_readings_91 : decode cL_readings 91 = .ok (.iload 7, 2) := by decide +kernel
theorem dL_readings_93 : decode cL_readings 93 = .ok (.iload 4, 2) := by decide +kernel
theorem dL_readings_95 : decode cL_readings 95 = .ok (.if_icmp .ge 35, 3) := by decide +kernel
theorem dL_readings_98 : decode cL_readings 98 = .ok (.aload_n 0, 1) := by decide +kernel
theorem dL_readings_99 : decode cL_readings 99 = .ok (.iload 7, 2) := by decide +kernel
theorem dL_readings_101 : decode cL_readings 101 = .ok (.iconst 0, 1) := by decide +kernel
theorem dL_readings_102 : decode cL_readings 102 = .ok (.invokestatic 136, 3) := by decide +kernel
theorem dL_readings_105 : decode cL_readings 105 = .ok (.iload 5, 2) := by decide +kernel
theorem dL_readings_107 : decode cL_readings 107 = .ok (.if_icmp .ne 17, 3) := by decide +kernel
theorem dL_readings_110 : decode cL_readings 110 = .ok (.aload_n 0, 1) := by decide +kernel
theorem dL_readings_111 : decode cL_readings 111 = .ok (.iload 7, 2) := by decide +kernel
theorem dL_readings_113 : decode cL_readings 113 = .ok (.iconst 1, 1) := by decide +kernel
theorem dL_readings_114 : decode cL_readings 114 = .ok (.invokestatic 136, 3) := by decide +kernel
theorem dL_readings_117 : decode cL_readings 117 = .ok (.iload 6, 2) := by decide +kernel
theorem dL_readings_119 : decode cL_readings 119 = .ok (.if_icmp .ne 5, 3) := by decide +kernel
theorem dL_readings_122 : decode cL_readings 122 = .ok (.iconst 0, 1) := by decide +kernel
theorem dL_readings_123 : decode cL_readings 123 = .ok (.ireturn, 1) := by decide +kernel
theorem dL_readings_124 : decode cL_readings 124 = .ok (.iinc 7 1, 3) := by decide +kernel
theorem dL_readings_127 : decode cL_readings 127 = .ok (.goto (-36), 3) := by decide +kernel
theorem dL_readings_130 : decode cL_readings 130 = .ok (.iinc 4 1, 3) := by decide +kernel
theorem dL_readings_133 : decode cL_readings 133 = .ok (.goto (-124), 3) := by decide +kernel
theorem dL_readings_136 : decode cL_readings 136 = .ok (.iconst 1, 1) := by decide +kernel
theorem dL_readings_137 : decode cL_readings 137 = .ok (.istore 4, 2) := by decide +kernel
theorem dL_readings_139 : decode cL_readings 139 = .ok (.iload 4, 2) := by decide +kernel
theorem dL_readings_141 : decode cL_readings 141 = .ok (.bipush 10, 2) := by decide +kernel
theorem dL_readings_143 : decode cL_readings 143 = .ok (.if_icmp .ge 244, 3) := by decide +kernel
theorem dL_readings_146 : decode cL_readings 146 = .ok (.iconst 0, 1) := by decide +kernel
theorem dL_readings_147 : decode cL_readings 147 = .ok (.istore 5, 2) := by decide +kernel
theorem dL_readings_149 : decode cL_readings 149 = .ok (.iload 5, 2) := by decide +kernel
theorem dL_readings_151 : decode cL_readings 151 = .ok (.aload_n 0, 1) := by decide +kernel
theorem dL_readings_152 : decode cL_readings 152 = .ok (.iload 4, 2) := by decide +kernel
theorem dL_readings_154 : decode cL_readings 154 = .ok (.invokestatic 140, 3) := by decide +kernel
theorem dL_readings_157 : decode cL_readings 157 = .ok (.if_icmp .ge 113, 3) := by decide +kernel
theorem dL_readings_160 : decode cL_readings 160 = .ok (.aload_n 0, 1) := by decide +kernel
theorem dL_readings_161 : decode cL_readings 161 = .ok (.iload 4, 2) := by decide +kernel
theorem dL_readings_163 : decode cL_readings 163 = .ok (.iload 5, 2) := by decide +kernel
theorem dL_readings_165 : decode cL_readings 165 = .ok (.iconst 0, 1) := by decide +kernel
theorem dL_readings_166 : decode cL_readings 166 = .ok (.invokestatic 142, 3) := by decide +kernel
theorem dL_readings_169 : decode cL_readings 169 = .ok (.istore 6, 2) := by decide +kernel
theorem dL_readings_171 : decode cL_readings 171 = .ok (.aload_n 0, 1) := by decide +kernel
theorem dL_readings_172 : decode cL_readings 172 = .ok (.iload 4, 2) := by decide +kernel
theorem dL_readings_174 : decode cL_readings 174 = .ok (.iload 5, 2) := by decide +kernel
theorem dL_readings_176 : decode cL_readings 176 = .ok (.iconst 1, 1) := by decide +kernel
theorem dL_readings_177 : decode cL_readings 177 = .ok (.invokestatic 142, 3) := by decide +kernel
theorem dL_readings_180 : decode cL_readings 180 = .ok (.istore 7, 2) := by decide +kernel
theorem dL_readings_182 : decode cL_readings 182 = .ok (.aload_n 0, 1) := by decide +kernel
theorem dL_readings_183 : decode cL_readings 183 = .ok (.iload 6, 2) := by decide +kernel
theorem dL_readings_185 : decode cL_readings 185 = .ok (.iload 7, 2) := by decide +kernel
theorem dL_readings_187 : decode cL_readings 187 = .ok (.invokestatic 138, 3) := by decide +kernel
theorem dL_readings_190 : decode cL_readings 190 = .ok (.iconst 1, 1) := by decide +kernel
theorem dL_readings_191 : decode cL_readings 191 = .ok (.if_icmp .lt 25, 3) := by decide +kernel
theorem dL_readings_194 : decode cL_readings 194 = .ok (.aload_n 0, 1) := by decide +kernel
theorem dL_readings_195 : decode cL_readings 195 = .ok (.iload 4, 2) := by decide +kernel
theorem dL_readings_197 : decode cL_readings 197 = .ok (.iload 5, 2) := by decide +kernel
theorem dL_readings_199 : decode cL_readings 199 = .ok (.iconst 3, 1) := by decide +kernel
theorem dL_readings_200 : decode cL_readings 200 = .ok (.invokestatic 142, 3) := by decide +kernel
theorem dL_readings_203 : decode cL_readings 203 = .ok (.aload_n 0, 1) := by decide +kernel
theorem dL_readings_204 : decode cL_readings 204 = .ok (.invokevirtual 116, 3) := by decide +kernel
theorem dL_readings_207 : decode cL_readings 207 = .ok (.if_icmp .gt 9, 3) := by decide +kernel
theorem dL_readings_210 : decode cL_readings 210 = .ok (.iload 5, 2) := by decide +kernel
theorem dL_readings_212 : decode cL_readings 212 = .ok (.iconst 5, 1) := by decide +kernel
theorem dL_readings_213 : decode cL_readings 213 = .ok (.if_icmp .le 5, 3) := by decide +kernel
theorem dL_readings_216 : decode cL_readings 216 = .ok (.iconst 0, 1) := by decide +kernel
theorem dL_readings_217 : decode cL_readings 217 = .ok (.ireturn, 1) := by decide +kernel
theorem dL_readings_218 : decode cL_readings 218 = .ok (.iconst 0, 1) := by decide +kernel
theorem dL_readings_219 : decode cL_readings 219 = .ok (.istore 8, 2) := by decide +kernel
theorem dL_readings_221 : decode cL_readings 221 = .ok (.iload 8, 2) := by decide +kernel
theorem dL_readings_223 : decode cL_readings 223 = .ok (.iload 5, 2) := by decide +kernel
theorem dL_readings_225 : decode cL_readings 225 = .ok (.if_icmp .ge 39, 3) := by decide +kernel
theorem dL_readings_228 : decode cL_readings 228 = .ok (.aload_n 0, 1) := by decide +kernel
theorem dL_readings_229 : decode cL_readings 229 = .ok (.iload 4, 2) := by decide +kernel
theorem dL_readings_231 : decode cL_readings 231 = .ok (.iload 8, 2) := by decide +kernel
theorem dL_readings_233 : decode cL_readings 233 = .ok (.iconst 0, 1) := by decide +kernel
theorem dL_readings_234 : decode cL_readings 234 = .ok (.invokestatic 142, 3) := by decide +kernel
theorem dL_readings_237 : decode cL_readings 237 = .ok (.iload 6, 2) := by decide +kernel
theorem dL_readings_239 : decode cL_readings 239 = .ok (.if_icmp .ne 19, 3) := by decide +kernel
theorem dL_readings_242 : decode cL_readings 242 = .ok (.aload_n 0, 1) := by decide +kernel
theorem dL_readings_243 : decode cL_readings 243 = .ok (.iload 4, 2) := by decide +kernel
theorem dL_readings_245 : decode cL_readings 245 = .ok (.iload 8, 2) := by decide +kernel
theorem dL_readings_247 : decode cL_readings 247 = .ok (.iconst 1, 1) := by decide +kernel
theorem dL_readings_248 : decode cL_readings 248 = .ok (.invokestatic 142, 3) := by decide +kernel
theorem dL_readings_251 : decode cL_readings 251 = .ok (.iload 7, 2) := by decide +kernel
theorem dL_readings_253 : decode cL_readings 253 = .ok (.if_icmp .ne 5, 3) := by decide +kernel
theorem dL_readings_256 : decode cL_readings 256 = .ok (.iconst 0, 1) := by decide +kernel
theorem dL_readings_257 : decode cL_readings 257 = .ok (.ireturn, 1) := by decide +kernel
theorem dL_readings_258 : decode cL_readings 258 = .ok (.iinc 8 1, 3) := by decide +kernel
theorem dL_readings_261 : decode cL_readings 261 = .ok (.goto (-40), 3) := by decide +kernel
theorem dL_readings_264 : decode cL_readings 264 = .ok (.iinc 5 1, 3) := by decide +kernel
theorem dL_readings_267 : decode cL_readings 267 = .ok (.goto (-118), 3) := by decide +kernel
theorem dL_readings_270 : decode cL_readings 270 = .ok (.iconst 0, 1) := by decide +kernel
theorem dL_readings_271 : decode cL_readings 271 = .ok (.istore 5, 2) := by decide +kernel
theorem dL_readings_273 : decode cL_readings 273 = .ok (.aload_n 0, 1) := by decide +kernel
theorem dL_readings_274 : decode cL_readings 274 = .ok (.iload 4, 2) := by decide +kernel
theorem dL_readings_276 : decode cL_readings 276 = .ok (.iload 5, 2) := by decide +kernel
theorem dL_readings_278 : decode cL_readings 278 = .ok (.invokestatic 138, 3) := by decide +kernel
theorem dL_readings_281 : decode cL_readings 281 = .ok (.ifCond .lt 100, 3) := by decide +kernel
theorem dL_readings_284 : decode cL_readings 284 = .ok (.iconst 0, 1) := by decide +kernel
theorem dL_readings_285 : decode cL_readings 285 = .ok (.istore 6, 2) := by decide +kernel
theorem dL_readings_287 : decode cL_readings 287 = .ok (.iconst 0, 1) := by decide +kernel
theorem dL_readings_288 : decode cL_readings 288 = .ok (.istore 7, 2) := by decide +kernel
theorem dL_readings_290 : decode cL_readings 290 = .ok (.iload 7, 2) := by decide +kernel
theorem dL_readings_292 : decode cL_readings 292 = .ok (.aload_n 0, 1) := by decide +kernel
theorem dL_readings_293 : decode cL_readings 293 = .ok (.invokevirtual 133, 3) := by decide +kernel
theorem dL_readings_296 : decode cL_readings 296 = .ok (.if_icmp .ge 45, 3) := by decide +kernel
theorem dL_readings_299 : decode cL_readings 299 = .ok (.iload 6, 2) := by decide +kernel
theorem dL_readings_301 : decode cL_readings 301 = .ok (.ifCond .ne 27, 3) := by decide +kernel
theorem dL_readings_304 : decode cL_readings 304 = .ok (.aload_n 0, 1) := by decide +kernel
theorem dL_readings_305 : decode cL_readings 305 = .ok (.iload 7, 2) := by decide +kernel
theorem dL_readings_307 : decode cL_readings 307 = .ok (.iconst 0, 1) := by decide +kernel
theorem dL_readings_308 : decode cL_readings 308 = .ok (.invokestatic 136, 3) := by decide +kernel
theorem dL_readings_311 : decode cL_readings 311 = .ok (.iload 4, 2) := by decide +kernel
theorem dL_readings_313 : decode cL_readings 313 = .ok (.if_icmp .ne 19, 3) := by decide +kernel
theorem dL_readings_316 : decode cL_readings 316 = .ok (.aload_n 0, 1) := by decide +kernel
theorem dL_readings_317 : decode cL_readings 317 = .ok (.iload 7, 2) := by decide +kernel
theorem dL_readings_319 : decode cL_readings 319 = .ok (.iconst 1, 1) := by decide +kernel
theorem dL_readings_320 : decode cL_readings 320 = .ok (.invokestatic 136, 3) := by decide +kernel
theorem dL_readings_323 : decode cL_readings 323 = .ok (.iload 5, 2) := by decide +kernel
theorem dL_readings_325 : decode cL_readings 325 = .ok (.if_icmp .ne 7, 3) := by decide +kernel
theorem dL_readings_328 : decode cL_readings 328 = .ok (.iconst 1, 1) := by decide +kernel
theorem dL_readings_329 : decode cL_readings 329 = .ok (.goto 4, 3) := by decide +kernel
theorem dL_readings_332 : decode cL_readings 332 = .ok (.iconst 0, 1) := by decide +kernel
theorem dL_readings_333 : decode cL_readings 333 = .ok (.istore 6, 2) := by decide +kernel
theorem dL_readings_335 : decode cL_readings 335 = .ok (.iinc 7 1, 3) := by decide +kernel
theorem dL_readings_338 : decode cL_readings 338 = .ok (.goto (-48), 3) := by decide +kernel
theorem dL_readings_341 : decode cL_readings 341 = .ok (.iinc 3 1, 3) := by decide +kernel
theorem dL_readings_344 : decode cL_readings 344 = .ok (.iload_n 2, 1) := by decide +kernel
theorem dL_readings_345 : decode cL_readings 345 = .ok (.iload 6, 2) := by decide +kernel
theorem dL_readings_347 : decode cL_readings 347 = .ok (.ifCond .eq 7, 3) := by decide +kernel
theorem dL_readings_350 : decode cL_readings 350 = .ok (.iconst 0, 1) := by decide +kernel
theorem dL_readings_351 : decode cL_readings 351 = .ok (.goto 4, 3) := by decide +kernel
theorem dL_readings_354 : decode cL_readings 354 = .ok (.iconst 1, 1) := by decide +kernel
theorem dL_readings_355 : decode cL_readings 355 = .ok (.iadd, 1) := by decide +kernel
theorem dL_readings_356 : decode cL_readings 356 = .ok (.istore_n 2, 1) := by decide +kernel
theorem dL_readings_357 : decode cL_readings 357 = .ok (.iload 6, 2) := by decide +kernel
theorem dL_readings_359 : decode cL_readings 359 = .ok (.ifCond .ne 16, 3) := by decide +kernel
theorem dL_readings_362 : decode cL_readings 362 = .ok (.aload_n 0, 1) := by decide +kernel
theorem dL_readings_363 : decode cL_readings 363 = .ok (.iload 4, 2) := by decide +kernel
theorem dL_readings_365 : decode cL_readings 365 = .ok (.iload 5, 2) := by decide +kernel
theorem dL_readings_367 : decode cL_readings 367 = .ok (.invokestatic 138, 3) := by decide +kernel
theorem dL_readings_370 : decode cL_readings 370 = .ok (.ifCond .ne 5, 3) := by decide +kernel
theorem dL_readings_373 : decode cL_readings 373 = .ok (.iconst 0, 1) := by decide +kernel
theorem dL_readings_374 : decode cL_readings 374 = .ok (.ireturn, 1) := by decide +kernel
theorem dL_readings_375 : decode cL_readings 375 = .ok (.iinc 5 1, 3) := by decide +kernel
theorem dL_readings_378 : decode cL_readings 378 = .ok (.goto (-105), 3) := by decide +kernel
theorem dL_readings_381 : decode cL_readings 381 = .ok (.iinc 4 1, 3) := by decide +kernel
theorem dL_readings_384 : decode cL_readings 384 = .ok (.goto (-245), 3) := by decide +kernel
theorem dL_readings_387 : decode cL_readings 387 = .ok (.aload_n 0, 1) := by decide +kernel
theorem dL_readings_388 : decode cL_readings 388 = .ok (.invokevirtual 145, 3) := by decide +kernel
theorem dL_readings_391 : decode cL_readings 391 = .ok (.iload_n 1, 1) := by decide +kernel
theorem dL_readings_392 : decode cL_readings 392 = .ok (.if_icmp .ne 77, 3) := by decide +kernel
theorem dL_readings_395 : decode cL_readings 395 = .ok (.aload_n 0, 1) := by decide +kernel
theorem dL_readings_396 : decode cL_readings 396 = .ok (.invokevirtual 148, 3) := by decide +kernel
theorem dL_readings_399 : decode cL_readings 399 = .ok (.iload_n 2, 1) := by decide +kernel
theorem dL_readings_400 : decode cL_readings 400 = .ok (.if_icmp .ne 69, 3) := by decide +kernel
theorem dL_readings_403 : decode cL_readings 403 = .ok (.aload_n 0, 1) := by decide +kernel
theorem dL_readings_404 : decode cL_readings 404 = .ok (.iconst 0, 1) := by decide +kernel
theorem dL_readings_405 : decode cL_readings 405 = .ok (.invokestatic 151, 3) := by decide +kernel
theorem dL_readings_408 : decode cL_readings 408 = .ok (.iload_n 3, 1) := by decide +kernel
theorem dL_readings_409 : decode cL_readings 409 = .ok (.if_icmp .ne 60, 3) := by decide +kernel
theorem dL_readings_412 : decode cL_readings 412 = .ok (.iload_n 3, 1) := by decide +kernel
theorem dL_readings_413 : decode cL_readings 413 = .ok (.aload_n 0, 1) := by decide +kernel
theorem dL_readings_414 : decode cL_readings 414 = .ok (.invokevirtual 133, 3) := by decide +kernel
theorem dL_readings_417 : decode cL_readings 417 = .ok (.iload_n 2, 1) := by decide +kernel
theorem dL_readings_418 : decode cL_readings 418 = .ok (.iadd, 1) := by decide +kernel
theorem dL_readings_419 : decode cL_readings 419 = .ok (.if_icmp .ne 50, 3) := by decide +kernel
theorem dL_readings_422 : decode cL_readings 422 = .ok (.aload_n 0, 1) := by decide +kernel
theorem dL_readings_423 : decode cL_readings 423 = .ok (.iconst 1, 1) := by decide +kernel
theorem dL_readings_424 : decode cL_readings 424 = .ok (.invokestatic 151, 3) := by decide +kernel
theorem dL_readings_427 : decode cL_readings 427 = .ok (.aload_n 0, 1) := by decide +kernel
theorem dL_readings_428 : decode cL_readings 428 = .ok (.iconst 2, 1) := by decide +kernel
theorem dL_readings_429 : decode cL_readings 429 = .ok (.invokestatic 151, 3) := by decide +kernel
theorem dL_readings_432 : decode cL_readings 432 = .ok (.aload_n 0, 1) := by decide +kernel
theorem dL_readings_433 : decode cL_readings 433 = .ok (.iconst 3, 1) := by decide +kernel
theorem dL_readings_434 : decode cL_readings 434 = .ok (.invokestatic 151, 3) := by decide +kernel
theorem dL_readings_437 : decode cL_readings 437 = .ok (.iadd, 1) := by decide +kernel
theorem dL_readings_438 : decode cL_readings 438 = .ok (.if_icmp .lt 31, 3) := by decide +kernel
theorem dL_readings_441 : decode cL_readings 441 = .ok (.aload_n 0, 1) := by decide +kernel
theorem dL_readings_442 : decode cL_readings 442 = .ok (.iconst 1, 1) := by decide +kernel
theorem dL_readings_443 : decode cL_readings 443 = .ok (.invokestatic 151, 3) := by decide +kernel
theorem dL_readings_446 : decode cL_readings 446 = .ok (.aload_n 0, 1) := by decide +kernel
theorem dL_readings_447 : decode cL_readings 447 = .ok (.iconst 2, 1) := by decide +kernel
theorem dL_readings_448 : decode cL_readings 448 = .ok (.invokestatic 151, 3) := by decide +kernel
theorem dL_readings_451 : decode cL_readings 451 = .ok (.isub, 1) := by decide +kernel
theorem dL_readings_452 : decode cL_readings 452 = .ok (.aload_n 0, 1) := by decide +kernel
theorem dL_readings_453 : decode cL_readings 453 = .ok (.iconst 3, 1) := by decide +kernel
theorem dL_readings_454 : decode cL_readings 454 = .ok (.invokestatic 151, 3) := by decide +kernel
theorem dL_readings_457 : decode cL_readings 457 = .ok (.isub, 1) := by decide +kernel
theorem dL_readings_458 : decode cL_readings 458 = .ok (.aload_n 0, 1) := by decide +kernel
theorem dL_readings_459 : decode cL_readings 459 = .ok (.invokevirtual 133, 3) := by decide +kernel
theorem dL_readings_462 : decode cL_readings 462 = .ok (.if_icmp .lt 7, 3) := by decide +kernel
theorem dL_readings_465 : decode cL_readings 465 = .ok (.iconst 1, 1) := by decide +kernel
theorem dL_readings_466 : decode cL_readings 466 = .ok (.goto 4, 3) := by decide +kernel
theorem dL_readings_469 : decode cL_readings 469 = .ok (.iconst 0, 1) := by decide +kernel
theorem dL_readings_470 : decode cL_readings 470 = .ok (.ireturn, 1) := by decide +kernel
theorem dL_print_0 : decode cL_print 0 = .ok (.aload_n 0, 1) := by decide +kernel
theorem dL_print_1 : decode cL_print 1 = .ok (.invokevirtual 116, 3) := by decide +kernel
theorem dL_print_4 : decode cL_print 4 = .ok (.i2l, 1) := by decide +kernel
theorem dL_print_5 : decode cL_print 5 = .ok (.lstore_n 1, 1) := by decide +kernel
theorem dL_print_6 : decode cL_print 6 = .ok (.iconst 0, 1) := by decide +kernel
theorem dL_print_7 : decode cL_print 7 = .ok (.istore_n 3, 1) := by decide +kernel
theorem dL_print_8 : decode cL_print 8 = .ok (.iload_n 3, 1) := by decide +kernel
theorem dL_print_9 : decode cL_print 9 = .ok (.bipush 10, 2) := by decide +kernel
theorem dL_print_11 : decode cL_print 11 = .ok (.if_icmp .ge 132, 3) := by decide +kernel
theorem dL_print_14 : decode cL_print 14 = .ok (.ldc2_w 153, 3) := by decide +kernel
theorem dL_print_17 : decode cL_print 17 = .ok (.lload_n 1, 1) := by decide +kernel
theorem dL_print_18 : decode cL_print 18 = .ok (.lmul, 1) := by decide +kernel
theorem dL_print_19 : decode cL_print 19 = .ok (.ldc2_w 155, 3) := by decide +kernel
theorem dL_print_22 : decode cL_print 22 = .ok (.aload_n 0, 1) := by decide +kernel
theorem dL_print_23 : decode cL_print 23 = .ok (.iload_n 3, 1) := by decide +kernel
theorem dL_print_24 : decode cL_print 24 = .ok (.invokestatic 110, 3) := by decide +kernel
theorem dL_print_27 : decode cL_print 27 = .ok (.i2l, 1) := by decide +kernel
theorem dL_print_28 : decode cL_print 28 = .ok (.lmul, 1) := by decide +kernel
theorem dL_print_29 : decode cL_print 29 = .ok (.ladd, 1) := by decide +kernel
theorem dL_print_30 : decode cL_print 30 = .ok (.aload_n 0, 1) := by decide +kernel
theorem dL_print_31 : decode cL_print 31 = .ok (.iload_n 3, 1) := by decide +kernel
theorem dL_print_32 : decode cL_print 32 = .ok (.invokestatic 112, 3) := by decide +kernel
theorem dL_print_35 : decode cL_print 35 = .ok (.i2l, 1) := by decide +kernel
theorem dL_print_36 : decode cL_print 36 = .ok (.ladd, 1) := by decide +kernel
theorem dL_print_37 : decode cL_print 37 = .ok (.lstore_n 1, 1) := by decide +kernel
theorem dL_print_38 : decode cL_print 38 = .ok (.ldc2_w 153, 3) := by decide +kernel
theorem dL_print_41 : decode cL_print 41 = .ok (.lload_n 1, 1) := by decide +kernel
theorem dL_print_42 : decode cL_print 42 = .ok (.lmul, 1) := by decide +kernel
theorem dL_print_43 : decode cL_print 43 = .ok (.aload_n 0, 1) := by decide +kernel
theorem dL_print_44 : decode cL_print 44 = .ok (.iload_n 3, 1) := by decide +kernel
theorem dL_print_45 : decode cL_print 45 = .ok (.invokestatic 114, 3) := by decide +kernel
theorem dL_print_48 : decode cL_print 48 = .ok (.i2l, 1) := by decide +kernel
theorem dL_print_49 : decode cL_print 49 = .ok (.ladd, 1) := by decide +kernel
theorem dL_print_50 : decode cL_print 50 = .ok (.lstore_n 1, 1) := by decide +kernel
theorem dL_print_51 : decode cL_print 51 = .ok (.ldc2_w 153, 3) := by decide +kernel
theorem dL_print_54 : decode cL_print 54 = .ok (.lload_n 1, 1) := by decide +kernel
theorem dL_print_55 : decode cL_print 55 = .ok (.lmul, 1) := by decide +kernel
theorem dL_print_56 : decode cL_print 56 = .ok (.aload_n 0, 1) := by decide +kernel
theorem dL_print_57 : decode cL_print 57 = .ok (.iload_n 3, 1) := by decide +kernel
theorem dL_print_58 : decode cL_print 58 = .ok (.invokestatic 125, 3) := by decide +kernel
theorem dL_print_61 : decode cL_print 61 = .ok (.i2l, 1) := by decide +kernel
theorem dL_print_62 : decode cL_print 62 = .ok (.ladd, 1) := by decide +kernel
theorem dL_print_63 : decode cL_print 63 = .ok (.lstore_n 1, 1) := by decide +kernel
theorem dL_print_64 : decode cL_print 64 = .ok (.ldc2_w 153, 3) := by decide +kernel
theorem dL_print_67 : decode cL_print 67 = .ok (.lload_n 1, 1) := by decide +kernel
theorem dL_print_68 : decode cL_print 68 = .ok (.lmul, 1) := by decide +kernel
theorem dL_print_69 : decode cL_print 69 = .ok (.iload_n 3, 1) := by decide +kernel
theorem dL_print_70 : decode cL_print 70 = .ok (.ifCond .ne 7, 3) := by decide +kernel
theorem dL_print_73 : decode cL_print 73 = .ok (.lconst 0, 1) := by decide +kernel
theorem dL_print_74 : decode cL_print 74 = .ok (.goto 20, 3) := by decide +kernel
theorem dL_print_77 : decode cL_print 77 = .ok (.ldc2_w 157, 3) := by decide +kernel
theorem dL_print_80 : decode cL_print 80 = .ok (.aload_n 0, 1) := by decide +kernel
theorem dL_print_81 : decode cL_print 81 = .ok (.iload_n 3, 1) := by decide +kernel
theorem dL_print_82 : decode cL_print 82 = .ok (.invokestatic 119, 3) := by decide +kernel
theorem dL_print_85 : decode cL_print 85 = .ok (.i2l, 1) := by decide +kernel
theorem dL_print_86 : decode cL_print 86 = .ok (.lmul, 1) := by decide +kernel
theorem dL_print_87 : decode cL_print 87 = .ok (.aload_n 0, 1) := by decide +kernel
theorem dL_print_88 : decode cL_print 88 = .ok (.iload_n 3, 1) := by decide +kernel
theorem dL_print_89 : decode cL_print 89 = .ok (.invokestatic 159, 3) := by decide +kernel
theorem dL_print_92 : decode cL_print 92 = .ok (.i2l, 1) := by decide +kernel
theorem dL_print_93 : decode cL_print 93 = .ok (.ladd, 1) := by decide +kernel
theorem dL_print_94 : decode cL_print 94 = .ok (.ladd, 1) := by decide +kernel
theorem dL_print_95 : decode cL_print 95 = .ok (.lstore_n 1, 1) := by decide +kernel
theorem dL_print_96 : decode cL_print 96 = .ok (.iconst 0, 1) := by decide +kernel
theorem dL_print_97 : decode cL_print 97 = .ok (.istore 4, 2) := by decide +kernel
theorem dL_print_99 : decode cL_print 99 = .ok (.iload 4, 2) := by decide +kernel
theorem dL_print_101 : decode cL_print 101 = .ok (.bipush 30, 2) := by decide +kernel
theorem dL_print_103 : decode cL_print 103 = .ok (.if_icmp .ge 34, 3) := by decide +kernel
theorem dL_print_106 : decode cL_print 106 = .ok (.iload_n 3, 1) := by decide +kernel
theorem dL_print_107 : decode cL_print 107 = .ok (.ifCond .le 30, 3) := by decide +kernel
theorem dL_print_110 : decode cL_print 110 = .ok (.ldc2_w 153, 3) := by decide +kernel
theorem dL_print_113 : decode cL_print 113 = .ok (.lload_n 1, 1) := by decide +kernel
theorem dL_print_114 : decode cL_print 114 = .ok (.lmul, 1) := by decide +kernel
theorem dL_print_115 : decode cL_print 115 = .ok (.aload_n 0, 1) := by decide +kernel
theorem dL_print_116 : decode cL_print 116 = .ok (.iload_n 3, 1) := by decide +kernel
theorem dL_print_117 : decode cL_print 117 = .ok (.iload 4, 2) := by decide +kernel
theorem dL_print_119 : decode cL_print 119 = .ok (.iconst 5, 1) := by decide +kernel
theorem dL_print_120 : decode cL_print 120 = .ok (.idiv, 1) := by decide +kernel
theorem dL_print_121 : decode cL_print 121 = .ok (.iload 4, 2) := by decide +kernel
theorem dL_print_123 : decode cL_print 123 = .ok (.iconst 5, 1) := by decide +kernel
theorem dL_print_124 : decode cL_print 124 = .ok (.irem, 1) := by decide +kernel
theorem dL_print_125 : decode cL_print 125 = .ok (.invokestatic 142, 3) := by decide +kernel
theorem dL_print_128 : decode cL_print 128 = .ok (.i2l, 1) := by decide +kernel
theorem dL_print_129 : decode cL_print 129 = .ok (.ladd, 1) := by decide +kernel
theorem dL_print_130 : decode cL_print 130 = .ok (.lstore_n 1, 1) := by decide +kernel
theorem dL_print_131 : decode cL_print 131 = .ok (.iinc 4 1, 3) := by decide +kernel
theorem dL_print_134 : decode cL_print 134 = .ok (.goto (-35), 3) := by decide +kernel
theorem dL_print_137 : decode cL_print 137 = .ok (.iinc 3 1, 3) := by decide +kernel
theorem dL_print_140 : decode cL_print 140 = .ok (.goto (-132), 3) := by decide +kernel
theorem dL_print_143 : decode cL_print 143 = .ok (.iconst 0, 1) := by decide +kernel
theorem dL_print_144 : decode cL_print 144 = .ok (.istore_n 3, 1) := by decide +kernel
theorem dL_print_145 : decode cL_print 145 = .ok (.iload_n 3, 1) := by decide +kernel
theorem dL_print_146 : decode cL_print 146 = .ok (.iconst 5, 1) := by decide +kernel
theorem dL_print_147 : decode cL_print 147 = .ok (.aload_n 0, 1) := by decide +kernel
theorem dL_print_148 : decode cL_print 148 = .ok (.invokevirtual 133, 3) := by decide +kernel
theorem dL_print_151 : decode cL_print 151 = .ok (.imul, 1) := by decide +kernel
theorem dL_print_152 : decode cL_print 152 = .ok (.if_icmp .ge 27, 3) := by decide +kernel
theorem dL_print_155 : decode cL_print 155 = .ok (.ldc2_w 153, 3) := by decide +kernel
theorem dL_print_158 : decode cL_print 158 = .ok (.lload_n 1, 1) := by decide +kernel
theorem dL_print_159 : decode cL_print 159 = .ok (.lmul, 1) := by decide +kernel
theorem dL_print_160 : decode cL_print 160 = .ok (.aload_n 0, 1) := by decide +kernel
theorem dL_print_161 : decode cL_print 161 = .ok (.iload_n 3, 1) := by decide +kernel
theorem dL_print_162 : decode cL_print 162 = .ok (.iconst 5, 1) := by decide +kernel
theorem dL_print_163 : decode cL_print 163 = .ok (.idiv, 1) := by decide +kernel
theorem dL_print_164 : decode cL_print 164 = .ok (.iload_n 3, 1) := by decide +kernel
theorem dL_print_165 : decode cL_print 165 = .ok (.iconst 5, 1) := by decide +kernel
theorem dL_print_166 : decode cL_print 166 = .ok (.irem, 1) := by decide +kernel
theorem dL_print_167 : decode cL_print 167 = .ok (.invokestatic 136, 3) := by decide +kernel
theorem dL_print_170 : decode cL_print 170 = .ok (.i2l, 1) := by decide +kernel
theorem dL_print_171 : decode cL_print 171 = .ok (.ladd, 1) := by decide +kernel
theorem dL_print_172 : decode cL_print 172 = .ok (.lstore_n 1, 1) := by decide +kernel
theorem dL_print_173 : decode cL_print 173 = .ok (.iinc 3 1, 3) := by decide +kernel
theorem dL_print_176 : decode cL_print 176 = .ok (.goto (-31), 3) := by decide +kernel
theorem dL_print_179 : decode cL_print 179 = .ok (.iconst 0, 1) := by decide +kernel
theorem dL_print_180 : decode cL_print 180 = .ok (.istore_n 3, 1) := by decide +kernel
theorem dL_print_181 : decode cL_print 181 = .ok (.iload_n 3, 1) := by decide +kernel
theorem dL_print_182 : decode cL_print 182 = .ok (.bipush 6, 2) := by decide +kernel
theorem dL_print_184 : decode cL_print 184 = .ok (.if_icmp .ge 22, 3) := by decide +kernel
theorem dL_print_187 : decode cL_print 187 = .ok (.ldc2_w 153, 3) := by decide +kernel
theorem dL_print_190 : decode cL_print 190 = .ok (.lload_n 1, 1) := by decide +kernel
theorem dL_print_191 : decode cL_print 191 = .ok (.lmul, 1) := by decide +kernel
theorem dL_print_192 : decode cL_print 192 = .ok (.aload_n 0, 1) := by decide +kernel
theorem dL_print_193 : decode cL_print 193 = .ok (.iload_n 3, 1) := by decide +kernel
theorem dL_print_194 : decode cL_print 194 = .ok (.invokestatic 151, 3) := by decide +kernel
theorem dL_print_197 : decode cL_print 197 = .ok (.i2l, 1) := by decide +kernel
theorem dL_print_198 : decode cL_print 198 = .ok (.ladd, 1) := by decide +kernel
theorem dL_print_199 : decode cL_print 199 = .ok (.lstore_n 1, 1) := by decide +kernel
theorem dL_print_200 : decode cL_print 200 = .ok (.iinc 3 1, 3) := by decide +kernel
theorem dL_print_203 : decode cL_print 203 = .ok (.goto (-22), 3) := by decide +kernel
theorem dL_print_206 : decode cL_print 206 = .ok (.lload_n 1, 1) := by decide +kernel
theorem dL_print_207 : decode cL_print 207 = .ok (.lreturn, 1) := by decide +kernel
theorem dL_runs_0 : decode cL_runs 0 = .ok (.aload_n 0, 1) := by decide +kernel
theorem dL_runs_1 : decode cL_runs 1 = .ok (.iload_n 1, 1) := by decide +kernel
theorem dL_runs_2 : decode cL_runs 2 = .ok (.invokestatic 161, 3) := by decide +kernel
theorem dL_runs_5 : decode cL_runs 5 = .ok (.istore_n 2, 1) := by decide +kernel
theorem dL_runs_6 : decode cL_runs 6 = .ok (.aload_n 0, 1) := by decide +kernel
theorem dL_runs_7 : decode cL_runs 7 = .ok (.invokevirtual 163, 3) := by decide +kernel
theorem dL_runs_10 : decode cL_runs 10 = .ok (.istore_n 3, 1) := by decide +kernel
theorem dL_runs_11 : decode cL_runs 11 = .ok (.aload_n 0, 1) := by decide +kernel
theorem dL_runs_12 : decode cL_runs 12 = .ok (.invokevirtual 133, 3) := by decide +kernel
theorem dL_runs_15 : decode cL_runs 15 = .ok (.istore 4, 2) := by decide +kernel
theorem dL_runs_17 : decode cL_runs 17 = .ok (.aload_n 0, 1) := by decide +kernel
theorem dL_runs_18 : decode cL_runs 18 = .ok (.invokevirtual 116, 3) := by decide +kernel
theorem dL_runs_21 : decode cL_runs 21 = .ok (.istore 5, 2) := by decide +kernel
theorem dL_runs_23 : decode cL_runs 23 = .ok (.aload_n 0, 1) := by decide +kernel
theorem dL_runs_24 : decode cL_runs 24 = .ok (.invokevirtual 148, 3) := by decide +kernel
theorem dL_runs_27 : decode cL_runs 27 = .ok (.istore 6, 2) := by decide +kernel
theorem dL_runs_29 : decode cL_runs 29 = .ok (.aload_n 0, 1) := by decide +kernel
theorem dL_runs_30 : decode cL_runs 30 = .ok (.invokestatic 166, 3) := by decide +kernel
theorem dL_runs_33 : decode cL_runs 33 = .ok (.lstore 7, 2) := by decide +kernel
theorem dL_runs_35 : decode cL_runs 35 = .ok (.aload_n 0, 1) := by decide +kernel
theorem dL_runs_36 : decode cL_runs 36 = .ok (.iload_n 1, 1) := by decide +kernel
theorem dL_runs_37 : decode cL_runs 37 = .ok (.invokestatic 108, 3) := by decide +kernel
theorem dL_runs_40 : decode cL_runs 40 = .ok (.iload_n 2, 1) := by decide +kernel
theorem dL_runs_41 : decode cL_runs 41 = .ok (.if_icmp .ne 87, 3) := by decide +kernel
theorem dL_runs_44 : decode cL_runs 44 = .ok (.aload_n 0, 1) := by decide +kernel
theorem dL_runs_45 : decode cL_runs 45 = .ok (.invokevirtual 133, 3) := by decide +kernel
theorem dL_runs_48 : decode cL_runs 48 = .ok (.iload 4, 2) := by decide +kernel
theorem dL_runs_50 : decode cL_runs 50 = .ok (.iload_n 2, 1) := by decide +kernel
theorem dL_runs_51 : decode cL_runs 51 = .ok (.iadd, 1) := by decide +kernel
theorem dL_runs_52 : decode cL_runs 52 = .ok (.if_icmp .ne 76, 3) := by decide +kernel
theorem dL_runs_55 : decode cL_runs 55 = .ok (.aload_n 0, 1) := by decide +kernel
theorem dL_runs_56 : decode cL_runs 56 = .ok (.invokevirtual 116, 3) := by decide +kernel
theorem dL_runs_59 : decode cL_runs 59 = .ok (.iload 5, 2) := by decide +kernel
theorem dL_runs_61 : decode cL_runs 61 = .ok (.iload_n 1, 1) := by decide +kernel
theorem dL_runs_62 : decode cL_runs 62 = .ok (.iadd, 1) := by decide +kernel
theorem dL_runs_63 : decode cL_runs 63 = .ok (.if_icmp .ne 65, 3) := by decide +kernel
theorem dL_runs_66 : decode cL_runs 66 = .ok (.aload_n 0, 1) := by decide +kernel
theorem dL_runs_67 : decode cL_runs 67 = .ok (.invokevirtual 148, 3) := by decide +kernel
theorem dL_runs_70 : decode cL_runs 70 = .ok (.iload 6, 2) := by decide +kernel
theorem dL_runs_72 : decode cL_runs 72 = .ok (.iload_n 2, 1) := by decide +kernel
theorem dL_runs_73 : decode cL_runs 73 = .ok (.isub, 1) := by decide +kernel
theorem dL_runs_74 : decode cL_runs 74 = .ok (.if_icmp .ne 54, 3) := by decide +kernel
theorem dL_runs_77 : decode cL_runs 77 = .ok (.iload_n 3, 1) := by decide +kernel
theorem dL_runs_78 : decode cL_runs 78 = .ok (.ifCond .lt 15, 3) := by decide +kernel
theorem dL_runs_81 : decode cL_runs 81 = .ok (.iload_n 3, 1) := by decide +kernel
theorem dL_runs_82 : decode cL_runs 82 = .ok (.iload_n 1, 1) := by decide +kernel
theorem dL_runs_83 : decode cL_runs 83 = .ok (.if_icmp .gt 10, 3) := by decide +kernel
theorem dL_runs_86 : decode cL_runs 86 = .ok (.aload_n 0, 1) := by decide +kernel
theorem dL_runs_87 : decode cL_runs 87 = .ok (.invokevirtual 148, 3) := by decide +kernel
theorem dL_runs_90 : decode cL_runs 90 = .ok (.ifCond .ne 38, 3) := by decide +kernel
theorem dL_runs_93 : decode cL_runs 93 = .ok (.iload_n 3, 1) := by decide +kernel
theorem dL_runs_94 : decode cL_runs 94 = .ok (.ifCond .lt 8, 3) := by decide +kernel
theorem dL_runs_97 : decode cL_runs 97 = .ok (.iload_n 3, 1) := by decide +kernel
theorem dL_runs_98 : decode cL_runs 98 = .ok (.iload_n 1, 1) := by decide +kernel
theorem dL_runs_99 : decode cL_runs 99 = .ok (.if_icmp .le 10, 3) := by decide +kernel
theorem dL_runs_102 : decode cL_runs 102 = .ok (.aload_n 0, 1) := by decide +kernel
theorem dL_runs_103 : decode cL_runs 103 = .ok (.invokevirtual 148, 3) := by decide +kernel
theorem dL_runs_106 : decode cL_runs 106 = .ok (.ifCond .le 22, 3) := by decide +kernel
theorem dL_runs_109 : decode cL_runs 109 = .ok (.iload_n 3, 1) := by decide +kernel
theorem dL_runs_110 : decode cL_runs 110 = .ok (.iload_n 1, 1) := by decide +kernel
theorem dL_runs_111 : decode cL_runs 111 = .ok (.if_icmp .le 13, 3) := by decide +kernel
theorem dL_runs_114 : decode cL_runs 114 = .ok (.aload_n 0, 1) := by decide +kernel
theorem dL_runs_115 : decode cL_runs 115 = .ok (.invokevirtual 163, 3) := by decide +kernel
theorem dL_runs_118 : decode cL_runs 118 = .ok (.iload_n 3, 1) := by decide +kernel
theorem dL_runs_119 : decode cL_runs 119 = .ok (.iload_n 1, 1) := by decide +kernel
theorem dL_runs_120 : decode cL_runs 120 = .ok (.isub, 1) := by decide +kernel
theorem dL_runs_121 : decode cL_runs 121 = .ok (.if_icmp .ne 7, 3) := by decide +kernel
theorem dL_runs_124 : decode cL_runs 124 = .ok (.iconst 1, 1) := by decide +kernel
theorem dL_runs_125 : decode cL_runs 125 = .ok (.goto 4, 3) := by decide +kernel
theorem dL_runs_128 : decode cL_runs 128 = .ok (.iconst 0, 1) := by decide +kernel
theorem dL_runs_129 : decode cL_runs 129 = .ok (.istore 9, 2) := by decide +kernel
theorem dL_runs_131 : decode cL_runs 131 = .ok (.iload 9, 2) := by decide +kernel
theorem dL_runs_133 : decode cL_runs 133 = .ok (.ifCond .eq 60, 3) := by decide +kernel
theorem dL_runs_136 : decode cL_runs 136 = .ok (.aload_n 0, 1) := by decide +kernel
theorem dL_runs_137 : decode cL_runs 137 = .ok (.invokestatic 170, 3) := by decide +kernel
theorem dL_runs_140 : decode cL_runs 140 = .ok (.ifCond .eq 53, 3) := by decide +kernel
theorem dL_runs_143 : decode cL_runs 143 = .ok (.aload_n 0, 1) := by decide +kernel
theorem dL_runs_144 : decode cL_runs 144 = .ok (.invokestatic 174, 3) := by decide +kernel
theorem dL_runs_147 : decode cL_runs 147 = .ok (.ifCond .eq 46, 3) := by decide +kernel
theorem dL_runs_150 : decode cL_runs 150 = .ok (.aload_n 0, 1) := by decide +kernel
theorem dL_runs_151 : decode cL_runs 151 = .ok (.invokestatic 177, 3) := by decide +kernel
theorem dL_runs_154 : decode cL_runs 154 = .ok (.ifCond .lt 39, 3) := by decide +kernel
theorem dL_runs_157 : decode cL_runs 157 = .ok (.aload_n 0, 1) := by decide +kernel
theorem dL_runs_158 : decode cL_runs 158 = .ok (.invokestatic 166, 3) := by decide +kernel
theorem dL_runs_161 : decode cL_runs 161 = .ok (.lload 7, 2) := by decide +kernel
theorem dL_runs_163 : decode cL_runs 163 = .ok (.lcmp, 1) := by decide +kernel
theorem dL_runs_164 : decode cL_runs 164 = .ok (.ifCond .ne 29, 3) := by decide +kernel
theorem dL_runs_167 : decode cL_runs 167 = .ok (.iload_n 3, 1) := by decide +kernel
theorem dL_runs_168 : decode cL_runs 168 = .ok (.ifCond .ne 7, 3) := by decide +kernel
theorem dL_runs_171 : decode cL_runs 171 = .ok (.iconst 1, 1) := by decide +kernel
theorem dL_runs_172 : decode cL_runs 172 = .ok (.goto 4, 3) := by decide +kernel
theorem dL_runs_175 : decode cL_runs 175 = .ok (.iconst 0, 1) := by decide +kernel
theorem dL_runs_176 : decode cL_runs 176 = .ok (.iload 6, 2) := by decide +kernel
theorem dL_runs_178 : decode cL_runs 178 = .ok (.ifCond .ne 7, 3) := by decide +kernel
theorem dL_runs_181 : decode cL_runs 181 = .ok (.iconst 1, 1) := by decide +kernel
theorem dL_runs_182 : decode cL_runs 182 = .ok (.goto 4, 3) := by decide +kernel
theorem dL_runs_185 : decode cL_runs 185 = .ok (.iconst 0, 1) := by decide +kernel
theorem dL_runs_186 : decode cL_runs 186 = .ok (.if_icmp .ne 7, 3) := by decide +kernel
theorem dL_runs_189 : decode cL_runs 189 = .ok (.iconst 1, 1) := by decide +kernel
theorem dL_runs_190 : decode cL_runs 190 = .ok (.goto 4, 3) := by decide +kernel
theorem dL_runs_193 : decode cL_runs 193 = .ok (.iconst 0, 1) := by decide +kernel
theorem dL_runs_194 : decode cL_runs 194 = .ok (.ireturn, 1) := by decide +kernel
theorem dL_joins_0 : decode cL_joins 0 = .ok (.aload_n 0, 1) := by decide +kernel
theorem dL_joins_1 : decode cL_joins 1 = .ok (.invokestatic 166, 3) := by decide +kernel
theorem dL_joins_4 : decode cL_joins 4 = .ok (.lstore_n 2, 1) := by decide +kernel
theorem dL_joins_5 : decode cL_joins 5 = .ok (.aload_n 0, 1) := by decide +kernel
theorem dL_joins_6 : decode cL_joins 6 = .ok (.iconst 0, 1) := by decide +kernel
theorem dL_joins_7 : decode cL_joins 7 = .ok (.iconst 1, 1) := by decide +kernel
theorem dL_joins_8 : decode cL_joins 8 = .ok (.invokestatic 95, 3) := by decide +kernel
theorem dL_joins_11 : decode cL_joins 11 = .ok (.ifCond .le 36, 3) := by decide +kernel
theorem dL_joins_14 : decode cL_joins 14 = .ok (.aload_n 0, 1) := by decide +kernel
theorem dL_joins_15 : decode cL_joins 15 = .ok (.iload_n 1, 1) := by decide +kernel
theorem dL_joins_16 : decode cL_joins 16 = .ok (.iconst 1, 1) := by decide +kernel
theorem dL_joins_17 : decode cL_joins 17 = .ok (.invokestatic 95, 3) := by decide +kernel
theorem dL_joins_20 : decode cL_joins 20 = .ok (.iconst 1, 1) := by decide +kernel
theorem dL_joins_21 : decode cL_joins 21 = .ok (.if_icmp .le 26, 3) := by decide +kernel
theorem dL_joins_24 : decode cL_joins 24 = .ok (.aload_n 0, 1) := by decide +kernel
theorem dL_joins_25 : decode cL_joins 25 = .ok (.iconst 0, 1) := by decide +kernel
theorem dL_joins_26 : decode cL_joins 26 = .ok (.iload_n 1, 1) := by decide +kernel
theorem dL_joins_27 : decode cL_joins 27 = .ok (.iconst 1, 1) := by decide +kernel
theorem dL_joins_28 : decode cL_joins 28 = .ok (.invokestatic 92, 3) := by decide +kernel
theorem dL_joins_31 : decode cL_joins 31 = .ok (.ifCond .le 16, 3) := by decide +kernel
theorem dL_joins_34 : decode cL_joins 34 = .ok (.aload_n 0, 1) := by decide +kernel
theorem dL_joins_35 : decode cL_joins 35 = .ok (.iload_n 1, 1) := by decide +kernel
theorem dL_joins_36 : decode cL_joins 36 = .ok (.iconst 0, 1) := by decide +kernel
theorem dL_joins_37 : decode cL_joins 37 = .ok (.invokestatic 101, 3) := by decide +kernel
theorem dL_joins_40 : decode cL_joins 40 = .ok (.ifCond .lt 7, 3) := by decide +kernel
theorem dL_joins_43 : decode cL_joins 43 = .ok (.iconst 1, 1) := by decide +kernel
theorem dL_joins_44 : decode cL_joins 44 = .ok (.goto 4, 3) := by decide +kernel
theorem dL_joins_47 : decode cL_joins 47 = .ok (.iconst 0, 1) := by decide +kernel
theorem dL_joins_48 : decode cL_joins 48 = .ok (.istore 4, 2) := by decide +kernel
theorem dL_joins_50 : decode cL_joins 50 = .ok (.bipush 10, 2) := by decide +kernel
theorem dL_joins_52 : decode cL_joins 52 = .ok (.aload_n 0, 1) := by decide +kernel
theorem dL_joins_53 : decode cL_joins 53 = .ok (.invokevirtual 116, 3) := by decide +kernel
theorem dL_joins_56 : decode cL_joins 56 = .ok (.bipush 10, 2) := by decide +kernel
theorem dL_joins_58 : decode cL_joins 58 = .ok (.irem, 1) := by decide +kernel
theorem dL_joins_59 : decode cL_joins 59 = .ok (.isub, 1) := by decide +kernel
theorem dL_joins_60 : decode cL_joins 60 = .ok (.bipush 10, 2) := by decide +kernel
theorem dL_joins_62 : decode cL_joins 62 = .ok (.irem, 1) := by decide +kernel
theorem dL_joins_63 : decode cL_joins 63 = .ok (.istore 5, 2) := by decide +kernel
theorem dL_joins_65 : decode cL_joins 65 = .ok (.iload 4, 2) := by decide +kernel
theorem dL_joins_67 : decode cL_joins 67 = .ok (.ifCond .eq 30, 3) := by decide +kernel
theorem dL_joins_70 : decode cL_joins 70 = .ok (.iload 5, 2) := by decide +kernel
theorem dL_joins_72 : decode cL_joins 72 = .ok (.ifCond .eq 12, 3) := by decide +kernel
theorem dL_joins_75 : decode cL_joins 75 = .ok (.aload_n 0, 1) := by decide +kernel
theorem dL_joins_76 : decode cL_joins 76 = .ok (.iload 5, 2) := by decide +kernel
theorem dL_joins_78 : decode cL_joins 78 = .ok (.invokestatic 108, 3) := by decide +kernel
theorem dL_joins_81 : decode cL_joins 81 = .ok (.ifCond .lt 16, 3) := by decide +kernel
theorem dL_joins_84 : decode cL_joins 84 = .ok (.aload_n 0, 1) := by decide +kernel
theorem dL_joins_85 : decode cL_joins 85 = .ok (.iload_n 1, 1) := by decide +kernel
theorem dL_joins_86 : decode cL_joins 86 = .ok (.invokestatic 125, 3) := by decide +kernel
theorem dL_joins_89 : decode cL_joins 89 = .ok (.iconst 1, 1) := by decide +kernel
theorem dL_joins_90 : decode cL_joins 90 = .ok (.if_icmp .ne 7, 3) := by decide +kernel
theorem dL_joins_93 : decode cL_joins 93 = .ok (.iconst 1, 1) := by decide +kernel
theorem dL_joins_94 : decode cL_joins 94 = .ok (.goto 4, 3) := by decide +kernel
theorem dL_joins_97 : decode cL_joins 97 = .ok (.iconst 0, 1) := by decide +kernel
theorem dL_joins_98 : decode cL_joins 98 = .ok (.istore 4, 2) := by decide +kernel
theorem dL_joins_100 : decode cL_joins 100 = .ok (.iload 4, 2) := by decide +kernel
theorem dL_joins_102 : decode cL_joins 102 = .ok (.ifCond .eq 53, 3) := by decide +kernel
theorem dL_joins_105 : decode cL_joins 105 = .ok (.aload_n 0, 1) := by decide +kernel
theorem dL_joins_106 : decode cL_joins 106 = .ok (.iconst 1, 1) := by decide +kernel
theorem dL_joins_107 : decode cL_joins 107 = .ok (.invokestatic 108, 3) := by decide +kernel
theorem dL_joins_110 : decode cL_joins 110 = .ok (.ifCond .lt 45, 3) := by decide +kernel
theorem dL_joins_113 : decode cL_joins 113 = .ok (.aload_n 0, 1) := by decide +kernel
theorem dL_joins_114 : decode cL_joins 114 = .ok (.iload_n 1, 1) := by decide +kernel
theorem dL_joins_115 : decode cL_joins 115 = .ok (.invokestatic 110, 3) := by decide +kernel
theorem dL_joins_118 : decode cL_joins 118 = .ok (.ifCond .ne 37, 3) := by decide +kernel
theorem dL_joins_121 : decode cL_joins 121 = .ok (.aload_n 0, 1) := by decide +kernel
theorem dL_joins_122 : decode cL_joins 122 = .ok (.iload_n 1, 1) := by decide +kernel
theorem dL_joins_123 : decode cL_joins 123 = .ok (.invokestatic 112, 3) := by decide +kernel
theorem dL_joins_126 : decode cL_joins 126 = .ok (.iconst 1, 1) := by decide +kernel
theorem dL_joins_127 : decode cL_joins 127 = .ok (.if_icmp .ne 28, 3) := by decide +kernel
theorem dL_joins_130 : decode cL_joins 130 = .ok (.aload_n 0, 1) := by decide +kernel
theorem dL_joins_131 : decode cL_joins 131 = .ok (.iload_n 1, 1) := by decide +kernel
theorem dL_joins_132 : decode cL_joins 132 = .ok (.invokestatic 119, 3) := by decide +kernel
theorem dL_joins_135 : decode cL_joins 135 = .ok (.iconst 1, 1) := by decide +kernel
theorem dL_joins_136 : decode cL_joins 136 = .ok (.if_icmp .ne 19, 3) := by decide +kernel
theorem dL_joins_139 : decode cL_joins 139 = .ok (.aload_n 0, 1) := by decide +kernel
theorem dL_joins_140 : decode cL_joins 140 = .ok (.iload_n 1, 1) := by decide +kernel
theorem dL_joins_141 : decode cL_joins 141 = .ok (.invokestatic 114, 3) := by decide +kernel
theorem dL_joins_144 : decode cL_joins 144 = .ok (.aload_n 0, 1) := by decide +kernel
theorem dL_joins_145 : decode cL_joins 145 = .ok (.invokevirtual 116, 3) := by decide +kernel
theorem dL_joins_148 : decode cL_joins 148 = .ok (.if_icmp .ne 7, 3) := by decide +kernel
theorem dL_joins_151 : decode cL_joins 151 = .ok (.iconst 1, 1) := by decide +kernel
theorem dL_joins_152 : decode cL_joins 152 = .ok (.goto 4, 3) := by decide +kernel
theorem dL_joins_155 : decode cL_joins 155 = .ok (.iconst 0, 1) := by decide +kernel
theorem dL_joins_156 : decode cL_joins 156 = .ok (.istore 4, 2) := by decide +kernel
theorem dL_joins_158 : decode cL_joins 158 = .ok (.iload 4, 2) := by decide +kernel
theorem dL_joins_160 : decode cL_joins 160 = .ok (.ifCond .eq 63, 3) := by decide +kernel
theorem dL_joins_163 : decode cL_joins 163 = .ok (.aload_n 0, 1) := by decide +kernel
theorem dL_joins_164 : decode cL_joins 164 = .ok (.invokestatic 177, 3) := by decide +kernel
theorem dL_joins_167 : decode cL_joins 167 = .ok (.ifCond .lt 56, 3) := by decide +kernel
theorem dL_joins_170 : decode cL_joins 170 = .ok (.iload 5, 2) := by decide +kernel
theorem dL_joins_172 : decode cL_joins 172 = .ok (.ifCond .eq 10, 3) := by decide +kernel
theorem dL_joins_175 : decode cL_joins 175 = .ok (.aload_n 0, 1) := by decide +kernel
theorem dL_joins_176 : decode cL_joins 176 = .ok (.invokestatic 177, 3) := by decide +kernel
theorem dL_joins_179 : decode cL_joins 179 = .ok (.ifCond .lt 44, 3) := by decide +kernel
theorem dL_joins_182 : decode cL_joins 182 = .ok (.aload_n 0, 1) := by decide +kernel
theorem dL_joins_183 : decode cL_joins 183 = .ok (.invokestatic 177, 3) := by decide +kernel
theorem dL_joins_186 : decode cL_joins 186 = .ok (.ifCond .lt 37, 3) := by decide +kernel
theorem dL_joins_189 : decode cL_joins 189 = .ok (.aload_n 0, 1) := by decide +kernel
theorem dL_joins_190 : decode cL_joins 190 = .ok (.invokestatic 177, 3) := by decide +kernel
theorem dL_joins_193 : decode cL_joins 193 = .ok (.ifCond .lt 30, 3) := by decide +kernel
theorem dL_joins_196 : decode cL_joins 196 = .ok (.aload_n 0, 1) := by decide +kernel
theorem dL_joins_197 : decode cL_joins 197 = .ok (.invokestatic 177, 3) := by decide +kernel
theorem dL_joins_200 : decode cL_joins 200 = .ok (.ifCond .lt 23, 3) := by decide +kernel
theorem dL_joins_203 : decode cL_joins 203 = .ok (.aload_n 0, 1) := by decide +kernel
theorem dL_joins_204 : decode cL_joins 204 = .ok (.invokestatic 177, 3) := by decide +kernel
theorem dL_joins_207 : decode cL_joins 207 = .ok (.ifCond .lt 16, 3) := by decide +kernel
theorem dL_joins_210 : decode cL_joins 210 = .ok (.aload_n 0, 1) := by decide +kernel
theorem dL_joins_211 : decode cL_joins 211 = .ok (.invokestatic 166, 3) := by decide +kernel
theorem dL_joins_214 : decode cL_joins 214 = .ok (.lload_n 2, 1) := by decide +kernel
theorem dL_joins_215 : decode cL_joins 215 = .ok (.lcmp, 1) := by decide +kernel
theorem dL_joins_216 : decode cL_joins 216 = .ok (.ifCond .ne 7, 3) := by decide +kernel
theorem dL_joins_219 : decode cL_joins 219 = .ok (.iconst 1, 1) := by decide +kernel
theorem dL_joins_220 : decode cL_joins 220 = .ok (.goto 4, 3) := by decide +kernel
theorem dL_joins_223 : decode cL_joins 223 = .ok (.iconst 0, 1) := by decide +kernel
theorem dL_joins_224 : decode cL_joins 224 = .ok (.ireturn, 1) := by decide +kernel
theorem dL_law_0 : decode cL_law 0 = .ok (.new 11, 3) := by decide +kernel
theorem dL_law_3 : decode cL_law 3 = .ok (.dup, 1) := by decide +kernel
theorem dL_law_4 : decode cL_law 4 = .ok (.invokespecial 180, 3) := by decide +kernel
theorem dL_law_7 : decode cL_law 7 = .ok (.astore_n 1, 1) := by decide +kernel
theorem dL_law_8 : decode cL_law 8 = .ok (.aload_n 1, 1) := by decide +kernel
theorem dL_law_9 : decode cL_law 9 = .ok (.invokestatic 170, 3) := by decide +kernel
theorem dL_law_12 : decode cL_law 12 = .ok (.ifCond .eq 14, 3) := by decide +kernel
theorem dL_law_15 : decode cL_law 15 = .ok (.aload_n 1, 1) := by decide +kernel
theorem dL_law_16 : decode cL_law 16 = .ok (.invokestatic 174, 3) := by decide +kernel
theorem dL_law_19 : decode cL_law 19 = .ok (.ifCond .eq 7, 3) := by decide +kernel
theorem dL_law_22 : decode cL_law 22 = .ok (.iconst 1, 1) := by decide +kernel
theorem dL_law_23 : decode cL_law 23 = .ok (.goto 4, 3) := by decide +kernel
theorem dL_law_26 : decode cL_law 26 = .ok (.iconst 0, 1) := by decide +kernel
theorem dL_law_27 : decode cL_law 27 = .ok (.istore_n 2, 1) := by decide +kernel
theorem dL_law_28 : decode cL_law 28 = .ok (.iconst 0, 1) := by decide +kernel
theorem dL_law_29 : decode cL_law 29 = .ok (.istore_n 3, 1) := by decide +kernel
theorem dL_law_30 : decode cL_law 30 = .ok (.iload_n 3, 1) := by decide +kernel
theorem dL_law_31 : decode cL_law 31 = .ok (.bipush 46, 2) := by decide +kernel
theorem dL_law_33 : decode cL_law 33 = .ok (.if_icmp .ge 288, 3) := by decide +kernel
theorem dL_law_36 : decode cL_law 36 = .ok (.iload_n 2, 1) := by decide +kernel
theorem dL_law_37 : decode cL_law 37 = .ok (.ifCond .eq 284, 3) := by decide +kernel
theorem dL_law_40 : decode cL_law 40 = .ok (.aload_n 0, 1) := by decide +kernel
theorem dL_law_41 : decode cL_law 41 = .ok (.iconst 2, 1) := by decide +kernel
theorem dL_law_42 : decode cL_law 42 = .ok (.iload_n 3, 1) := by decide +kernel
theorem dL_law_43 : decode cL_law 43 = .ok (.imul, 1) := by decide +kernel
theorem dL_law_44 : decode cL_law 44 = .ok (.invokestatic 181, 3) := by decide +kernel
theorem dL_law_47 : decode cL_law 47 = .ok (.istore 4, 2) := by decide +kernel
theorem dL_law_49 : decode cL_law 49 = .ok (.aload_n 0, 1) := by decide +kernel
theorem dL_law_50 : decode cL_law 50 = .ok (.iconst 2, 1) := by decide +kernel
theorem dL_law_51 : decode cL_law 51 = .ok (.iload_n 3, 1) := by decide +kernel
theorem dL_law_52 : decode cL_law 52 = .ok (.imul, 1) := by decide +kernel
theorem dL_law_53 : decode cL_law 53 = .ok (.iconst 1, 1) := by decide +kernel
theorem dL_law_54 : decode cL_law 54 = .ok (.iadd, 1) := by decide +kernel
theorem dL_law_55 : decode cL_law 55 = .ok (.invokestatic 181, 3) := by decide +kernel
theorem dL_law_58 : decode cL_law 58 = .ok (.istore 5, 2) := by decide +kernel
theorem dL_law_60 : decode cL_law 60 = .ok (.aload_n 1, 1) := by decide +kernel
theorem dL_law_61 : decode cL_law 61 = .ok (.invokevirtual 185, 3) := by decide +kernel
theorem dL_law_64 : decode cL_law 64 = .ok (.istore 6, 2) := by decide +kernel
theorem dL_law_66 : decode cL_law 66 = .ok (.aload_n 1, 1) := by decide +kernel
theorem dL_law_67 : decode cL_law 67 = .ok (.invokestatic 166, 3) := by decide +kernel
theorem dL_law_70 : decode cL_law 70 = .ok (.lstore 7, 2) := by decide +kernel
theorem dL_law_72 : decode cL_law 72 = .ok (.iload_n 3, 1) := by decide +kernel
theorem dL_law_73 : decode cL_law 73 = .ok (.bipush 6, 2) := by decide +kernel
theorem dL_law_75 : decode cL_law 75 = .ok (.if_icmp .ge 22, 3) := by decide +kernel
theorem dL_law_78 : decode cL_law 78 = .ok (.aload_n 1, 1) := by decide +kernel
theorem dL_law_79 : decode cL_law 79 = .ok (.iload 4, 2) := by decide +kernel
theorem dL_law_81 : decode cL_law 81 = .ok (.iload_n 3, 1) := by decide +kernel
theorem dL_law_82 : decode cL_law 82 = .ok (.iconst 1, 1) := by decide +kernel
theorem dL_law_83 : decode cL_law 83 = .ok (.iadd, 1) := by decide +kernel
theorem dL_law_84 : decode cL_law 84 = .ok (.invokestatic 87, 3) := by decide +kernel
theorem dL_law_87 : decode cL_law 87 = .ok (.iload_n 3, 1) := by decide +kernel
theorem dL_law_88 : decode cL_law 88 = .ok (.iconst 1, 1) := by decide +kernel
theorem dL_law_89 : decode cL_law 89 = .ok (.iadd, 1) := by decide +kernel
theorem dL_law_90 : decode cL_law 90 = .ok (.iconst 1, 1) := by decide +kernel
theorem dL_law_91 : decode cL_law 91 = .ok (.invokestatic 92, 3) := by decide +kernel
theorem dL_law_94 : decode cL_law 94 = .ok (.goto 11, 3) := by decide +kernel
theorem dL_law_97 : decode cL_law 97 = .ok (.aload_n 1, 1) := by decide +kernel
theorem dL_law_98 : decode cL_law 98 = .ok (.iload 4, 2) := by decide +kernel
theorem dL_law_100 : decode cL_law 100 = .ok (.iload 5, 2) := by decide +kernel
theorem dL_law_102 : decode cL_law 102 = .ok (.invokestatic 188, 3) := by decide +kernel
theorem dL_law_105 : decode cL_law 105 = .ok (.istore 9, 2) := by decide +kernel
theorem dL_law_107 : decode cL_law 107 = .ok (.iload 9, 2) := by decide +kernel
theorem dL_law_109 : decode cL_law 109 = .ok (.ldc 191, 2) := by decide +kernel
theorem dL_law_111 : decode cL_law 111 = .ok (.if_icmp .gt 31, 3) := by decide +kernel
theorem dL_law_114 : decode cL_law 114 = .ok (.aload_n 1, 1) := by decide +kernel
theorem dL_law_115 : decode cL_law 115 = .ok (.invokevirtual 185, 3) := by decide +kernel
theorem dL_law_118 : decode cL_law 118 = .ok (.iload 6, 2) := by decide +kernel
theorem dL_law_120 : decode cL_law 120 = .ok (.if_icmp .ne 17, 3) := by decide +kernel
theorem dL_law_123 : decode cL_law 123 = .ok (.aload_n 1, 1) := by decide +kernel
theorem dL_law_124 : decode cL_law 124 = .ok (.invokestatic 166, 3) := by decide +kernel
theorem dL_law_127 : decode cL_law 127 = .ok (.lload 7, 2) := by decide +kernel
theorem dL_law_129 : decode cL_law 129 = .ok (.lcmp, 1) := by decide +kernel
theorem dL_law_130 : decode cL_law 130 = .ok (.ifCond .ne 7, 3) := by decide +kernel
theorem dL_law_133 : decode cL_law 133 = .ok (.iconst 1, 1) := by decide +kernel
theorem dL_law_134 : decode cL_law 134 = .ok (.goto 4, 3) := by decide +kernel
theorem dL_law_137 : decode cL_law 137 = .ok (.iconst 0, 1) := by decide +kernel
theorem dL_law_138 : decode cL_law 138 = .ok (.istore_n 2, 1) := by decide +kernel
theorem dL_law_139 : decode cL_law 139 = .ok (.goto 97, 3) := by decide +kernel
theorem dL_law_142 : decode cL_law 142 = .ok (.aload_n 1, 1) := by decide +kernel
theorem dL_law_143 : decode cL_law 143 = .ok (.invokevirtual 185, 3) := by decide +kernel
theorem dL_law_146 : decode cL_law 146 = .ok (.iload 6, 2) := by decide +kernel
theorem dL_law_148 : decode cL_law 148 = .ok (.bipush 6, 2) := by decide +kernel
theorem dL_law_150 : decode cL_law 150 = .ok (.if_icmp .ge 10, 3) := by decide +kernel
theorem dL_law_153 : decode cL_law 153 = .ok (.iload 6, 2) := by decide +kernel
theorem dL_law_155 : decode cL_law 155 = .ok (.iconst 1, 1) := by decide +kernel
theorem dL_law_156 : decode cL_law 156 = .ok (.iadd, 1) := by decide +kernel
theorem dL_law_157 : decode cL_law 157 = .ok (.goto 5, 3) := by decide +kernel
theorem dL_law_160 : decode cL_law 160 = .ok (.bipush 6, 2) := by decide +kernel
theorem dL_law_162 : decode cL_law 162 = .ok (.if_icmp .ne 7, 3) := by decide +kernel
theorem dL_law_165 : decode cL_law 165 = .ok (.iconst 1, 1) := by decide +kernel
theorem dL_law_166 : decode cL_law 166 = .ok (.goto 4, 3) := by decide +kernel
theorem dL_law_169 : decode cL_law 169 = .ok (.iconst 0, 1) := by decide +kernel
theorem dL_law_170 : decode cL_law 170 = .ok (.istore_n 2, 1) := by decide +kernel
theorem dL_law_171 : decode cL_law 171 = .ok (.iload_n 2, 1) := by decide +kernel
theorem dL_law_172 : decode cL_law 172 = .ok (.ifCond .eq 64, 3) := by decide +kernel
theorem dL_law_175 : decode cL_law 175 = .ok (.iload_n 3, 1) := by decide +kernel
theorem dL_law_176 : decode cL_law 176 = .ok (.iconst 5, 1) := by decide +kernel
theorem dL_law_177 : decode cL_law 177 = .ok (.if_icmp .le 59, 3) := by decide +kernel
theorem dL_law_180 : decode cL_law 180 = .ok (.iload 6, 2) := by decide +kernel
theorem dL_law_182 : decode cL_law 182 = .ok (.bipush 6, 2) := by decide +kernel
theorem dL_law_184 : decode cL_law 184 = .ok (.if_icmp .ge 52, 3) := by decide +kernel
theorem dL_law_187 : decode cL_law 187 = .ok (.iload 5, 2) := by decide +kernel
theorem dL_law_189 : decode cL_law 189 = .ok (.iconst 5, 1) := by decide +kernel
theorem dL_law_190 : decode cL_law 190 = .ok (.ishr, 1) := by decide +kernel
theorem dL_law_191 : decode cL_law 191 = .ok (.iconst 3, 1) := by decide +kernel
theorem dL_law_192 : decode cL_law 192 = .ok (.invokestatic 87, 3) := by decide +kernel
theorem dL_law_195 : decode cL_law 195 = .ok (.ifCond .ne 41, 3) := by decide +kernel
theorem dL_law_198 : decode cL_law 198 = .ok (.aload_n 1, 1) := by decide +kernel
theorem dL_law_199 : decode cL_law 199 = .ok (.invokestatic 177, 3) := by decide +kernel
theorem dL_law_202 : decode cL_law 202 = .ok (.iload 6, 2) := by decide +kernel
theorem dL_law_204 : decode cL_law 204 = .ok (.if_icmp .ne 30, 3) := by decide +kernel
theorem dL_law_207 : decode cL_law 207 = .ok (.aload_n 1, 1) := by decide +kernel
theorem dL_law_208 : decode cL_law 208 = .ok (.invokestatic 166, 3) := by decide +kernel
theorem dL_law_211 : decode cL_law 211 = .ok (.lload 7, 2) := by decide +kernel
theorem dL_law_213 : decode cL_law 213 = .ok (.lcmp, 1) := by decide +kernel
theorem dL_law_214 : decode cL_law 214 = .ok (.ifCond .ne 20, 3) := by decide +kernel
theorem dL_law_217 : decode cL_law 217 = .ok (.aload_n 1, 1) := by decide +kernel
theorem dL_law_218 : decode cL_law 218 = .ok (.iload 4, 2) := by decide +kernel
theorem dL_law_220 : decode cL_law 220 = .ok (.iload 5, 2) := by decide +kernel
theorem dL_law_222 : decode cL_law 222 = .ok (.invokestatic 188, 3) := by decide +kernel
theorem dL_law_225 : decode cL_law 225 = .ok (.iload 9, 2) := by decide +kernel
theorem dL_law_227 : decode cL_law 227 = .ok (.if_icmp .ne 7, 3) := by decide +kernel
theorem dL_law_230 : decode cL_law 230 = .ok (.iconst 1, 1) := by decide +kernel
theorem dL_law_231 : decode cL_law 231 = .ok (.goto 4, 3) := by decide +kernel
theorem dL_law_234 : decode cL_law 234 = .ok (.iconst 0, 1) := by decide +kernel
theorem dL_law_235 : decode cL_law 235 = .ok (.istore_n 2, 1) := by decide +kernel
theorem dL_law_236 : decode cL_law 236 = .ok (.iload_n 2, 1) := by decide +kernel
theorem dL_law_237 : decode cL_law 237 = .ok (.ifCond .eq 76, 3) := by decide +kernel
theorem dL_law_240 : decode cL_law 240 = .ok (.iload_n 3, 1) := by decide +kernel
theorem dL_law_241 : decode cL_law 241 = .ok (.iconst 3, 1) := by decide +kernel
theorem dL_law_242 : decode cL_law 242 = .ok (.irem, 1) := by decide +kernel
theorem dL_law_243 : decode cL_law 243 = .ok (.ifCond .gt 17, 3) := by decide +kernel
theorem dL_law_246 : decode cL_law 246 = .ok (.aload_n 1, 1) := by decide +kernel
theorem dL_law_247 : decode cL_law 247 = .ok (.invokestatic 170, 3) := by decide +kernel
theorem dL_law_250 : decode cL_law 250 = .ok (.ifCond .eq 63, 3) := by decide +kernel
theorem dL_law_253 : decode cL_law 253 = .ok (.aload_n 1, 1) := by decide +kernel
theorem dL_law_254 : decode cL_law 254 = .ok (.invokestatic 174, 3) := by decide +kernel
theorem dL_law_257 : decode cL_law 257 = .ok (.ifCond .eq 56, 3) := by decide +kernel
theorem dL_law_260 : decode cL_law 260 = .ok (.iload_n 3, 1) := by decide +kernel
theorem dL_law_261 : decode cL_law 261 = .ok (.iconst 2, 1) := by decide +kernel
theorem dL_law_262 : decode cL_law 262 = .ok (.irem, 1) := by decide +kernel
theorem dL_law_263 : decode cL_law 263 = .ok (.ifCond .gt 21, 3) := by decide +kernel
theorem dL_law_266 : decode cL_law 266 = .ok (.aload_n 1, 1) := by decide +kernel
theorem dL_law_267 : decode cL_law 267 = .ok (.iconst 1, 1) := by decide +kernel
theorem dL_law_268 : decode cL_law 268 = .ok (.iload 5, 2) := by decide +kernel
theorem dL_law_270 : decode cL_law 270 = .ok (.iconst 3, 1) := by decide +kernel
theorem dL_law_271 : decode cL_law 271 = .ok (.ishr, 1) := by decide +kernel
theorem dL_law_272 : decode cL_law 272 = .ok (.bipush 100, 2) := by decide +kernel
theorem dL_law_274 : decode cL_law 274 = .ok (.invokestatic 87, 3) := by decide +kernel
theorem dL_law_277 : decode cL_law 277 = .ok (.iadd, 1) := by decide +kernel
theorem dL_law_278 : decode cL_law 278 = .ok (.invokestatic 192, 3) := by decide +kernel
theorem dL_law_281 : decode cL_law 281 = .ok (.ifCond .eq 32, 3) := by decide +kernel
theorem dL_law_284 : decode cL_law 284 = .ok (.iload_n 3, 1) := by decide +kernel
theorem dL_law_285 : decode cL_law 285 = .ok (.iconst 4, 1) := by decide +kernel
theorem dL_law_286 : decode cL_law 286 = .ok (.irem, 1) := by decide +kernel
theorem dL_law_287 : decode cL_law 287 = .ok (.ifCond .gt 22, 3) := by decide +kernel
theorem dL_law_290 : decode cL_law 290 = .ok (.aload_n 1, 1) := by decide +kernel
theorem dL_law_291 : decode cL_law 291 = .ok (.iconst 1, 1) := by decide +kernel
theorem dL_law_292 : decode cL_law 292 = .ok (.iload 4, 2) := by decide +kernel
theorem dL_law_294 : decode cL_law 294 = .ok (.bipush 6, 2) := by decide +kernel
theorem dL_law_296 : decode cL_law 296 = .ok (.ishr, 1) := by decide +kernel
theorem dL_law_297 : decode cL_law 297 = .ok (.bipush 9, 2) := by decide +kernel
theorem dL_law_299 : decode cL_law 299 = .ok (.invokestatic 87, 3) := by decide +kernel
theorem dL_law_302 : decode cL_law 302 = .ok (.iadd, 1) := by decide +kernel
theorem dL_law_303 : decode cL_law 303 = .ok (.invokestatic 196, 3) := by decide +kernel
theorem dL_law_306 : decode cL_law 306 = .ok (.ifCond .eq 7, 3) := by decide +kernel
theorem dL_law_309 : decode cL_law 309 = .ok (.iconst 1, 1) := by decide +kernel
theorem dL_law_310 : decode cL_law 310 = .ok (.goto 4, 3) := by decide +kernel
theorem dL_law_313 : decode cL_law 313 = .ok (.iconst 0, 1) := by decide +kernel
theorem dL_law_314 : decode cL_law 314 = .ok (.istore_n 2, 1) := by decide +kernel
theorem dL_law_315 : decode cL_law 315 = .ok (.iinc 3 1, 3) := by decide +kernel
theorem dL_law_318 : decode cL_law 318 = .ok (.goto (-288), 3) := by decide +kernel
theorem dL_law_321 : decode cL_law 321 = .ok (.iload_n 2, 1) := by decide +kernel
theorem dL_law_322 : decode cL_law 322 = .ok (.ireturn, 1) := by decide +kernel
