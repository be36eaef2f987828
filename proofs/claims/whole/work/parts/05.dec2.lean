theorem dX5_init_0 : decode cX5_init 0 = .ok (.aload_n 0, 1) := by decide +kernel
theorem dX5_init_1 : decode cX5_init 1 = .ok (.invokespecial 1, 3) := by decide +kernel
theorem dX5_init_4 : decode cX5_init 4 = .ok (.aload_n 0, 1) := by decide +kernel
theorem dX5_init_5 : decode cX5_init 5 = .ok (.sipush 5520, 3) := by decide +kernel
theorem dX5_init_8 : decode cX5_init 8 = .ok (.newarray .int, 2) := by decide +kernel
theorem dX5_init_10 : decode cX5_init 10 = .ok (.putfield 7, 3) := by decide +kernel
theorem dX5_init_13 : decode cX5_init 13 = .ok (.aload_n 0, 1) := by decide +kernel
theorem dX5_init_14 : decode cX5_init 14 = .ok (.bipush 80, 2) := by decide +kernel
theorem dX5_init_16 : decode cX5_init 16 = .ok (.newarray .char, 2) := by decide +kernel
theorem dX5_init_18 : decode cX5_init 18 = .ok (.putfield 13, 3) := by decide +kernel
theorem dX5_init_21 : decode cX5_init 21 = .ok (.aload_n 0, 1) := by decide +kernel
theorem dX5_init_22 : decode cX5_init 22 = .ok (.bipush 10, 2) := by decide +kernel
theorem dX5_init_24 : decode cX5_init 24 = .ok (.newarray .int, 2) := by decide +kernel
theorem dX5_init_26 : decode cX5_init 26 = .ok (.putfield 17, 3) := by decide +kernel
theorem dX5_init_29 : decode cX5_init 29 = .ok (.aload_n 0, 1) := by decide +kernel
theorem dX5_init_30 : decode cX5_init 30 = .ok (.getfield 7, 3) := by decide +kernel
theorem dX5_init_33 : decode cX5_init 33 = .ok (.bipush 10, 2) := by decide +kernel
theorem dX5_init_35 : decode cX5_init 35 = .ok (.sipush 1023, 3) := by decide +kernel
theorem dX5_init_38 : decode cX5_init 38 = .ok (.iastore, 1) := by decide +kernel
theorem dX5_init_39 : decode cX5_init 39 = .ok (.aload_n 0, 1) := by decide +kernel
theorem dX5_init_40 : decode cX5_init 40 = .ok (.getfield 7, 3) := by decide +kernel
theorem dX5_init_43 : decode cX5_init 43 = .ok (.bipush 11, 2) := by decide +kernel
theorem dX5_init_45 : decode cX5_init 45 = .ok (.iconst 2, 1) := by decide +kernel
theorem dX5_init_46 : decode cX5_init 46 = .ok (.iastore, 1) := by decide +kernel
theorem dX5_init_47 : decode cX5_init 47 = .ok (.iconst 0, 1) := by decide +kernel
theorem dX5_init_48 : decode cX5_init 48 = .ok (.istore_n 1, 1) := by decide +kernel
theorem dX5_init_49 : decode cX5_init 49 = .ok (.iload_n 1, 1) := by decide +kernel
theorem dX5_init_50 : decode cX5_init 50 = .ok (.bipush 10, 2) := by decide +kernel
theorem dX5_init_52 : decode cX5_init 52 = .ok (.if_icmp .ge 43, 3) := by decide +kernel
theorem dX5_init_55 : decode cX5_init 55 = .ok (.aload_n 0, 1) := by decide +kernel
theorem dX5_init_56 : decode cX5_init 56 = .ok (.getfield 7, 3) := by decide +kernel
theorem dX5_init_59 : decode cX5_init 59 = .ok (.iconst 0, 1) := by decide +kernel
theorem dX5_init_60 : decode cX5_init 60 = .ok (.iload_n 1, 1) := by decide +kernel
theorem dX5_init_61 : decode cX5_init 61 = .ok (.invokestatic 20, 3) := by decide +kernel
theorem dX5_init_64 : decode cX5_init 64 = .ok (.iconst 1, 1) := by decide +kernel
theorem dX5_init_65 : decode cX5_init 65 = .ok (.iadd, 1) := by decide +kernel
theorem dX5_init_66 : decode cX5_init 66 = .ok (.iconst (-1), 1) := by decide +kernel
theorem dX5_init_67 : decode cX5_init 67 = .ok (.iastore, 1) := by decide +kernel
theorem dX5_init_68 : decode cX5_init 68 = .ok (.aload_n 0, 1) := by decide +kernel
theorem dX5_init_69 : decode cX5_init 69 = .ok (.getfield 7, 3) := by decide +kernel
theorem dX5_init_72 : decode cX5_init 72 = .ok (.iconst 0, 1) := by decide +kernel
theorem dX5_init_73 : decode cX5_init 73 = .ok (.iload_n 1, 1) := by decide +kernel
theorem dX5_init_74 : decode cX5_init 74 = .ok (.invokestatic 20, 3) := by decide +kernel
theorem dX5_init_77 : decode cX5_init 77 = .ok (.iconst 2, 1) := by decide +kernel
theorem dX5_init_78 : decode cX5_init 78 = .ok (.iadd, 1) := by decide +kernel
theorem dX5_init_79 : decode cX5_init 79 = .ok (.iload_n 1, 1) := by decide +kernel
theorem dX5_init_80 : decode cX5_init 80 = .ok (.ifCond .ne 7, 3) := by decide +kernel
theorem dX5_init_83 : decode cX5_init 83 = .ok (.iconst 0, 1) := by decide +kernel
theorem dX5_init_84 : decode cX5_init 84 = .ok (.goto 4, 3) := by decide +kernel
theorem dX5_init_87 : decode cX5_init 87 = .ok (.iconst (-1), 1) := by decide +kernel
theorem dX5_init_88 : decode cX5_init 88 = .ok (.iastore, 1) := by decide +kernel
theorem dX5_init_89 : decode cX5_init 89 = .ok (.iinc 1 1, 3) := by decide +kernel
theorem dX5_init_92 : decode cX5_init 92 = .ok (.goto (-43), 3) := by decide +kernel
theorem dX5_init_95 : decode cX5_init 95 = .ok (.return_, 1) := by decide +kernel
theorem dX5_thrown_0 : decode cX5_thrown 0 = .ok (.aload_n 0, 1) := by decide +kernel
theorem dX5_thrown_1 : decode cX5_thrown 1 = .ok (.getfield 24, 3) := by decide +kernel
theorem dX5_thrown_4 : decode cX5_thrown 4 = .ok (.ireturn, 1) := by decide +kernel
theorem dX5_in_0 : decode cX5_in 0 = .ok (.iload_n 0, 1) := by decide +kernel
theorem dX5_in_1 : decode cX5_in 1 = .ok (.iload_n 1, 1) := by decide +kernel
theorem dX5_in_2 : decode cX5_in 2 = .ok (.if_icmp .lt 12, 3) := by decide +kernel
theorem dX5_in_5 : decode cX5_in 5 = .ok (.iload_n 0, 1) := by decide +kernel
theorem dX5_in_6 : decode cX5_in 6 = .ok (.iload_n 2, 1) := by decide +kernel
theorem dX5_in_7 : decode cX5_in 7 = .ok (.if_icmp .gt 7, 3) := by decide +kernel
theorem dX5_in_10 : decode cX5_in 10 = .ok (.iconst 1, 1) := by decide +kernel
theorem dX5_in_11 : decode cX5_in 11 = .ok (.goto 4, 3) := by decide +kernel
theorem dX5_in_14 : decode cX5_in 14 = .ok (.iconst 0, 1) := by decide +kernel
theorem dX5_in_15 : decode cX5_in 15 = .ok (.ireturn, 1) := by decide +kernel
theorem dX5_goes_0 : decode cX5_goes 0 = .ok (.aload_n 0, 1) := by decide +kernel
theorem dX5_goes_1 : decode cX5_goes 1 = .ok (.iload_n 1, 1) := by decide +kernel
theorem dX5_goes_2 : decode cX5_goes 2 = .ok (.ifCond .ne 7, 3) := by decide +kernel
theorem dX5_goes_5 : decode cX5_goes 5 = .ok (.iconst 1, 1) := by decide +kernel
theorem dX5_goes_6 : decode cX5_goes 6 = .ok (.goto 20, 3) := by decide +kernel
theorem dX5_goes_9 : decode cX5_goes 9 = .ok (.iload_n 2, 1) := by decide +kernel
theorem dX5_goes_10 : decode cX5_goes 10 = .ok (.ifCond .ne 7, 3) := by decide +kernel
theorem dX5_goes_13 : decode cX5_goes 13 = .ok (.iconst 2, 1) := by decide +kernel
theorem dX5_goes_14 : decode cX5_goes 14 = .ok (.goto 12, 3) := by decide +kernel
theorem dX5_goes_17 : decode cX5_goes 17 = .ok (.iload_n 3, 1) := by decide +kernel
theorem dX5_goes_18 : decode cX5_goes 18 = .ok (.ifCond .ne 7, 3) := by decide +kernel
theorem dX5_goes_21 : decode cX5_goes 21 = .ok (.iconst 3, 1) := by decide +kernel
theorem dX5_goes_22 : decode cX5_goes 22 = .ok (.goto 4, 3) := by decide +kernel
theorem dX5_goes_25 : decode cX5_goes 25 = .ok (.iconst 0, 1) := by decide +kernel
theorem dX5_goes_26 : decode cX5_goes 26 = .ok (.putfield 24, 3) := by decide +kernel
theorem dX5_goes_29 : decode cX5_goes 29 = .ok (.aload_n 0, 1) := by decide +kernel
theorem dX5_goes_30 : decode cX5_goes 30 = .ok (.getfield 24, 3) := by decide +kernel
theorem dX5_goes_33 : decode cX5_goes 33 = .ok (.ifCond .ne 7, 3) := by decide +kernel
theorem dX5_goes_36 : decode cX5_goes 36 = .ok (.iconst 1, 1) := by decide +kernel
theorem dX5_goes_37 : decode cX5_goes 37 = .ok (.goto 4, 3) := by decide +kernel
theorem dX5_goes_40 : decode cX5_goes 40 = .ok (.iconst 0, 1) := by decide +kernel
theorem dX5_goes_41 : decode cX5_goes 41 = .ok (.ireturn, 1) := by decide +kernel
theorem dX5_isNode_0 : decode cX5_isNode 0 = .ok (.iload_n 0, 1) := by decide +kernel
theorem dX5_isNode_1 : decode cX5_isNode 1 = .ok (.iconst 0, 1) := by decide +kernel
theorem dX5_isNode_2 : decode cX5_isNode 2 = .ok (.bipush 9, 2) := by decide +kernel
theorem dX5_isNode_4 : decode cX5_isNode 4 = .ok (.invokestatic 28, 3) := by decide +kernel
theorem dX5_isNode_7 : decode cX5_isNode 7 = .ok (.ireturn, 1) := by decide +kernel
theorem dX5_isMeter_0 : decode cX5_isMeter 0 = .ok (.iload_n 0, 1) := by decide +kernel
theorem dX5_isMeter_1 : decode cX5_isMeter 1 = .ok (.iconst 1, 1) := by decide +kernel
theorem dX5_isMeter_2 : decode cX5_isMeter 2 = .ok (.bipush 9, 2) := by decide +kernel
theorem dX5_isMeter_4 : decode cX5_isMeter 4 = .ok (.invokestatic 28, 3) := by decide +kernel
theorem dX5_isMeter_7 : decode cX5_isMeter 7 = .ok (.ireturn, 1) := by decide +kernel
theorem dX5_lays_0 : decode cX5_lays 0 = .ok (.iconst 0, 1) := by decide +kernel
theorem dX5_lays_1 : decode cX5_lays 1 = .ok (.istore_n 3, 1) := by decide +kernel
theorem dX5_lays_2 : decode cX5_lays 2 = .ok (.iload_n 3, 1) := by decide +kernel
theorem dX5_lays_3 : decode cX5_lays 3 = .ok (.sipush 690, 3) := by decide +kernel
theorem dX5_lays_6 : decode cX5_lays 6 = .ok (.if_icmp .ge 33, 3) := by decide +kernel
theorem dX5_lays_9 : decode cX5_lays 9 = .ok (.aload_n 0, 1) := by decide +kernel
theorem dX5_lays_10 : decode cX5_lays 10 = .ok (.getfield 7, 3) := by decide +kernel
theorem dX5_lays_13 : decode cX5_lays 13 = .ok (.sipush 690, 3) := by decide +kernel
theorem dX5_lays_16 : decode cX5_lays 16 = .ok (.iload_n 2, 1) := by decide +kernel
theorem dX5_lays_17 : decode cX5_lays 17 = .ok (.imul, 1) := by decide +kernel
theorem dX5_lays_18 : decode cX5_lays 18 = .ok (.iload_n 3, 1) := by decide +kernel
theorem dX5_lays_19 : decode cX5_lays 19 = .ok (.iadd, 1) := by decide +kernel
theorem dX5_lays_20 : decode cX5_lays 20 = .ok (.aload_n 0, 1) := by decide +kernel
theorem dX5_lays_21 : decode cX5_lays 21 = .ok (.getfield 7, 3) := by decide +kernel
theorem dX5_lays_24 : decode cX5_lays 24 = .ok (.sipush 690, 3) := by decide +kernel
theorem dX5_lays_27 : decode cX5_lays 27 = .ok (.iload_n 1, 1) := by decide +kernel
theorem dX5_lays_28 : decode cX5_lays 28 = .ok (.imul, 1) := by decide +kernel
theorem dX5_lays_29 : decode cX5_lays 29 = .ok (.iload_n 3, 1) := by decide +kernel
theorem dX5_lays_30 : decode cX5_lays 30 = .ok (.iadd, 1) := by decide +kernel
theorem dX5_lays_31 : decode cX5_lays 31 = .ok (.iaload, 1) := by decide +kernel
theorem dX5_lays_32 : decode cX5_lays 32 = .ok (.iastore, 1) := by decide +kernel
theorem dX5_lays_33 : decode cX5_lays 33 = .ok (.iinc 3 1, 3) := by decide +kernel
theorem dX5_lays_36 : decode cX5_lays 36 = .ok (.goto (-34), 3) := by decide +kernel
theorem dX5_lays_39 : decode cX5_lays 39 = .ok (.return_, 1) := by decide +kernel
theorem dX5_saves_0 : decode cX5_saves 0 = .ok (.aload_n 0, 1) := by decide +kernel
theorem dX5_saves_1 : decode cX5_saves 1 = .ok (.getfield 32, 3) := by decide +kernel
theorem dX5_saves_4 : decode cX5_saves 4 = .ok (.bipush 6, 2) := by decide +kernel
theorem dX5_saves_6 : decode cX5_saves 6 = .ok (.if_icmp .ne 35, 3) := by decide +kernel
theorem dX5_saves_9 : decode cX5_saves 9 = .ok (.iconst 1, 1) := by decide +kernel
theorem dX5_saves_10 : decode cX5_saves 10 = .ok (.istore_n 1, 1) := by decide +kernel
theorem dX5_saves_11 : decode cX5_saves 11 = .ok (.iload_n 1, 1) := by decide +kernel
theorem dX5_saves_12 : decode cX5_saves 12 = .ok (.bipush 6, 2) := by decide +kernel
theorem dX5_saves_14 : decode cX5_saves 14 = .ok (.if_icmp .ge 17, 3) := by decide +kernel
theorem dX5_saves_17 : decode cX5_saves 17 = .ok (.aload_n 0, 1) := by decide +kernel
theorem dX5_saves_18 : decode cX5_saves 18 = .ok (.iload_n 1, 1) := by decide +kernel
theorem dX5_saves_19 : decode cX5_saves 19 = .ok (.iconst 1, 1) := by decide +kernel
theorem dX5_saves_20 : decode cX5_saves 20 = .ok (.iadd, 1) := by decide +kernel
theorem dX5_saves_21 : decode cX5_saves 21 = .ok (.iload_n 1, 1) := by decide +kernel
theorem dX5_saves_22 : decode cX5_saves 22 = .ok (.invokevirtual 35, 3) := by decide +kernel
theorem dX5_saves_25 : decode cX5_saves 25 = .ok (.iinc 1 1, 3) := by decide +kernel
theorem dX5_saves_28 : decode cX5_saves 28 = .ok (.goto (-17), 3) := by decide +kernel
theorem dX5_saves_31 : decode cX5_saves 31 = .ok (.aload_n 0, 1) := by decide +kernel
theorem dX5_saves_32 : decode cX5_saves 32 = .ok (.dup, 1) := by decide +kernel
theorem dX5_saves_33 : decode cX5_saves 33 = .ok (.getfield 32, 3) := by decide +kernel
theorem dX5_saves_36 : decode cX5_saves 36 = .ok (.iconst 1, 1) := by decide +kernel
theorem dX5_saves_37 : decode cX5_saves 37 = .ok (.isub, 1) := by decide +kernel
theorem dX5_saves_38 : decode cX5_saves 38 = .ok (.putfield 32, 3) := by decide +kernel
theorem dX5_saves_41 : decode cX5_saves 41 = .ok (.aload_n 0, 1) := by decide +kernel
theorem dX5_saves_42 : decode cX5_saves 42 = .ok (.dup, 1) := by decide +kernel
theorem dX5_saves_43 : decode cX5_saves 43 = .ok (.getfield 32, 3) := by decide +kernel
theorem dX5_saves_46 : decode cX5_saves 46 = .ok (.iconst 1, 1) := by decide +kernel
theorem dX5_saves_47 : decode cX5_saves 47 = .ok (.iadd, 1) := by decide +kernel
theorem dX5_saves_48 : decode cX5_saves 48 = .ok (.putfield 32, 3) := by decide +kernel
theorem dX5_saves_51 : decode cX5_saves 51 = .ok (.aload_n 0, 1) := by decide +kernel
theorem dX5_saves_52 : decode cX5_saves 52 = .ok (.iconst 0, 1) := by decide +kernel
theorem dX5_saves_53 : decode cX5_saves 53 = .ok (.aload_n 0, 1) := by decide +kernel
theorem dX5_saves_54 : decode cX5_saves 54 = .ok (.getfield 32, 3) := by decide +kernel
theorem dX5_saves_57 : decode cX5_saves 57 = .ok (.invokevirtual 35, 3) := by decide +kernel
theorem dX5_saves_60 : decode cX5_saves 60 = .ok (.return_, 1) := by decide +kernel
theorem dX5_at_0 : decode cX5_at 0 = .ok (.iload_n 0, 1) := by decide +kernel
theorem dX5_at_1 : decode cX5_at 1 = .ok (.bipush 20, 2) := by decide +kernel
theorem dX5_at_3 : decode cX5_at 3 = .ok (.iadd, 1) := by decide +kernel
theorem dX5_at_4 : decode cX5_at 4 = .ok (.bipush 7, 2) := by decide +kernel
theorem dX5_at_6 : decode cX5_at 6 = .ok (.iload_n 1, 1) := by decide +kernel
theorem dX5_at_7 : decode cX5_at 7 = .ok (.imul, 1) := by decide +kernel
theorem dX5_at_8 : decode cX5_at 8 = .ok (.iadd, 1) := by decide +kernel
theorem dX5_at_9 : decode cX5_at 9 = .ok (.ireturn, 1) := by decide +kernel
theorem dX5_storeAt_0 : decode cX5_storeAt 0 = .ok (.iload_n 0, 1) := by decide +kernel
theorem dX5_storeAt_1 : decode cX5_storeAt 1 = .ok (.bipush 90, 2) := by decide +kernel
theorem dX5_storeAt_3 : decode cX5_storeAt 3 = .ok (.iadd, 1) := by decide +kernel
theorem dX5_storeAt_4 : decode cX5_storeAt 4 = .ok (.iconst 5, 1) := by decide +kernel
theorem dX5_storeAt_5 : decode cX5_storeAt 5 = .ok (.bipush 6, 2) := by decide +kernel
theorem dX5_storeAt_7 : decode cX5_storeAt 7 = .ok (.iload_n 1, 1) := by decide +kernel
theorem dX5_storeAt_8 : decode cX5_storeAt 8 = .ok (.imul, 1) := by decide +kernel
theorem dX5_storeAt_9 : decode cX5_storeAt 9 = .ok (.iload_n 2, 1) := by decide +kernel
theorem dX5_storeAt_10 : decode cX5_storeAt 10 = .ok (.iadd, 1) := by decide +kernel
theorem dX5_storeAt_11 : decode cX5_storeAt 11 = .ok (.imul, 1) := by decide +kernel
theorem dX5_storeAt_12 : decode cX5_storeAt 12 = .ok (.iadd, 1) := by decide +kernel
theorem dX5_storeAt_13 : decode cX5_storeAt 13 = .ok (.ireturn, 1) := by decide +kernel
theorem dX5_listAt_0 : decode cX5_listAt 0 = .ok (.iload_n 0, 1) := by decide +kernel
theorem dX5_listAt_1 : decode cX5_listAt 1 = .ok (.sipush 390, 3) := by decide +kernel
theorem dX5_listAt_4 : decode cX5_listAt 4 = .ok (.iadd, 1) := by decide +kernel
theorem dX5_listAt_5 : decode cX5_listAt 5 = .ok (.iconst 5, 1) := by decide +kernel
theorem dX5_listAt_6 : decode cX5_listAt 6 = .ok (.iload_n 1, 1) := by decide +kernel
theorem dX5_listAt_7 : decode cX5_listAt 7 = .ok (.imul, 1) := by decide +kernel
theorem dX5_listAt_8 : decode cX5_listAt 8 = .ok (.iadd, 1) := by decide +kernel
theorem dX5_listAt_9 : decode cX5_listAt 9 = .ok (.ireturn, 1) := by decide +kernel
theorem dX5_isOn_0 : decode cX5_isOn 0 = .ok (.aload_n 0, 1) := by decide +kernel
theorem dX5_isOn_1 : decode cX5_isOn 1 = .ok (.getfield 7, 3) := by decide +kernel
theorem dX5_isOn_4 : decode cX5_isOn 4 = .ok (.iload_n 1, 1) := by decide +kernel
theorem dX5_isOn_5 : decode cX5_isOn 5 = .ok (.bipush 10, 2) := by decide +kernel
theorem dX5_isOn_7 : decode cX5_isOn 7 = .ok (.iadd, 1) := by decide +kernel
theorem dX5_isOn_8 : decode cX5_isOn 8 = .ok (.iaload, 1) := by decide +kernel
theorem dX5_isOn_9 : decode cX5_isOn 9 = .ok (.iload_n 2, 1) := by decide +kernel
theorem dX5_isOn_10 : decode cX5_isOn 10 = .ok (.ishr, 1) := by decide +kernel
theorem dX5_isOn_11 : decode cX5_isOn 11 = .ok (.iconst 1, 1) := by decide +kernel
theorem dX5_isOn_12 : decode cX5_isOn 12 = .ok (.iand, 1) := by decide +kernel
theorem dX5_isOn_13 : decode cX5_isOn 13 = .ok (.iconst 1, 1) := by decide +kernel
theorem dX5_isOn_14 : decode cX5_isOn 14 = .ok (.if_icmp .ne 7, 3) := by decide +kernel
theorem dX5_isOn_17 : decode cX5_isOn 17 = .ok (.iconst 1, 1) := by decide +kernel
theorem dX5_isOn_18 : decode cX5_isOn 18 = .ok (.goto 4, 3) := by decide +kernel
theorem dX5_isOn_21 : decode cX5_isOn 21 = .ok (.iconst 0, 1) := by decide +kernel
theorem dX5_isOn_22 : decode cX5_isOn 22 = .ok (.ireturn, 1) := by decide +kernel
theorem dX5_areConnected_0 : decode cX5_areConnected 0 = .ok (.aload_n 0, 1) := by decide +kernel
theorem dX5_areConnected_1 : decode cX5_areConnected 1 = .ok (.getfield 7, 3) := by decide +kernel
theorem dX5_areConnected_4 : decode cX5_areConnected 4 = .ok (.iload_n 1, 1) := by decide +kernel
theorem dX5_areConnected_5 : decode cX5_areConnected 5 = .ok (.iconst 0, 1) := by decide +kernel
theorem dX5_areConnected_6 : decode cX5_areConnected 6 = .ok (.iadd, 1) := by decide +kernel
theorem dX5_areConnected_7 : decode cX5_areConnected 7 = .ok (.iload_n 2, 1) := by decide +kernel
theorem dX5_areConnected_8 : decode cX5_areConnected 8 = .ok (.iadd, 1) := by decide +kernel
theorem dX5_areConnected_9 : decode cX5_areConnected 9 = .ok (.iaload, 1) := by decide +kernel
theorem dX5_areConnected_10 : decode cX5_areConnected 10 = .ok (.iload_n 3, 1) := by decide +kernel
theorem dX5_areConnected_11 : decode cX5_areConnected 11 = .ok (.ishr, 1) := by decide +kernel
theorem dX5_areConnected_12 : decode cX5_areConnected 12 = .ok (.iconst 1, 1) := by decide +kernel
theorem dX5_areConnected_13 : decode cX5_areConnected 13 = .ok (.iand, 1) := by decide +kernel
theorem dX5_areConnected_14 : decode cX5_areConnected 14 = .ok (.iconst 1, 1) := by decide +kernel
theorem dX5_areConnected_15 : decode cX5_areConnected 15 = .ok (.if_icmp .ne 25, 3) := by decide +kernel
theorem dX5_areConnected_18 : decode cX5_areConnected 18 = .ok (.aload_n 0, 1) := by decide +kernel
theorem dX5_areConnected_19 : decode cX5_areConnected 19 = .ok (.iload_n 1, 1) := by decide +kernel
theorem dX5_areConnected_20 : decode cX5_areConnected 20 = .ok (.iload_n 2, 1) := by decide +kernel
theorem dX5_areConnected_21 : decode cX5_areConnected 21 = .ok (.invokevirtual 39, 3) := by decide +kernel
theorem dX5_areConnected_24 : decode cX5_areConnected 24 = .ok (.ifCond .eq 16, 3) := by decide +kernel
theorem dX5_areConnected_27 : decode cX5_areConnected 27 = .ok (.aload_n 0, 1) := by decide +kernel
theorem dX5_areConnected_28 : decode cX5_areConnected 28 = .ok (.iload_n 1, 1) := by decide +kernel
theorem dX5_areConnected_29 : decode cX5_areConnected 29 = .ok (.iload_n 3, 1) := by decide +kernel
theorem dX5_areConnected_30 : decode cX5_areConnected 30 = .ok (.invokevirtual 39, 3) := by decide +kernel
theorem dX5_areConnected_33 : decode cX5_areConnected 33 = .ok (.ifCond .eq 7, 3) := by decide +kernel
theorem dX5_areConnected_36 : decode cX5_areConnected 36 = .ok (.iconst 1, 1) := by decide +kernel
theorem dX5_areConnected_37 : decode cX5_areConnected 37 = .ok (.goto 4, 3) := by decide +kernel
theorem dX5_areConnected_40 : decode cX5_areConnected 40 = .ok (.iconst 0, 1) := by decide +kernel
theorem dX5_areConnected_41 : decode cX5_areConnected 41 = .ok (.ireturn, 1) := by decide +kernel
theorem dX5_drops_0 : decode cX5_drops 0 = .ok (.aload_n 0, 1) := by decide +kernel
theorem dX5_drops_1 : decode cX5_drops 1 = .ok (.getfield 7, 3) := by decide +kernel
theorem dX5_drops_4 : decode cX5_drops 4 = .ok (.iload_n 1, 1) := by decide +kernel
theorem dX5_drops_5 : decode cX5_drops 5 = .ok (.iload_n 2, 1) := by decide +kernel
theorem dX5_drops_6 : decode cX5_drops 6 = .ok (.invokestatic 20, 3) := by decide +kernel
theorem dX5_drops_9 : decode cX5_drops 9 = .ok (.iconst 1, 1) := by decide +kernel
theorem dX5_drops_10 : decode cX5_drops 10 = .ok (.iadd, 1) := by decide +kernel
theorem dX5_drops_11 : decode cX5_drops 11 = .ok (.iconst (-1), 1) := by decide +kernel
theorem dX5_drops_12 : decode cX5_drops 12 = .ok (.iastore, 1) := by decide +kernel
theorem dX5_drops_13 : decode cX5_drops 13 = .ok (.aload_n 0, 1) := by decide +kernel
theorem dX5_drops_14 : decode cX5_drops 14 = .ok (.getfield 7, 3) := by decide +kernel
theorem dX5_drops_17 : decode cX5_drops 17 = .ok (.iload_n 1, 1) := by decide +kernel
theorem dX5_drops_18 : decode cX5_drops 18 = .ok (.iload_n 2, 1) := by decide +kernel
theorem dX5_drops_19 : decode cX5_drops 19 = .ok (.invokestatic 20, 3) := by decide +kernel
theorem dX5_drops_22 : decode cX5_drops 22 = .ok (.iconst 2, 1) := by decide +kernel
theorem dX5_drops_23 : decode cX5_drops 23 = .ok (.iadd, 1) := by decide +kernel
theorem dX5_drops_24 : decode cX5_drops 24 = .ok (.iconst (-1), 1) := by decide +kernel
theorem dX5_drops_25 : decode cX5_drops 25 = .ok (.iastore, 1) := by decide +kernel
theorem dX5_drops_26 : decode cX5_drops 26 = .ok (.aload_n 0, 1) := by decide +kernel
theorem dX5_drops_27 : decode cX5_drops 27 = .ok (.getfield 7, 3) := by decide +kernel
theorem dX5_drops_30 : decode cX5_drops 30 = .ok (.iload_n 1, 1) := by decide +kernel
theorem dX5_drops_31 : decode cX5_drops 31 = .ok (.bipush 18, 2) := by decide +kernel
theorem dX5_drops_33 : decode cX5_drops 33 = .ok (.iadd, 1) := by decide +kernel
theorem dX5_drops_34 : decode cX5_drops 34 = .ok (.dup2, 1) := by decide +kernel
theorem dX5_drops_35 : decode cX5_drops 35 = .ok (.iaload, 1) := by decide +kernel
theorem dX5_drops_36 : decode cX5_drops 36 = .ok (.iconst 1, 1) := by decide +kernel
theorem dX5_drops_37 : decode cX5_drops 37 = .ok (.iadd, 1) := by decide +kernel
theorem dX5_drops_38 : decode cX5_drops 38 = .ok (.iastore, 1) := by decide +kernel
theorem dX5_drops_39 : decode cX5_drops 39 = .ok (.return_, 1) := by decide +kernel
theorem dX5_setsClock_0 : decode cX5_setsClock 0 = .ok (.aload_n 0, 1) := by decide +kernel
theorem dX5_setsClock_1 : decode cX5_setsClock 1 = .ok (.getfield 7, 3) := by decide +kernel
theorem dX5_setsClock_4 : decode cX5_setsClock 4 = .ok (.iload_n 1, 1) := by decide +kernel
theorem dX5_setsClock_5 : decode cX5_setsClock 5 = .ok (.iload_n 3, 1) := by decide +kernel
theorem dX5_setsClock_6 : decode cX5_setsClock 6 = .ok (.invokestatic 20, 3) := by decide +kernel
theorem dX5_setsClock_9 : decode cX5_setsClock 9 = .ok (.iconst 0, 1) := by decide +kernel
theorem dX5_setsClock_10 : decode cX5_setsClock 10 = .ok (.iadd, 1) := by decide +kernel
theorem dX5_setsClock_11 : decode cX5_setsClock 11 = .ok (.iaload, 1) := by decide +kernel
theorem dX5_setsClock_12 : decode cX5_setsClock 12 = .ok (.aload_n 0, 1) := by decide +kernel
theorem dX5_setsClock_13 : decode cX5_setsClock 13 = .ok (.getfield 7, 3) := by decide +kernel
theorem dX5_setsClock_16 : decode cX5_setsClock 16 = .ok (.iload_n 1, 1) := by decide +kernel
theorem dX5_setsClock_17 : decode cX5_setsClock 17 = .ok (.iload_n 2, 1) := by decide +kernel
theorem dX5_setsClock_18 : decode cX5_setsClock 18 = .ok (.invokestatic 20, 3) := by decide +kernel
theorem dX5_setsClock_21 : decode cX5_setsClock 21 = .ok (.iconst 0, 1) := by decide +kernel
theorem dX5_setsClock_22 : decode cX5_setsClock 22 = .ok (.iadd, 1) := by decide +kernel
theorem dX5_setsClock_23 : decode cX5_setsClock 23 = .ok (.iaload, 1) := by decide +kernel
theorem dX5_setsClock_24 : decode cX5_setsClock 24 = .ok (.isub, 1) := by decide +kernel
theorem dX5_setsClock_25 : decode cX5_setsClock 25 = .ok (.istore 4, 2) := by decide +kernel
theorem dX5_setsClock_27 : decode cX5_setsClock 27 = .ok (.aload_n 0, 1) := by decide +kernel
theorem dX5_setsClock_28 : decode cX5_setsClock 28 = .ok (.getfield 7, 3) := by decide +kernel
theorem dX5_setsClock_31 : decode cX5_setsClock 31 = .ok (.iload_n 1, 1) := by decide +kernel
theorem dX5_setsClock_32 : decode cX5_setsClock 32 = .ok (.iload_n 2, 1) := by decide +kernel
theorem dX5_setsClock_33 : decode cX5_setsClock 33 = .ok (.invokestatic 20, 3) := by decide +kernel
theorem dX5_setsClock_36 : decode cX5_setsClock 36 = .ok (.iconst 0, 1) := by decide +kernel
theorem dX5_setsClock_37 : decode cX5_setsClock 37 = .ok (.iadd, 1) := by decide +kernel
theorem dX5_setsClock_38 : decode cX5_setsClock 38 = .ok (.dup2, 1) := by decide +kernel
theorem dX5_setsClock_39 : decode cX5_setsClock 39 = .ok (.iaload, 1) := by decide +kernel
theorem dX5_setsClock_40 : decode cX5_setsClock 40 = .ok (.iload 4, 2) := by decide +kernel
theorem dX5_setsClock_42 : decode cX5_setsClock 42 = .ok (.iadd, 1) := by decide +kernel
theorem dX5_setsClock_43 : decode cX5_setsClock 43 = .ok (.iastore, 1) := by decide +kernel
theorem dX5_setsClock_44 : decode cX5_setsClock 44 = .ok (.iconst 0, 1) := by decide +kernel
theorem dX5_setsClock_45 : decode cX5_setsClock 45 = .ok (.istore 5, 2) := by decide +kernel
theorem dX5_setsClock_47 : decode cX5_setsClock 47 = .ok (.iload 5, 2) := by decide +kernel
theorem dX5_setsClock_49 : decode cX5_setsClock 49 = .ok (.aload_n 0, 1) := by decide +kernel
theorem dX5_setsClock_50 : decode cX5_setsClock 50 = .ok (.getfield 7, 3) := by decide +kernel
theorem dX5_setsClock_53 : decode cX5_setsClock 53 = .ok (.iload_n 1, 1) := by decide +kernel
theorem dX5_setsClock_54 : decode cX5_setsClock 54 = .ok (.iload_n 2, 1) := by decide +kernel
theorem dX5_setsClock_55 : decode cX5_setsClock 55 = .ok (.invokestatic 20, 3) := by decide +kernel
theorem dX5_setsClock_58 : decode cX5_setsClock 58 = .ok (.bipush 6, 2) := by decide +kernel
theorem dX5_setsClock_60 : decode cX5_setsClock 60 = .ok (.iadd, 1) := by decide +kernel
theorem dX5_setsClock_61 : decode cX5_setsClock 61 = .ok (.iaload, 1) := by decide +kernel
theorem dX5_setsClock_62 : decode cX5_setsClock 62 = .ok (.if_icmp .ge 28, 3) := by decide +kernel
theorem dX5_setsClock_65 : decode cX5_setsClock 65 = .ok (.aload_n 0, 1) := by decide +kernel
theorem dX5_setsClock_66 : decode cX5_setsClock 66 = .ok (.getfield 7, 3) := by decide +kernel
theorem dX5_setsClock_69 : decode cX5_setsClock 69 = .ok (.iload_n 1, 1) := by decide +kernel
theorem dX5_setsClock_70 : decode cX5_setsClock 70 = .ok (.iload_n 2, 1) := by decide +kernel
theorem dX5_setsClock_71 : decode cX5_setsClock 71 = .ok (.iload 5, 2) := by decide +kernel
theorem dX5_setsClock_73 : decode cX5_setsClock 73 = .ok (.invokestatic 43, 3) := by decide +kernel
theorem dX5_setsClock_76 : decode cX5_setsClock 76 = .ok (.iconst 4, 1) := by decide +kernel
theorem dX5_setsClock_77 : decode cX5_setsClock 77 = .ok (.iadd, 1) := by decide +kernel
theorem dX5_setsClock_78 : decode cX5_setsClock 78 = .ok (.dup2, 1) := by decide +kernel
theorem dX5_setsClock_79 : decode cX5_setsClock 79 = .ok (.iaload, 1) := by decide +kernel
theorem dX5_setsClock_80 : decode cX5_setsClock 80 = .ok (.iload 4, 2) := by decide +kernel
theorem dX5_setsClock_82 : decode cX5_setsClock 82 = .ok (.iadd, 1) := by decide +kernel
theorem dX5_setsClock_83 : decode cX5_setsClock 83 = .ok (.iastore, 1) := by decide +kernel
theorem dX5_setsClock_84 : decode cX5_setsClock 84 = .ok (.iinc 5 1, 3) := by decide +kernel
theorem dX5_setsClock_87 : decode cX5_setsClock 87 = .ok (.goto (-40), 3) := by decide +kernel
theorem dX5_setsClock_90 : decode cX5_setsClock 90 = .ok (.return_, 1) := by decide +kernel
theorem dX5_follows_0 : decode cX5_follows 0 = .ok (.aload_n 0, 1) := by decide +kernel
theorem dX5_follows_1 : decode cX5_follows 1 = .ok (.getfield 7, 3) := by decide +kernel
theorem dX5_follows_4 : decode cX5_follows 4 = .ok (.iload_n 1, 1) := by decide +kernel
theorem dX5_follows_5 : decode cX5_follows 5 = .ok (.iload_n 2, 1) := by decide +kernel
theorem dX5_follows_6 : decode cX5_follows 6 = .ok (.invokestatic 20, 3) := by decide +kernel
theorem dX5_follows_9 : decode cX5_follows 9 = .ok (.iconst 1, 1) := by decide +kernel
theorem dX5_follows_10 : decode cX5_follows 10 = .ok (.iadd, 1) := by decide +kernel
theorem dX5_follows_11 : decode cX5_follows 11 = .ok (.iload_n 3, 1) := by decide +kernel
theorem dX5_follows_12 : decode cX5_follows 12 = .ok (.iastore, 1) := by decide +kernel
theorem dX5_follows_13 : decode cX5_follows 13 = .ok (.aload_n 0, 1) := by decide +kernel
theorem dX5_follows_14 : decode cX5_follows 14 = .ok (.getfield 7, 3) := by decide +kernel
theorem dX5_follows_17 : decode cX5_follows 17 = .ok (.iload_n 1, 1) := by decide +kernel
theorem dX5_follows_18 : decode cX5_follows 18 = .ok (.iload_n 2, 1) := by decide +kernel
theorem dX5_follows_19 : decode cX5_follows 19 = .ok (.invokestatic 20, 3) := by decide +kernel
theorem dX5_follows_22 : decode cX5_follows 22 = .ok (.iconst 2, 1) := by decide +kernel
theorem dX5_follows_23 : decode cX5_follows 23 = .ok (.iadd, 1) := by decide +kernel
theorem dX5_follows_24 : decode cX5_follows 24 = .ok (.aload_n 0, 1) := by decide +kernel
theorem dX5_follows_25 : decode cX5_follows 25 = .ok (.getfield 7, 3) := by decide +kernel
theorem dX5_follows_28 : decode cX5_follows 28 = .ok (.iload_n 1, 1) := by decide +kernel
theorem dX5_follows_29 : decode cX5_follows 29 = .ok (.iload_n 3, 1) := by decide +kernel
theorem dX5_follows_30 : decode cX5_follows 30 = .ok (.invokestatic 20, 3) := by decide +kernel
theorem dX5_follows_33 : decode cX5_follows 33 = .ok (.iconst 2, 1) := by decide +kernel
theorem dX5_follows_34 : decode cX5_follows 34 = .ok (.iadd, 1) := by decide +kernel
theorem dX5_follows_35 : decode cX5_follows 35 = .ok (.iaload, 1) := by decide +kernel
theorem dX5_follows_36 : decode cX5_follows 36 = .ok (.iconst 1, 1) := by decide +kernel
theorem dX5_follows_37 : decode cX5_follows 37 = .ok (.iadd, 1) := by decide +kernel
theorem dX5_follows_38 : decode cX5_follows 38 = .ok (.iastore, 1) := by decide +kernel
theorem dX5_follows_39 : decode cX5_follows 39 = .ok (.aload_n 0, 1) := by decide +kernel
theorem dX5_follows_40 : decode cX5_follows 40 = .ok (.getfield 7, 3) := by decide +kernel
theorem dX5_follows_43 : decode cX5_follows 43 = .ok (.iload_n 1, 1) := by decide +kernel
theorem dX5_follows_44 : decode cX5_follows 44 = .ok (.iload_n 2, 1) := by decide +kernel
theorem dX5_follows_45 : decode cX5_follows 45 = .ok (.invokestatic 20, 3) := by decide +kernel
theorem dX5_follows_48 : decode cX5_follows 48 = .ok (.iconst 3, 1) := by decide +kernel
theorem dX5_follows_49 : decode cX5_follows 49 = .ok (.iadd, 1) := by decide +kernel
theorem dX5_follows_50 : decode cX5_follows 50 = .ok (.aload_n 0, 1) := by decide +kernel
theorem dX5_follows_51 : decode cX5_follows 51 = .ok (.getfield 7, 3) := by decide +kernel
theorem dX5_follows_54 : decode cX5_follows 54 = .ok (.iload_n 1, 1) := by decide +kernel
theorem dX5_follows_55 : decode cX5_follows 55 = .ok (.bipush 12, 2) := by decide +kernel
theorem dX5_follows_57 : decode cX5_follows 57 = .ok (.iadd, 1) := by decide +kernel
theorem dX5_follows_58 : decode cX5_follows 58 = .ok (.iaload, 1) := by decide +kernel
theorem dX5_follows_59 : decode cX5_follows 59 = .ok (.iastore, 1) := by decide +kernel
theorem dX5_follows_60 : decode cX5_follows 60 = .ok (.aload_n 0, 1) := by decide +kernel
theorem dX5_follows_61 : decode cX5_follows 61 = .ok (.iload_n 1, 1) := by decide +kernel
theorem dX5_follows_62 : decode cX5_follows 62 = .ok (.iload_n 2, 1) := by decide +kernel
theorem dX5_follows_63 : decode cX5_follows 63 = .ok (.iload_n 3, 1) := by decide +kernel
theorem dX5_follows_64 : decode cX5_follows 64 = .ok (.invokevirtual 47, 3) := by decide +kernel
theorem dX5_follows_67 : decode cX5_follows 67 = .ok (.return_, 1) := by decide +kernel
theorem dX5_hears_0 : decode cX5_hears 0 = .ok (.iload_n 1, 1) := by decide +kernel
theorem dX5_hears_1 : decode cX5_hears 1 = .ok (.iload_n 2, 1) := by decide +kernel
theorem dX5_hears_2 : decode cX5_hears 2 = .ok (.invokestatic 20, 3) := by decide +kernel
theorem dX5_hears_5 : decode cX5_hears 5 = .ok (.istore 4, 2) := by decide +kernel
theorem dX5_hears_7 : decode cX5_hears 7 = .ok (.aload_n 0, 1) := by decide +kernel
theorem dX5_hears_8 : decode cX5_hears 8 = .ok (.getfield 7, 3) := by decide +kernel
theorem dX5_hears_11 : decode cX5_hears 11 = .ok (.iload_n 1, 1) := by decide +kernel
theorem dX5_hears_12 : decode cX5_hears 12 = .ok (.iload_n 3, 1) := by decide +kernel
theorem dX5_hears_13 : decode cX5_hears 13 = .ok (.invokestatic 20, 3) := by decide +kernel
theorem dX5_hears_16 : decode cX5_hears 16 = .ok (.iconst 2, 1) := by decide +kernel
theorem dX5_hears_17 : decode cX5_hears 17 = .ok (.iadd, 1) := by decide +kernel
theorem dX5_hears_18 : decode cX5_hears 18 = .ok (.iaload, 1) := by decide +kernel
theorem dX5_hears_19 : decode cX5_hears 19 = .ok (.istore 5, 2) := by decide +kernel
theorem dX5_hears_21 : decode cX5_hears 21 = .ok (.iload 5, 2) := by decide +kernel
theorem dX5_hears_23 : decode cX5_hears 23 = .ok (.iconst (-1), 1) := by decide +kernel
theorem dX5_hears_24 : decode cX5_hears 24 = .ok (.if_icmp .eq 14, 3) := by decide +kernel
theorem dX5_hears_27 : decode cX5_hears 27 = .ok (.iload 5, 2) := by decide +kernel
theorem dX5_hears_29 : decode cX5_hears 29 = .ok (.bipush 9, 2) := by decide +kernel
theorem dX5_hears_31 : decode cX5_hears 31 = .ok (.if_icmp .ge 7, 3) := by decide +kernel
theorem dX5_hears_34 : decode cX5_hears 34 = .ok (.iconst 1, 1) := by decide +kernel
theorem dX5_hears_35 : decode cX5_hears 35 = .ok (.goto 4, 3) := by decide +kernel
theorem dX5_hears_38 : decode cX5_hears 38 = .ok (.iconst 0, 1) := by decide +kernel
theorem dX5_hears_39 : decode cX5_hears 39 = .ok (.istore 6, 2) := by decide +kernel
theorem dX5_hears_41 : decode cX5_hears 41 = .ok (.aload_n 0, 1) := by decide +kernel
theorem dX5_hears_42 : decode cX5_hears 42 = .ok (.getfield 7, 3) := by decide +kernel
theorem dX5_hears_45 : decode cX5_hears 45 = .ok (.iload 4, 2) := by decide +kernel
theorem dX5_hears_47 : decode cX5_hears 47 = .ok (.iconst 1, 1) := by decide +kernel
theorem dX5_hears_48 : decode cX5_hears 48 = .ok (.iadd, 1) := by decide +kernel
theorem dX5_hears_49 : decode cX5_hears 49 = .ok (.iaload, 1) := by decide +kernel
theorem dX5_hears_50 : decode cX5_hears 50 = .ok (.iload_n 3, 1) := by decide +kernel
theorem dX5_hears_51 : decode cX5_hears 51 = .ok (.if_icmp .ne 27, 3) := by decide +kernel
theorem dX5_hears_54 : decode cX5_hears 54 = .ok (.iload 6, 2) := by decide +kernel
theorem dX5_hears_56 : decode cX5_hears 56 = .ok (.ifCond .eq 13, 3) := by decide +kernel
theorem dX5_hears_59 : decode cX5_hears 59 = .ok (.aload_n 0, 1) := by decide +kernel
theorem dX5_hears_60 : decode cX5_hears 60 = .ok (.iload_n 1, 1) := by decide +kernel
theorem dX5_hears_61 : decode cX5_hears 61 = .ok (.iload_n 2, 1) := by decide +kernel
theorem dX5_hears_62 : decode cX5_hears 62 = .ok (.iload_n 3, 1) := by decide +kernel
theorem dX5_hears_63 : decode cX5_hears 63 = .ok (.invokevirtual 51, 3) := by decide +kernel
theorem dX5_hears_66 : decode cX5_hears 66 = .ok (.goto 69, 3) := by decide +kernel
theorem dX5_hears_69 : decode cX5_hears 69 = .ok (.aload_n 0, 1) := by decide +kernel
theorem dX5_hears_70 : decode cX5_hears 70 = .ok (.iload_n 1, 1) := by decide +kernel
theorem dX5_hears_71 : decode cX5_hears 71 = .ok (.iload_n 2, 1) := by decide +kernel
theorem dX5_hears_72 : decode cX5_hears 72 = .ok (.invokevirtual 54, 3) := by decide +kernel
theorem dX5_hears_75 : decode cX5_hears 75 = .ok (.goto 60, 3) := by decide +kernel
theorem dX5_hears_78 : decode cX5_hears 78 = .ok (.iload 6, 2) := by decide +kernel
theorem dX5_hears_80 : decode cX5_hears 80 = .ok (.ifCond .eq 55, 3) := by decide +kernel
theorem dX5_hears_83 : decode cX5_hears 83 = .ok (.aload_n 0, 1) := by decide +kernel
theorem dX5_hears_84 : decode cX5_hears 84 = .ok (.getfield 7, 3) := by decide +kernel
theorem dX5_hears_87 : decode cX5_hears 87 = .ok (.iload_n 1, 1) := by decide +kernel
theorem dX5_hears_88 : decode cX5_hears 88 = .ok (.iload_n 3, 1) := by decide +kernel
theorem dX5_hears_89 : decode cX5_hears 89 = .ok (.invokestatic 20, 3) := by decide +kernel
theorem dX5_hears_92 : decode cX5_hears 92 = .ok (.iconst 1, 1) := by decide +kernel
theorem dX5_hears_93 : decode cX5_hears 93 = .ok (.iadd, 1) := by decide +kernel
theorem dX5_hears_94 : decode cX5_hears 94 = .ok (.iaload, 1) := by decide +kernel
theorem dX5_hears_95 : decode cX5_hears 95 = .ok (.iload_n 2, 1) := by decide +kernel
theorem dX5_hears_96 : decode cX5_hears 96 = .ok (.if_icmp .eq 39, 3) := by decide +kernel
theorem dX5_hears_99 : decode cX5_hears 99 = .ok (.aload_n 0, 1) := by decide +kernel
theorem dX5_hears_100 : decode cX5_hears 100 = .ok (.getfield 7, 3) := by decide +kernel
theorem dX5_hears_103 : decode cX5_hears 103 = .ok (.iload 4, 2) := by decide +kernel
theorem dX5_hears_105 : decode cX5_hears 105 = .ok (.iconst 1, 1) := by decide +kernel
theorem dX5_hears_106 : decode cX5_hears 106 = .ok (.iadd, 1) := by decide +kernel
theorem dX5_hears_107 : decode cX5_hears 107 = .ok (.iaload, 1) := by decide +kernel
theorem dX5_hears_108 : decode cX5_hears 108 = .ok (.iconst (-1), 1) := by decide +kernel
theorem dX5_hears_109 : decode cX5_hears 109 = .ok (.if_icmp .eq 19, 3) := by decide +kernel
theorem dX5_hears_112 : decode cX5_hears 112 = .ok (.aload_n 0, 1) := by decide +kernel
theorem dX5_hears_113 : decode cX5_hears 113 = .ok (.getfield 7, 3) := by decide +kernel
theorem dX5_hears_116 : decode cX5_hears 116 = .ok (.iload 4, 2) := by decide +kernel
theorem dX5_hears_118 : decode cX5_hears 118 = .ok (.iconst 2, 1) := by decide +kernel
theorem dX5_hears_119 : decode cX5_hears 119 = .ok (.iadd, 1) := by decide +kernel
theorem dX5_hears_120 : decode cX5_hears 120 = .ok (.iaload, 1) := by decide +kernel
theorem dX5_hears_121 : decode cX5_hears 121 = .ok (.iload 5, 2) := by decide +kernel
theorem dX5_hears_123 : decode cX5_hears 123 = .ok (.iconst 1, 1) := by decide +kernel
theorem dX5_hears_124 : decode cX5_hears 124 = .ok (.iadd, 1) := by decide +kernel
theorem dX5_hears_125 : decode cX5_hears 125 = .ok (.if_icmp .le 10, 3) := by decide +kernel
theorem dX5_hears_128 : decode cX5_hears 128 = .ok (.aload_n 0, 1) := by decide +kernel
theorem dX5_hears_129 : decode cX5_hears 129 = .ok (.iload_n 1, 1) := by decide +kernel
theorem dX5_hears_130 : decode cX5_hears 130 = .ok (.iload_n 2, 1) := by decide +kernel
theorem dX5_hears_131 : decode cX5_hears 131 = .ok (.iload_n 3, 1) := by decide +kernel
theorem dX5_hears_132 : decode cX5_hears 132 = .ok (.invokevirtual 51, 3) := by decide +kernel
theorem dX5_hears_135 : decode cX5_hears 135 = .ok (.return_, 1) := by decide +kernel
theorem dX5_areSame_0 : decode cX5_areSame 0 = .ok (.aload_n 0, 1) := by decide +kernel
theorem dX5_areSame_1 : decode cX5_areSame 1 = .ok (.getfield 7, 3) := by decide +kernel
theorem dX5_areSame_4 : decode cX5_areSame 4 = .ok (.iload_n 1, 1) := by decide +kernel
theorem dX5_areSame_5 : decode cX5_areSame 5 = .ok (.iaload, 1) := by decide +kernel
theorem dX5_areSame_6 : decode cX5_areSame 6 = .ok (.aload_n 0, 1) := by decide +kernel
theorem dX5_areSame_7 : decode cX5_areSame 7 = .ok (.getfield 7, 3) := by decide +kernel
theorem dX5_areSame_10 : decode cX5_areSame 10 = .ok (.iload_n 2, 1) := by decide +kernel
theorem dX5_areSame_11 : decode cX5_areSame 11 = .ok (.iaload, 1) := by decide +kernel
theorem dX5_areSame_12 : decode cX5_areSame 12 = .ok (.if_icmp .ne 26, 3) := by decide +kernel
theorem dX5_areSame_15 : decode cX5_areSame 15 = .ok (.aload_n 0, 1) := by decide +kernel
theorem dX5_areSame_16 : decode cX5_areSame 16 = .ok (.getfield 7, 3) := by decide +kernel
theorem dX5_areSame_19 : decode cX5_areSame 19 = .ok (.iload_n 1, 1) := by decide +kernel
theorem dX5_areSame_20 : decode cX5_areSame 20 = .ok (.iconst 1, 1) := by decide +kernel
theorem dX5_areSame_21 : decode cX5_areSame 21 = .ok (.iadd, 1) := by decide +kernel
theorem dX5_areSame_22 : decode cX5_areSame 22 = .ok (.iaload, 1) := by decide +kernel
theorem dX5_areSame_23 : decode cX5_areSame 23 = .ok (.aload_n 0, 1) := by decide +kernel
theorem dX5_areSame_24 : decode cX5_areSame 24 = .ok (.getfield 7, 3) := by decide +kernel
theorem dX5_areSame_27 : decode cX5_areSame 27 = .ok (.iload_n 2, 1) := by decide +kernel
theorem dX5_areSame_28 : decode cX5_areSame 28 = .ok (.iconst 1, 1) := by decide +kernel
theorem dX5_areSame_29 : decode cX5_areSame 29 = .ok (.iadd, 1) := by decide +kernel
theorem dX5_areSame_30 : decode cX5_areSame 30 = .ok (.iaload, 1) := by decide +kernel
theorem dX5_areSame_31 : decode cX5_areSame 31 = .ok (.if_icmp .ne 7, 3) := by decide +kernel
theorem dX5_areSame_34 : decode cX5_areSame 34 = .ok (.iconst 1, 1) := by decide +kernel
theorem dX5_areSame_35 : decode cX5_areSame 35 = .ok (.goto 4, 3) := by decide +kernel
theorem dX5_areSame_38 : decode cX5_areSame 38 = .ok (.iconst 0, 1) := by decide +kernel
theorem dX5_areSame_39 : decode cX5_areSame 39 = .ok (.ireturn, 1) := by decide +kernel
theorem dX5_isCollected_0 : decode cX5_isCollected 0 = .ok (.iconst 0, 1) := by decide +kernel
theorem dX5_isCollected_1 : decode cX5_isCollected 1 = .ok (.istore_n 3, 1) := by decide +kernel
theorem dX5_isCollected_2 : decode cX5_isCollected 2 = .ok (.iconst 0, 1) := by decide +kernel
theorem dX5_isCollected_3 : decode cX5_isCollected 3 = .ok (.istore 4, 2) := by decide +kernel
theorem dX5_isCollected_5 : decode cX5_isCollected 5 = .ok (.iload 4, 2) := by decide +kernel
theorem dX5_isCollected_7 : decode cX5_isCollected 7 = .ok (.aload_n 0, 1) := by decide +kernel
theorem dX5_isCollected_8 : decode cX5_isCollected 8 = .ok (.getfield 7, 3) := by decide +kernel
theorem dX5_isCollected_11 : decode cX5_isCollected 11 = .ok (.iload_n 1, 1) := by decide +kernel
theorem dX5_isCollected_12 : decode cX5_isCollected 12 = .ok (.bipush 19, 2) := by decide +kernel
theorem dX5_isCollected_14 : decode cX5_isCollected 14 = .ok (.iadd, 1) := by decide +kernel
theorem dX5_isCollected_15 : decode cX5_isCollected 15 = .ok (.iaload, 1) := by decide +kernel
theorem dX5_isCollected_16 : decode cX5_isCollected 16 = .ok (.if_icmp .ge 33, 3) := by decide +kernel
theorem dX5_isCollected_19 : decode cX5_isCollected 19 = .ok (.iload_n 3, 1) := by decide +kernel
theorem dX5_isCollected_20 : decode cX5_isCollected 20 = .ok (.ifCond .ne 17, 3) := by decide +kernel
theorem dX5_isCollected_23 : decode cX5_isCollected 23 = .ok (.aload_n 0, 1) := by decide +kernel
theorem dX5_isCollected_24 : decode cX5_isCollected 24 = .ok (.iload_n 2, 1) := by decide +kernel
theorem dX5_isCollected_25 : decode cX5_isCollected 25 = .ok (.iload_n 1, 1) := by decide +kernel
theorem dX5_isCollected_26 : decode cX5_isCollected 26 = .ok (.iload 4, 2) := by decide +kernel
theorem dX5_isCollected_28 : decode cX5_isCollected 28 = .ok (.invokestatic 57, 3) := by decide +kernel
theorem dX5_isCollected_31 : decode cX5_isCollected 31 = .ok (.invokevirtual 60, 3) := by decide +kernel
theorem dX5_isCollected_34 : decode cX5_isCollected 34 = .ok (.ifCond .eq 7, 3) := by decide +kernel
theorem dX5_isCollected_37 : decode cX5_isCollected 37 = .ok (.iconst 1, 1) := by decide +kernel
theorem dX5_isCollected_38 : decode cX5_isCollected 38 = .ok (.goto 4, 3) := by decide +kernel
theorem dX5_isCollected_41 : decode cX5_isCollected 41 = .ok (.iconst 0, 1) := by decide +kernel
theorem dX5_isCollected_42 : decode cX5_isCollected 42 = .ok (.istore_n 3, 1) := by decide +kernel
theorem dX5_isCollected_43 : decode cX5_isCollected 43 = .ok (.iinc 4 1, 3) := by decide +kernel
theorem dX5_isCollected_46 : decode cX5_isCollected 46 = .ok (.goto (-41), 3) := by decide +kernel
theorem dX5_isCollected_49 : decode cX5_isCollected 49 = .ok (.iload_n 3, 1) := by decide +kernel
theorem dX5_isCollected_50 : decode cX5_isCollected 50 = .ok (.ireturn, 1) := by decide +kernel
theorem dX5_isStored_0 : decode cX5_isStored 0 = .ok (.iconst 0, 1) := by decide +kernel
theorem dX5_isStored_1 : decode cX5_isStored 1 = .ok (.istore 4, 2) := by decide +kernel
theorem dX5_isStored_3 : decode cX5_isStored 3 = .ok (.iconst 0, 1) := by decide +kernel
theorem dX5_isStored_4 : decode cX5_isStored 4 = .ok (.istore 5, 2) := by decide +kernel
theorem dX5_isStored_6 : decode cX5_isStored 6 = .ok (.iload 5, 2) := by decide +kernel
theorem dX5_isStored_8 : decode cX5_isStored 8 = .ok (.aload_n 0, 1) := by decide +kernel
theorem dX5_isStored_9 : decode cX5_isStored 9 = .ok (.getfield 7, 3) := by decide +kernel
theorem dX5_isStored_12 : decode cX5_isStored 12 = .ok (.iload_n 1, 1) := by decide +kernel
theorem dX5_isStored_13 : decode cX5_isStored 13 = .ok (.iload_n 2, 1) := by decide +kernel
theorem dX5_isStored_14 : decode cX5_isStored 14 = .ok (.invokestatic 20, 3) := by decide +kernel
theorem dX5_isStored_17 : decode cX5_isStored 17 = .ok (.bipush 6, 2) := by decide +kernel
theorem dX5_isStored_19 : decode cX5_isStored 19 = .ok (.iadd, 1) := by decide +kernel
theorem dX5_isStored_20 : decode cX5_isStored 20 = .ok (.iaload, 1) := by decide +kernel
theorem dX5_isStored_21 : decode cX5_isStored 21 = .ok (.if_icmp .ge 36, 3) := by decide +kernel
theorem dX5_isStored_24 : decode cX5_isStored 24 = .ok (.iload 4, 2) := by decide +kernel
theorem dX5_isStored_26 : decode cX5_isStored 26 = .ok (.ifCond .ne 18, 3) := by decide +kernel
theorem dX5_isStored_29 : decode cX5_isStored 29 = .ok (.aload_n 0, 1) := by decide +kernel
theorem dX5_isStored_30 : decode cX5_isStored 30 = .ok (.iload_n 3, 1) := by decide +kernel
theorem dX5_isStored_31 : decode cX5_isStored 31 = .ok (.iload_n 1, 1) := by decide +kernel
theorem dX5_isStored_32 : decode cX5_isStored 32 = .ok (.iload_n 2, 1) := by decide +kernel
theorem dX5_isStored_33 : decode cX5_isStored 33 = .ok (.iload 5, 2) := by decide +kernel
theorem dX5_isStored_35 : decode cX5_isStored 35 = .ok (.invokestatic 43, 3) := by decide +kernel
theorem dX5_isStored_38 : decode cX5_isStored 38 = .ok (.invokevirtual 60, 3) := by decide +kernel
theorem dX5_isStored_41 : decode cX5_isStored 41 = .ok (.ifCond .eq 7, 3) := by decide +kernel
theorem dX5_isStored_44 : decode cX5_isStored 44 = .ok (.iconst 1, 1) := by decide +kernel
theorem dX5_isStored_45 : decode cX5_isStored 45 = .ok (.goto 4, 3) := by decide +kernel
theorem dX5_isStored_48 : decode cX5_isStored 48 = .ok (.iconst 0, 1) := by decide +kernel
theorem dX5_isStored_49 : decode cX5_isStored 49 = .ok (.istore 4, 2) := by decide +kernel
theorem dX5_isStored_51 : decode cX5_isStored 51 = .ok (.iinc 5 1, 3) := by decide +kernel
theorem dX5_isStored_54 : decode cX5_isStored 54 = .ok (.goto (-48), 3) := by decide +kernel
theorem dX5_isStored_57 : decode cX5_isStored 57 = .ok (.iload 4, 2) := by decide +kernel
theorem dX5_isStored_59 : decode cX5_isStored 59 = .ok (.ireturn, 1) := by decide +kernel
theorem dX5_writes_0 : decode cX5_writes 0 = .ok (.iconst 0, 1) := by decide +kernel
theorem dX5_writes_1 : decode cX5_writes 1 = .ok (.istore 4, 2) := by decide +kernel
theorem dX5_writes_3 : decode cX5_writes 3 = .ok (.iload 4, 2) := by decide +kernel
theorem dX5_writes_5 : decode cX5_writes 5 = .ok (.iconst 5, 1) := by decide +kernel
theorem dX5_writes_6 : decode cX5_writes 6 = .ok (.if_icmp .ge 27, 3) := by decide +kernel
theorem dX5_writes_9 : decode cX5_writes 9 = .ok (.aload_n 0, 1) := by decide +kernel
theorem dX5_writes_10 : decode cX5_writes 10 = .ok (.getfield 7, 3) := by decide +kernel
theorem dX5_writes_13 : decode cX5_writes 13 = .ok (.iload_n 2, 1) := by decide +kernel
theorem dX5_writes_14 : decode cX5_writes 14 = .ok (.iload 4, 2) := by decide +kernel
theorem dX5_writes_16 : decode cX5_writes 16 = .ok (.iadd, 1) := by decide +kernel
theorem dX5_writes_17 : decode cX5_writes 17 = .ok (.aload_n 0, 1) := by decide +kernel
theorem dX5_writes_18 : decode cX5_writes 18 = .ok (.getfield 7, 3) := by decide +kernel
theorem dX5_writes_21 : decode cX5_writes 21 = .ok (.iload_n 1, 1) := by decide +kernel
theorem dX5_writes_22 : decode cX5_writes 22 = .ok (.iload 4, 2) := by decide +kernel
theorem dX5_writes_24 : decode cX5_writes 24 = .ok (.iadd, 1) := by decide +kernel
theorem dX5_writes_25 : decode cX5_writes 25 = .ok (.iaload, 1) := by decide +kernel
theorem dX5_writes_26 : decode cX5_writes 26 = .ok (.iastore, 1) := by decide +kernel
theorem dX5_writes_27 : decode cX5_writes 27 = .ok (.iinc 4 1, 3) := by decide +kernel
theorem dX5_writes_30 : decode cX5_writes 30 = .ok (.goto (-27), 3) := by decide +kernel
theorem dX5_writes_33 : decode cX5_writes 33 = .ok (.aload_n 0, 1) := by decide +kernel
theorem dX5_writes_34 : decode cX5_writes 34 = .ok (.getfield 7, 3) := by decide +kernel
theorem dX5_writes_37 : decode cX5_writes 37 = .ok (.iload_n 2, 1) := by decide +kernel
theorem dX5_writes_38 : decode cX5_writes 38 = .ok (.iconst 4, 1) := by decide +kernel
theorem dX5_writes_39 : decode cX5_writes 39 = .ok (.iadd, 1) := by decide +kernel
theorem dX5_writes_40 : decode cX5_writes 40 = .ok (.dup2, 1) := by decide +kernel
theorem dX5_writes_41 : decode cX5_writes 41 = .ok (.iaload, 1) := by decide +kernel
theorem dX5_writes_42 : decode cX5_writes 42 = .ok (.iload_n 3, 1) := by decide +kernel
theorem dX5_writes_43 : decode cX5_writes 43 = .ok (.iadd, 1) := by decide +kernel
theorem dX5_writes_44 : decode cX5_writes 44 = .ok (.iastore, 1) := by decide +kernel
theorem dX5_writes_45 : decode cX5_writes 45 = .ok (.return_, 1) := by decide +kernel
theorem dX5_hands_0 : decode cX5_hands 0 = .ok (.iload_n 3, 1) := by decide +kernel
theorem dX5_hands_1 : decode cX5_hands 1 = .ok (.ifCond .ne 63, 3) := by decide +kernel
theorem dX5_hands_4 : decode cX5_hands 4 = .ok (.aload_n 0, 1) := by decide +kernel
theorem dX5_hands_5 : decode cX5_hands 5 = .ok (.iload_n 1, 1) := by decide +kernel
theorem dX5_hands_6 : decode cX5_hands 6 = .ok (.iload_n 2, 1) := by decide +kernel
theorem dX5_hands_7 : decode cX5_hands 7 = .ok (.invokevirtual 63, 3) := by decide +kernel
theorem dX5_hands_10 : decode cX5_hands 10 = .ok (.ifCond .eq 19, 3) := by decide +kernel
theorem dX5_hands_13 : decode cX5_hands 13 = .ok (.aload_n 0, 1) := by decide +kernel
theorem dX5_hands_14 : decode cX5_hands 14 = .ok (.getfield 7, 3) := by decide +kernel
theorem dX5_hands_17 : decode cX5_hands 17 = .ok (.iload_n 1, 1) := by decide +kernel
theorem dX5_hands_18 : decode cX5_hands 18 = .ok (.bipush 15, 2) := by decide +kernel
theorem dX5_hands_20 : decode cX5_hands 20 = .ok (.iadd, 1) := by decide +kernel
theorem dX5_hands_21 : decode cX5_hands 21 = .ok (.dup2, 1) := by decide +kernel
theorem dX5_hands_22 : decode cX5_hands 22 = .ok (.iaload, 1) := by decide +kernel
theorem dX5_hands_23 : decode cX5_hands 23 = .ok (.iconst 1, 1) := by decide +kernel
theorem dX5_hands_24 : decode cX5_hands 24 = .ok (.iadd, 1) := by decide +kernel
theorem dX5_hands_25 : decode cX5_hands 25 = .ok (.iastore, 1) := by decide +kernel
theorem dX5_hands_26 : decode cX5_hands 26 = .ok (.goto 36, 3) := by decide +kernel
theorem dX5_hands_29 : decode cX5_hands 29 = .ok (.aload_n 0, 1) := by decide +kernel
theorem dX5_hands_30 : decode cX5_hands 30 = .ok (.iload_n 2, 1) := by decide +kernel
theorem dX5_hands_31 : decode cX5_hands 31 = .ok (.iload_n 1, 1) := by decide +kernel
theorem dX5_hands_32 : decode cX5_hands 32 = .ok (.aload_n 0, 1) := by decide +kernel
theorem dX5_hands_33 : decode cX5_hands 33 = .ok (.getfield 7, 3) := by decide +kernel
theorem dX5_hands_36 : decode cX5_hands 36 = .ok (.iload_n 1, 1) := by decide +kernel
theorem dX5_hands_37 : decode cX5_hands 37 = .ok (.bipush 19, 2) := by decide +kernel
theorem dX5_hands_39 : decode cX5_hands 39 = .ok (.iadd, 1) := by decide +kernel
theorem dX5_hands_40 : decode cX5_hands 40 = .ok (.iaload, 1) := by decide +kernel
theorem dX5_hands_41 : decode cX5_hands 41 = .ok (.invokestatic 57, 3) := by decide +kernel
theorem dX5_hands_44 : decode cX5_hands 44 = .ok (.iload 4, 2) := by decide +kernel
theorem dX5_hands_46 : decode cX5_hands 46 = .ok (.invokevirtual 66, 3) := by decide +kernel
theorem dX5_hands_49 : decode cX5_hands 49 = .ok (.aload_n 0, 1) := by decide +kernel
theorem dX5_hands_50 : decode cX5_hands 50 = .ok (.getfield 7, 3) := by decide +kernel
theorem dX5_hands_53 : decode cX5_hands 53 = .ok (.iload_n 1, 1) := by decide +kernel
theorem dX5_hands_54 : decode cX5_hands 54 = .ok (.bipush 19, 2) := by decide +kernel
theorem dX5_hands_56 : decode cX5_hands 56 = .ok (.iadd, 1) := by decide +kernel
theorem dX5_hands_57 : decode cX5_hands 57 = .ok (.dup2, 1) := by decide +kernel
theorem dX5_hands_58 : decode cX5_hands 58 = .ok (.iaload, 1) := by decide +kernel
theorem dX5_hands_59 : decode cX5_hands 59 = .ok (.iconst 1, 1) := by decide +kernel
theorem dX5_hands_60 : decode cX5_hands 60 = .ok (.iadd, 1) := by decide +kernel
theorem dX5_hands_61 : decode cX5_hands 61 = .ok (.iastore, 1) := by decide +kernel
theorem dX5_hands_62 : decode cX5_hands 62 = .ok (.iconst 1, 1) := by decide +kernel
theorem dX5_hands_63 : decode cX5_hands 63 = .ok (.ireturn, 1) := by decide +kernel
theorem dX5_hands_64 : decode cX5_hands 64 = .ok (.aload_n 0, 1) := by decide +kernel
theorem dX5_hands_65 : decode cX5_hands 65 = .ok (.iload_n 1, 1) := by decide +kernel
theorem dX5_hands_66 : decode cX5_hands 66 = .ok (.iload_n 3, 1) := by decide +kernel
theorem dX5_hands_67 : decode cX5_hands 67 = .ok (.iload_n 2, 1) := by decide +kernel
theorem dX5_hands_68 : decode cX5_hands 68 = .ok (.invokevirtual 69, 3) := by decide +kernel
theorem dX5_hands_71 : decode cX5_hands 71 = .ok (.ifCond .eq 18, 3) := by decide +kernel
theorem dX5_hands_74 : decode cX5_hands 74 = .ok (.aload_n 0, 1) := by decide +kernel
theorem dX5_hands_75 : decode cX5_hands 75 = .ok (.getfield 7, 3) := by decide +kernel
theorem dX5_hands_78 : decode cX5_hands 78 = .ok (.iload_n 1, 1) := by decide +kernel
theorem dX5_hands_79 : decode cX5_hands 79 = .ok (.bipush 15, 2) := by decide +kernel
theorem dX5_hands_81 : decode cX5_hands 81 = .ok (.iadd, 1) := by decide +kernel
theorem dX5_hands_82 : decode cX5_hands 82 = .ok (.dup2, 1) := by decide +kernel
theorem dX5_hands_83 : decode cX5_hands 83 = .ok (.iaload, 1) := by decide +kernel
theorem dX5_hands_84 : decode cX5_hands 84 = .ok (.iconst 1, 1) := by decide +kernel
theorem dX5_hands_85 : decode cX5_hands 85 = .ok (.iadd, 1) := by decide +kernel
theorem dX5_hands_86 : decode cX5_hands 86 = .ok (.iastore, 1) := by decide +kernel
theorem dX5_hands_87 : decode cX5_hands 87 = .ok (.iconst 1, 1) := by decide +kernel
theorem dX5_hands_88 : decode cX5_hands 88 = .ok (.ireturn, 1) := by decide +kernel
theorem dX5_hands_89 : decode cX5_hands 89 = .ok (.aload_n 0, 1) := by decide +kernel
theorem dX5_hands_90 : decode cX5_hands 90 = .ok (.getfield 7, 3) := by decide +kernel
theorem dX5_hands_93 : decode cX5_hands 93 = .ok (.iload_n 1, 1) := by decide +kernel
theorem dX5_hands_94 : decode cX5_hands 94 = .ok (.iload_n 3, 1) := by decide +kernel
theorem dX5_hands_95 : decode cX5_hands 95 = .ok (.invokestatic 20, 3) := by decide +kernel
theorem dX5_hands_98 : decode cX5_hands 98 = .ok (.bipush 6, 2) := by decide +kernel
theorem dX5_hands_100 : decode cX5_hands 100 = .ok (.iadd, 1) := by decide +kernel
theorem dX5_hands_101 : decode cX5_hands 101 = .ok (.iaload, 1) := by decide +kernel
theorem dX5_hands_102 : decode cX5_hands 102 = .ok (.bipush 6, 2) := by decide +kernel
theorem dX5_hands_104 : decode cX5_hands 104 = .ok (.if_icmp .ne 18, 3) := by decide +kernel
theorem dX5_hands_107 : decode cX5_hands 107 = .ok (.aload_n 0, 1) := by decide +kernel
theorem dX5_hands_108 : decode cX5_hands 108 = .ok (.getfield 7, 3) := by decide +kernel
theorem dX5_hands_111 : decode cX5_hands 111 = .ok (.iload_n 1, 1) := by decide +kernel
theorem dX5_hands_112 : decode cX5_hands 112 = .ok (.bipush 16, 2) := by decide +kernel
theorem dX5_hands_114 : decode cX5_hands 114 = .ok (.iadd, 1) := by decide +kernel
theorem dX5_hands_115 : decode cX5_hands 115 = .ok (.dup2, 1) := by decide +kernel
theorem dX5_hands_116 : decode cX5_hands 116 = .ok (.iaload, 1) := by decide +kernel
theorem dX5_hands_117 : decode cX5_hands 117 = .ok (.iconst 1, 1) := by decide +kernel
theorem dX5_hands_118 : decode cX5_hands 118 = .ok (.iadd, 1) := by decide +kernel
theorem dX5_hands_119 : decode cX5_hands 119 = .ok (.iastore, 1) := by decide +kernel
theorem dX5_hands_120 : decode cX5_hands 120 = .ok (.iconst 0, 1) := by decide +kernel
theorem dX5_hands_121 : decode cX5_hands 121 = .ok (.ireturn, 1) := by decide +kernel
theorem dX5_hands_122 : decode cX5_hands 122 = .ok (.aload_n 0, 1) := by decide +kernel
theorem dX5_hands_123 : decode cX5_hands 123 = .ok (.iload_n 2, 1) := by decide +kernel
theorem dX5_hands_124 : decode cX5_hands 124 = .ok (.iload_n 1, 1) := by decide +kernel
theorem dX5_hands_125 : decode cX5_hands 125 = .ok (.iload_n 3, 1) := by decide +kernel
theorem dX5_hands_126 : decode cX5_hands 126 = .ok (.aload_n 0, 1) := by decide +kernel
theorem dX5_hands_127 : decode cX5_hands 127 = .ok (.getfield 7, 3) := by decide +kernel
theorem dX5_hands_130 : decode cX5_hands 130 = .ok (.iload_n 1, 1) := by decide +kernel
theorem dX5_hands_131 : decode cX5_hands 131 = .ok (.iload_n 3, 1) := by decide +kernel
theorem dX5_hands_132 : decode cX5_hands 132 = .ok (.invokestatic 20, 3) := by decide +kernel
theorem dX5_hands_135 : decode cX5_hands 135 = .ok (.bipush 6, 2) := by decide +kernel
theorem dX5_hands_137 : decode cX5_hands 137 = .ok (.iadd, 1) := by decide +kernel
theorem dX5_hands_138 : decode cX5_hands 138 = .ok (.iaload, 1) := by decide +kernel
theorem dX5_hands_139 : decode cX5_hands 139 = .ok (.invokestatic 43, 3) := by decide +kernel
theorem dX5_hands_142 : decode cX5_hands 142 = .ok (.iload 4, 2) := by decide +kernel
theorem dX5_hands_144 : decode cX5_hands 144 = .ok (.invokevirtual 66, 3) := by decide +kernel
theorem dX5_hands_147 : decode cX5_hands 147 = .ok (.aload_n 0, 1) := by decide +kernel
theorem dX5_hands_148 : decode cX5_hands 148 = .ok (.getfield 7, 3) := by decide +kernel
theorem dX5_hands_151 : decode cX5_hands 151 = .ok (.iload_n 1, 1) := by decide +kernel
theorem dX5_hands_152 : decode cX5_hands 152 = .ok (.iload_n 3, 1) := by decide +kernel
theorem dX5_hands_153 : decode cX5_hands 153 = .ok (.invokestatic 20, 3) := by decide +kernel
theorem dX5_hands_156 : decode cX5_hands 156 = .ok (.bipush 6, 2) := by decide +kernel
theorem dX5_hands_158 : decode cX5_hands 158 = .ok (.iadd, 1) := by decide +kernel
theorem dX5_hands_159 : decode cX5_hands 159 = .ok (.dup2, 1) := by decide +kernel
theorem dX5_hands_160 : decode cX5_hands 160 = .ok (.iaload, 1) := by decide +kernel
theorem dX5_hands_161 : decode cX5_hands 161 = .ok (.iconst 1, 1) := by decide +kernel
theorem dX5_hands_162 : decode cX5_hands 162 = .ok (.iadd, 1) := by decide +kernel
theorem dX5_hands_163 : decode cX5_hands 163 = .ok (.iastore, 1) := by decide +kernel
theorem dX5_hands_164 : decode cX5_hands 164 = .ok (.iconst 1, 1) := by decide +kernel
theorem dX5_hands_165 : decode cX5_hands 165 = .ok (.ireturn, 1) := by decide +kernel
theorem dX5_removesFirst_0 : decode cX5_removesFirst 0 = .ok (.aload_n 0, 1) := by decide +kernel
theorem dX5_removesFirst_1 : decode cX5_removesFirst 1 = .ok (.getfield 7, 3) := by decide +kernel
theorem dX5_removesFirst_4 : decode cX5_removesFirst 4 = .ok (.iload_n 1, 1) := by decide +kernel
theorem dX5_removesFirst_5 : decode cX5_removesFirst 5 = .ok (.iload_n 2, 1) := by decide +kernel
theorem dX5_removesFirst_6 : decode cX5_removesFirst 6 = .ok (.invokestatic 20, 3) := by decide +kernel
theorem dX5_removesFirst_9 : decode cX5_removesFirst 9 = .ok (.bipush 6, 2) := by decide +kernel
theorem dX5_removesFirst_11 : decode cX5_removesFirst 11 = .ok (.iadd, 1) := by decide +kernel
theorem dX5_removesFirst_12 : decode cX5_removesFirst 12 = .ok (.dup2, 1) := by decide +kernel
theorem dX5_removesFirst_13 : decode cX5_removesFirst 13 = .ok (.iaload, 1) := by decide +kernel
theorem dX5_removesFirst_14 : decode cX5_removesFirst 14 = .ok (.iconst 1, 1) := by decide +kernel
theorem dX5_removesFirst_15 : decode cX5_removesFirst 15 = .ok (.isub, 1) := by decide +kernel
theorem dX5_removesFirst_16 : decode cX5_removesFirst 16 = .ok (.iastore, 1) := by decide +kernel
theorem dX5_removesFirst_17 : decode cX5_removesFirst 17 = .ok (.iconst 0, 1) := by decide +kernel
theorem dX5_removesFirst_18 : decode cX5_removesFirst 18 = .ok (.istore_n 3, 1) := by decide +kernel
theorem dX5_removesFirst_19 : decode cX5_removesFirst 19 = .ok (.iload_n 3, 1) := by decide +kernel
theorem dX5_removesFirst_20 : decode cX5_removesFirst 20 = .ok (.aload_n 0, 1) := by decide +kernel
theorem dX5_removesFirst_21 : decode cX5_removesFirst 21 = .ok (.getfield 7, 3) := by decide +kernel
theorem dX5_removesFirst_24 : decode cX5_removesFirst 24 = .ok (.iload_n 1, 1) := by decide +kernel
theorem dX5_removesFirst_25 : decode cX5_removesFirst 25 = .ok (.iload_n 2, 1) := by decide +kernel
theorem dX5_removesFirst_26 : decode cX5_removesFirst 26 = .ok (.invokestatic 20, 3) := by decide +kernel
theorem dX5_removesFirst_29 : decode cX5_removesFirst 29 = .ok (.bipush 6, 2) := by decide +kernel
theorem dX5_removesFirst_31 : decode cX5_removesFirst 31 = .ok (.iadd, 1) := by decide +kernel
theorem dX5_removesFirst_32 : decode cX5_removesFirst 32 = .ok (.iaload, 1) := by decide +kernel
theorem dX5_removesFirst_33 : decode cX5_removesFirst 33 = .ok (.if_icmp .ge 28, 3) := by decide +kernel
theorem dX5_removesFirst_36 : decode cX5_removesFirst 36 = .ok (.aload_n 0, 1) := by decide +kernel
theorem dX5_removesFirst_37 : decode cX5_removesFirst 37 = .ok (.iload_n 1, 1) := by decide +kernel
theorem dX5_removesFirst_38 : decode cX5_removesFirst 38 = .ok (.iload_n 2, 1) := by decide +kernel
theorem dX5_removesFirst_39 : decode cX5_removesFirst 39 = .ok (.iload_n 3, 1) := by decide +kernel
theorem dX5_removesFirst_40 : decode cX5_removesFirst 40 = .ok (.iconst 1, 1) := by decide +kernel
theorem dX5_removesFirst_41 : decode cX5_removesFirst 41 = .ok (.iadd, 1) := by decide +kernel
theorem dX5_removesFirst_42 : decode cX5_removesFirst 42 = .ok (.invokestatic 43, 3) := by decide +kernel
theorem dX5_removesFirst_45 : decode cX5_removesFirst 45 = .ok (.iload_n 1, 1) := by decide +kernel
theorem dX5_removesFirst_46 : decode cX5_removesFirst 46 = .ok (.iload_n 2, 1) := by decide +kernel
theorem dX5_removesFirst_47 : decode cX5_removesFirst 47 = .ok (.iload_n 3, 1) := by decide +kernel
theorem dX5_removesFirst_48 : decode cX5_removesFirst 48 = .ok (.invokestatic 43, 3) := by decide +kernel
theorem dX5_removesFirst_51 : decode cX5_removesFirst 51 = .ok (.iconst 0, 1) := by decide +kernel
theorem dX5_removesFirst_52 : decode cX5_removesFirst 52 = .ok (.invokevirtual 66, 3) := by decide +kernel
theorem dX5_removesFirst_55 : decode cX5_removesFirst 55 = .ok (.iinc 3 1, 3) := by decide +kernel
theorem dX5_removesFirst_58 : decode cX5_removesFirst 58 = .ok (.goto (-39), 3) := by decide +kernel
theorem dX5_removesFirst_61 : decode cX5_removesFirst 61 = .ok (.return_, 1) := by decide +kernel
theorem dX5_sends_0 : decode cX5_sends 0 = .ok (.iload_n 1, 1) := by decide +kernel
theorem dX5_sends_1 : decode cX5_sends 1 = .ok (.iload_n 2, 1) := by decide +kernel
theorem dX5_sends_2 : decode cX5_sends 2 = .ok (.invokestatic 20, 3) := by decide +kernel
theorem dX5_sends_5 : decode cX5_sends 5 = .ok (.istore_n 3, 1) := by decide +kernel
theorem dX5_sends_6 : decode cX5_sends 6 = .ok (.aload_n 0, 1) := by decide +kernel
theorem dX5_sends_7 : decode cX5_sends 7 = .ok (.getfield 7, 3) := by decide +kernel
theorem dX5_sends_10 : decode cX5_sends 10 = .ok (.iload_n 3, 1) := by decide +kernel
theorem dX5_sends_11 : decode cX5_sends 11 = .ok (.iconst 1, 1) := by decide +kernel
theorem dX5_sends_12 : decode cX5_sends 12 = .ok (.iadd, 1) := by decide +kernel
theorem dX5_sends_13 : decode cX5_sends 13 = .ok (.iaload, 1) := by decide +kernel
theorem dX5_sends_14 : decode cX5_sends 14 = .ok (.istore 4, 2) := by decide +kernel
theorem dX5_sends_16 : decode cX5_sends 16 = .ok (.iload 4, 2) := by decide +kernel
theorem dX5_sends_18 : decode cX5_sends 18 = .ok (.iconst (-1), 1) := by decide +kernel
theorem dX5_sends_19 : decode cX5_sends 19 = .ok (.if_icmp .eq 26, 3) := by decide +kernel
theorem dX5_sends_22 : decode cX5_sends 22 = .ok (.aload_n 0, 1) := by decide +kernel
theorem dX5_sends_23 : decode cX5_sends 23 = .ok (.getfield 7, 3) := by decide +kernel
theorem dX5_sends_26 : decode cX5_sends 26 = .ok (.iload_n 3, 1) := by decide +kernel
theorem dX5_sends_27 : decode cX5_sends 27 = .ok (.bipush 6, 2) := by decide +kernel
theorem dX5_sends_29 : decode cX5_sends 29 = .ok (.iadd, 1) := by decide +kernel
theorem dX5_sends_30 : decode cX5_sends 30 = .ok (.iaload, 1) := by decide +kernel
theorem dX5_sends_31 : decode cX5_sends 31 = .ok (.ifCond .eq 14, 3) := by decide +kernel
theorem dX5_sends_34 : decode cX5_sends 34 = .ok (.aload_n 0, 1) := by decide +kernel
theorem dX5_sends_35 : decode cX5_sends 35 = .ok (.iload_n 1, 1) := by decide +kernel
theorem dX5_sends_36 : decode cX5_sends 36 = .ok (.iload_n 2, 1) := by decide +kernel
theorem dX5_sends_37 : decode cX5_sends 37 = .ok (.iload 4, 2) := by decide +kernel
theorem dX5_sends_39 : decode cX5_sends 39 = .ok (.invokevirtual 72, 3) := by decide +kernel
theorem dX5_sends_42 : decode cX5_sends 42 = .ok (.ifCond .ne 4, 3) := by decide +kernel
theorem dX5_sends_45 : decode cX5_sends 45 = .ok (.return_, 1) := by decide +kernel
theorem dX5_sends_46 : decode cX5_sends 46 = .ok (.aload_n 0, 1) := by decide +kernel
theorem dX5_sends_47 : decode cX5_sends 47 = .ok (.getfield 7, 3) := by decide +kernel
theorem dX5_sends_50 : decode cX5_sends 50 = .ok (.iload_n 1, 1) := by decide +kernel
theorem dX5_sends_51 : decode cX5_sends 51 = .ok (.bipush 14, 2) := by decide +kernel
theorem dX5_sends_53 : decode cX5_sends 53 = .ok (.iadd, 1) := by decide +kernel
theorem dX5_sends_54 : decode cX5_sends 54 = .ok (.dup2, 1) := by decide +kernel
theorem dX5_sends_55 : decode cX5_sends 55 = .ok (.iaload, 1) := by decide +kernel
theorem dX5_sends_56 : decode cX5_sends 56 = .ok (.iconst 1, 1) := by decide +kernel
theorem dX5_sends_57 : decode cX5_sends 57 = .ok (.iadd, 1) := by decide +kernel
theorem dX5_sends_58 : decode cX5_sends 58 = .ok (.iastore, 1) := by decide +kernel
theorem dX5_sends_59 : decode cX5_sends 59 = .ok (.aload_n 0, 1) := by decide +kernel
theorem dX5_sends_60 : decode cX5_sends 60 = .ok (.iload_n 1, 1) := by decide +kernel
theorem dX5_sends_61 : decode cX5_sends 61 = .ok (.iload_n 1, 1) := by decide +kernel
theorem dX5_sends_62 : decode cX5_sends 62 = .ok (.iload_n 2, 1) := by decide +kernel
theorem dX5_sends_63 : decode cX5_sends 63 = .ok (.iconst 0, 1) := by decide +kernel
theorem dX5_sends_64 : decode cX5_sends 64 = .ok (.invokestatic 43, 3) := by decide +kernel
theorem dX5_sends_67 : decode cX5_sends 67 = .ok (.iload 4, 2) := by decide +kernel
theorem dX5_sends_69 : decode cX5_sends 69 = .ok (.aload_n 0, 1) := by decide +kernel
theorem dX5_sends_70 : decode cX5_sends 70 = .ok (.getfield 7, 3) := by decide +kernel
theorem dX5_sends_73 : decode cX5_sends 73 = .ok (.iload_n 1, 1) := by decide +kernel
theorem dX5_sends_74 : decode cX5_sends 74 = .ok (.iload 4, 2) := by decide +kernel
theorem dX5_sends_76 : decode cX5_sends 76 = .ok (.invokestatic 20, 3) := by decide +kernel
theorem dX5_sends_79 : decode cX5_sends 79 = .ok (.iconst 0, 1) := by decide +kernel
theorem dX5_sends_80 : decode cX5_sends 80 = .ok (.iadd, 1) := by decide +kernel
theorem dX5_sends_81 : decode cX5_sends 81 = .ok (.iaload, 1) := by decide +kernel
theorem dX5_sends_82 : decode cX5_sends 82 = .ok (.aload_n 0, 1) := by decide +kernel
theorem dX5_sends_83 : decode cX5_sends 83 = .ok (.getfield 7, 3) := by decide +kernel
theorem dX5_sends_86 : decode cX5_sends 86 = .ok (.iload_n 3, 1) := by decide +kernel
theorem dX5_sends_87 : decode cX5_sends 87 = .ok (.iconst 0, 1) := by decide +kernel
theorem dX5_sends_88 : decode cX5_sends 88 = .ok (.iadd, 1) := by decide +kernel
theorem dX5_sends_89 : decode cX5_sends 89 = .ok (.iaload, 1) := by decide +kernel
theorem dX5_sends_90 : decode cX5_sends 90 = .ok (.isub, 1) := by decide +kernel
theorem dX5_sends_91 : decode cX5_sends 91 = .ok (.invokevirtual 75, 3) := by decide +kernel
theorem dX5_sends_94 : decode cX5_sends 94 = .ok (.ifCond .ne 4, 3) := by decide +kernel
theorem dX5_sends_97 : decode cX5_sends 97 = .ok (.return_, 1) := by decide +kernel
theorem dX5_sends_98 : decode cX5_sends 98 = .ok (.aload_n 0, 1) := by decide +kernel
theorem dX5_sends_99 : decode cX5_sends 99 = .ok (.getfield 7, 3) := by decide +kernel
theorem dX5_sends_102 : decode cX5_sends 102 = .ok (.iload_n 3, 1) := by decide +kernel
theorem dX5_sends_103 : decode cX5_sends 103 = .ok (.iconst 4, 1) := by decide +kernel
theorem dX5_sends_104 : decode cX5_sends 104 = .ok (.iadd, 1) := by decide +kernel
theorem dX5_sends_105 : decode cX5_sends 105 = .ok (.iaload, 1) := by decide +kernel
theorem dX5_sends_106 : decode cX5_sends 106 = .ok (.ifCond .le 31, 3) := by decide +kernel
theorem dX5_sends_109 : decode cX5_sends 109 = .ok (.aload_n 0, 1) := by decide +kernel
theorem dX5_sends_110 : decode cX5_sends 110 = .ok (.getfield 7, 3) := by decide +kernel
theorem dX5_sends_113 : decode cX5_sends 113 = .ok (.iload_n 3, 1) := by decide +kernel
theorem dX5_sends_114 : decode cX5_sends 114 = .ok (.iconst 4, 1) := by decide +kernel
theorem dX5_sends_115 : decode cX5_sends 115 = .ok (.iadd, 1) := by decide +kernel
theorem dX5_sends_116 : decode cX5_sends 116 = .ok (.dup2, 1) := by decide +kernel
theorem dX5_sends_117 : decode cX5_sends 117 = .ok (.iaload, 1) := by decide +kernel
theorem dX5_sends_118 : decode cX5_sends 118 = .ok (.iconst 1, 1) := by decide +kernel
theorem dX5_sends_119 : decode cX5_sends 119 = .ok (.isub, 1) := by decide +kernel
theorem dX5_sends_120 : decode cX5_sends 120 = .ok (.iastore, 1) := by decide +kernel
theorem dX5_sends_121 : decode cX5_sends 121 = .ok (.aload_n 0, 1) := by decide +kernel
theorem dX5_sends_122 : decode cX5_sends 122 = .ok (.getfield 7, 3) := by decide +kernel
theorem dX5_sends_125 : decode cX5_sends 125 = .ok (.iload_n 1, 1) := by decide +kernel
theorem dX5_sends_126 : decode cX5_sends 126 = .ok (.bipush 17, 2) := by decide +kernel
theorem dX5_sends_128 : decode cX5_sends 128 = .ok (.iadd, 1) := by decide +kernel
theorem dX5_sends_129 : decode cX5_sends 129 = .ok (.dup2, 1) := by decide +kernel
theorem dX5_sends_130 : decode cX5_sends 130 = .ok (.iaload, 1) := by decide +kernel
theorem dX5_sends_131 : decode cX5_sends 131 = .ok (.iconst 1, 1) := by decide +kernel
theorem dX5_sends_132 : decode cX5_sends 132 = .ok (.iadd, 1) := by decide +kernel
theorem dX5_sends_133 : decode cX5_sends 133 = .ok (.iastore, 1) := by decide +kernel
theorem dX5_sends_134 : decode cX5_sends 134 = .ok (.goto 9, 3) := by decide +kernel
theorem dX5_sends_137 : decode cX5_sends 137 = .ok (.aload_n 0, 1) := by decide +kernel
theorem dX5_sends_138 : decode cX5_sends 138 = .ok (.iload_n 1, 1) := by decide +kernel
theorem dX5_sends_139 : decode cX5_sends 139 = .ok (.iload_n 2, 1) := by decide +kernel
theorem dX5_sends_140 : decode cX5_sends 140 = .ok (.invokevirtual 79, 3) := by decide +kernel
theorem dX5_sends_143 : decode cX5_sends 143 = .ok (.return_, 1) := by decide +kernel
theorem dX5_slot_0 : decode cX5_slot 0 = .ok (.aload_n 0, 1) := by decide +kernel
theorem dX5_slot_1 : decode cX5_slot 1 = .ok (.getfield 7, 3) := by decide +kernel
theorem dX5_slot_4 : decode cX5_slot 4 = .ok (.iload_n 1, 1) := by decide +kernel
theorem dX5_slot_5 : decode cX5_slot 5 = .ok (.bipush 12, 2) := by decide +kernel
theorem dX5_slot_7 : decode cX5_slot 7 = .ok (.iadd, 1) := by decide +kernel
theorem dX5_slot_8 : decode cX5_slot 8 = .ok (.iaload, 1) := by decide +kernel
theorem dX5_slot_9 : decode cX5_slot 9 = .ok (.bipush 10, 2) := by decide +kernel
theorem dX5_slot_11 : decode cX5_slot 11 = .ok (.irem, 1) := by decide +kernel
theorem dX5_slot_12 : decode cX5_slot 12 = .ok (.istore_n 2, 1) := by decide +kernel
theorem dX5_slot_13 : decode cX5_slot 13 = .ok (.aload_n 0, 1) := by decide +kernel
theorem dX5_slot_14 : decode cX5_slot 14 = .ok (.iload_n 1, 1) := by decide +kernel
theorem dX5_slot_15 : decode cX5_slot 15 = .ok (.iload_n 2, 1) := by decide +kernel
theorem dX5_slot_16 : decode cX5_slot 16 = .ok (.invokevirtual 39, 3) := by decide +kernel
theorem dX5_slot_19 : decode cX5_slot 19 = .ok (.ifCond .eq 105, 3) := by decide +kernel
theorem dX5_slot_22 : decode cX5_slot 22 = .ok (.iload_n 1, 1) := by decide +kernel
theorem dX5_slot_23 : decode cX5_slot 23 = .ok (.iload_n 2, 1) := by decide +kernel
theorem dX5_slot_24 : decode cX5_slot 24 = .ok (.invokestatic 20, 3) := by decide +kernel
theorem dX5_slot_27 : decode cX5_slot 27 = .ok (.istore_n 3, 1) := by decide +kernel
theorem dX5_slot_28 : decode cX5_slot 28 = .ok (.aload_n 0, 1) := by decide +kernel
theorem dX5_slot_29 : decode cX5_slot 29 = .ok (.getfield 7, 3) := by decide +kernel
theorem dX5_slot_32 : decode cX5_slot 32 = .ok (.iload_n 3, 1) := by decide +kernel
theorem dX5_slot_33 : decode cX5_slot 33 = .ok (.iconst 1, 1) := by decide +kernel
theorem dX5_slot_34 : decode cX5_slot 34 = .ok (.iadd, 1) := by decide +kernel
theorem dX5_slot_35 : decode cX5_slot 35 = .ok (.iaload, 1) := by decide +kernel
theorem dX5_slot_36 : decode cX5_slot 36 = .ok (.iconst (-1), 1) := by decide +kernel
theorem dX5_slot_37 : decode cX5_slot 37 = .ok (.if_icmp .eq 42, 3) := by decide +kernel
theorem dX5_slot_40 : decode cX5_slot 40 = .ok (.aload_n 0, 1) := by decide +kernel
theorem dX5_slot_41 : decode cX5_slot 41 = .ok (.getfield 7, 3) := by decide +kernel
theorem dX5_slot_44 : decode cX5_slot 44 = .ok (.iload_n 1, 1) := by decide +kernel
theorem dX5_slot_45 : decode cX5_slot 45 = .ok (.bipush 12, 2) := by decide +kernel
theorem dX5_slot_47 : decode cX5_slot 47 = .ok (.iadd, 1) := by decide +kernel
theorem dX5_slot_48 : decode cX5_slot 48 = .ok (.iaload, 1) := by decide +kernel
theorem dX5_slot_49 : decode cX5_slot 49 = .ok (.aload_n 0, 1) := by decide +kernel
theorem dX5_slot_50 : decode cX5_slot 50 = .ok (.getfield 7, 3) := by decide +kernel
theorem dX5_slot_53 : decode cX5_slot 53 = .ok (.iload_n 3, 1) := by decide +kernel
theorem dX5_slot_54 : decode cX5_slot 54 = .ok (.iconst 3, 1) := by decide +kernel
theorem dX5_slot_55 : decode cX5_slot 55 = .ok (.iadd, 1) := by decide +kernel
theorem dX5_slot_56 : decode cX5_slot 56 = .ok (.iaload, 1) := by decide +kernel
theorem dX5_slot_57 : decode cX5_slot 57 = .ok (.isub, 1) := by decide +kernel
theorem dX5_slot_58 : decode cX5_slot 58 = .ok (.bipush 10, 2) := by decide +kernel
theorem dX5_slot_60 : decode cX5_slot 60 = .ok (.aload_n 0, 1) := by decide +kernel
theorem dX5_slot_61 : decode cX5_slot 61 = .ok (.getfield 7, 3) := by decide +kernel
theorem dX5_slot_64 : decode cX5_slot 64 = .ok (.iload_n 1, 1) := by decide +kernel
theorem dX5_slot_65 : decode cX5_slot 65 = .ok (.bipush 11, 2) := by decide +kernel
theorem dX5_slot_67 : decode cX5_slot 67 = .ok (.iadd, 1) := by decide +kernel
theorem dX5_slot_68 : decode cX5_slot 68 = .ok (.iaload, 1) := by decide +kernel
theorem dX5_slot_69 : decode cX5_slot 69 = .ok (.imul, 1) := by decide +kernel
theorem dX5_slot_70 : decode cX5_slot 70 = .ok (.if_icmp .le 9, 3) := by decide +kernel
theorem dX5_slot_73 : decode cX5_slot 73 = .ok (.aload_n 0, 1) := by decide +kernel
theorem dX5_slot_74 : decode cX5_slot 74 = .ok (.iload_n 1, 1) := by decide +kernel
theorem dX5_slot_75 : decode cX5_slot 75 = .ok (.iload_n 2, 1) := by decide +kernel
theorem dX5_slot_76 : decode cX5_slot 76 = .ok (.invokevirtual 54, 3) := by decide +kernel
theorem dX5_slot_79 : decode cX5_slot 79 = .ok (.iconst 1, 1) := by decide +kernel
theorem dX5_slot_80 : decode cX5_slot 80 = .ok (.istore 4, 2) := by decide +kernel
theorem dX5_slot_82 : decode cX5_slot 82 = .ok (.iload 4, 2) := by decide +kernel
theorem dX5_slot_84 : decode cX5_slot 84 = .ok (.bipush 10, 2) := by decide +kernel
theorem dX5_slot_86 : decode cX5_slot 86 = .ok (.if_icmp .ge 28, 3) := by decide +kernel
theorem dX5_slot_89 : decode cX5_slot 89 = .ok (.aload_n 0, 1) := by decide +kernel
theorem dX5_slot_90 : decode cX5_slot 90 = .ok (.iload_n 1, 1) := by decide +kernel
theorem dX5_slot_91 : decode cX5_slot 91 = .ok (.iload 4, 2) := by decide +kernel
theorem dX5_slot_93 : decode cX5_slot 93 = .ok (.iload_n 2, 1) := by decide +kernel
theorem dX5_slot_94 : decode cX5_slot 94 = .ok (.invokevirtual 72, 3) := by decide +kernel
theorem dX5_slot_97 : decode cX5_slot 97 = .ok (.ifCond .eq 11, 3) := by decide +kernel
theorem dX5_slot_100 : decode cX5_slot 100 = .ok (.aload_n 0, 1) := by decide +kernel
theorem dX5_slot_101 : decode cX5_slot 101 = .ok (.iload_n 1, 1) := by decide +kernel
theorem dX5_slot_102 : decode cX5_slot 102 = .ok (.iload 4, 2) := by decide +kernel
theorem dX5_slot_104 : decode cX5_slot 104 = .ok (.iload_n 2, 1) := by decide +kernel
theorem dX5_slot_105 : decode cX5_slot 105 = .ok (.invokevirtual 82, 3) := by decide +kernel
theorem dX5_slot_108 : decode cX5_slot 108 = .ok (.iinc 4 1, 3) := by decide +kernel
theorem dX5_slot_111 : decode cX5_slot 111 = .ok (.goto (-29), 3) := by decide +kernel
theorem dX5_slot_114 : decode cX5_slot 114 = .ok (.iload_n 2, 1) := by decide +kernel
theorem dX5_slot_115 : decode cX5_slot 115 = .ok (.ifCond .le 9, 3) := by decide +kernel
theorem dX5_slot_118 : decode cX5_slot 118 = .ok (.aload_n 0, 1) := by decide +kernel
theorem dX5_slot_119 : decode cX5_slot 119 = .ok (.iload_n 1, 1) := by decide +kernel
theorem dX5_slot_120 : decode cX5_slot 120 = .ok (.iload_n 2, 1) := by decide +kernel
theorem dX5_slot_121 : decode cX5_slot 121 = .ok (.invokevirtual 85, 3) := by decide +kernel
theorem dX5_slot_124 : decode cX5_slot 124 = .ok (.aload_n 0, 1) := by decide +kernel
theorem dX5_slot_125 : decode cX5_slot 125 = .ok (.getfield 7, 3) := by decide +kernel
theorem dX5_slot_128 : decode cX5_slot 128 = .ok (.iload_n 1, 1) := by decide +kernel
theorem dX5_slot_129 : decode cX5_slot 129 = .ok (.bipush 12, 2) := by decide +kernel
theorem dX5_slot_131 : decode cX5_slot 131 = .ok (.iadd, 1) := by decide +kernel
theorem dX5_slot_132 : decode cX5_slot 132 = .ok (.dup2, 1) := by decide +kernel
theorem dX5_slot_133 : decode cX5_slot 133 = .ok (.iaload, 1) := by decide +kernel
theorem dX5_slot_134 : decode cX5_slot 134 = .ok (.iconst 1, 1) := by decide +kernel
theorem dX5_slot_135 : decode cX5_slot 135 = .ok (.iadd, 1) := by decide +kernel
theorem dX5_slot_136 : decode cX5_slot 136 = .ok (.iastore, 1) := by decide +kernel
theorem dX5_slot_137 : decode cX5_slot 137 = .ok (.return_, 1) := by decide +kernel
theorem dX5_runs_0 : decode cX5_runs 0 = .ok (.aload_n 0, 1) := by decide +kernel
theorem dX5_runs_1 : decode cX5_runs 1 = .ok (.getfield 7, 3) := by decide +kernel
theorem dX5_runs_4 : decode cX5_runs 4 = .ok (.iload_n 1, 1) := by decide +kernel
theorem dX5_runs_5 : decode cX5_runs 5 = .ok (.bipush 19, 2) := by decide +kernel
theorem dX5_runs_7 : decode cX5_runs 7 = .ok (.iadd, 1) := by decide +kernel
theorem dX5_runs_8 : decode cX5_runs 8 = .ok (.iaload, 1) := by decide +kernel
theorem dX5_runs_9 : decode cX5_runs 9 = .ok (.istore_n 3, 1) := by decide +kernel
theorem dX5_runs_10 : decode cX5_runs 10 = .ok (.iconst 0, 1) := by decide +kernel
theorem dX5_runs_11 : decode cX5_runs 11 = .ok (.istore 4, 2) := by decide +kernel
theorem dX5_runs_13 : decode cX5_runs 13 = .ok (.iload 4, 2) := by decide +kernel
theorem dX5_runs_15 : decode cX5_runs 15 = .ok (.iload_n 2, 1) := by decide +kernel
theorem dX5_runs_16 : decode cX5_runs 16 = .ok (.if_icmp .ge 14, 3) := by decide +kernel
theorem dX5_runs_19 : decode cX5_runs 19 = .ok (.aload_n 0, 1) := by decide +kernel
theorem dX5_runs_20 : decode cX5_runs 20 = .ok (.iload_n 1, 1) := by decide +kernel
theorem dX5_runs_21 : decode cX5_runs 21 = .ok (.invokevirtual 88, 3) := by decide +kernel
theorem dX5_runs_24 : decode cX5_runs 24 = .ok (.iinc 4 1, 3) := by decide +kernel
theorem dX5_runs_27 : decode cX5_runs 27 = .ok (.goto (-14), 3) := by decide +kernel
theorem dX5_runs_30 : decode cX5_runs 30 = .ok (.aload_n 0, 1) := by decide +kernel
theorem dX5_runs_31 : decode cX5_runs 31 = .ok (.getfield 7, 3) := by decide +kernel
theorem dX5_runs_34 : decode cX5_runs 34 = .ok (.iload_n 1, 1) := by decide +kernel
theorem dX5_runs_35 : decode cX5_runs 35 = .ok (.bipush 19, 2) := by decide +kernel
theorem dX5_runs_37 : decode cX5_runs 37 = .ok (.iadd, 1) := by decide +kernel
theorem dX5_runs_38 : decode cX5_runs 38 = .ok (.iaload, 1) := by decide +kernel
theorem dX5_runs_39 : decode cX5_runs 39 = .ok (.iload_n 3, 1) := by decide +kernel
theorem dX5_runs_40 : decode cX5_runs 40 = .ok (.isub, 1) := by decide +kernel
theorem dX5_runs_41 : decode cX5_runs 41 = .ok (.ireturn, 1) := by decide +kernel
theorem dX5_ones_0 : decode cX5_ones 0 = .ok (.iconst 0, 1) := by decide +kernel
theorem dX5_ones_1 : decode cX5_ones 1 = .ok (.istore_n 1, 1) := by decide +kernel
theorem dX5_ones_2 : decode cX5_ones 2 = .ok (.iconst 0, 1) := by decide +kernel
theorem dX5_ones_3 : decode cX5_ones 3 = .ok (.istore_n 2, 1) := by decide +kernel
theorem dX5_ones_4 : decode cX5_ones 4 = .ok (.iload_n 2, 1) := by decide +kernel
theorem dX5_ones_5 : decode cX5_ones 5 = .ok (.bipush 10, 2) := by decide +kernel
theorem dX5_ones_7 : decode cX5_ones 7 = .ok (.if_icmp .ge 17, 3) := by decide +kernel
theorem dX5_ones_10 : decode cX5_ones 10 = .ok (.iload_n 1, 1) := by decide +kernel
theorem dX5_ones_11 : decode cX5_ones 11 = .ok (.iload_n 0, 1) := by decide +kernel
theorem dX5_ones_12 : decode cX5_ones 12 = .ok (.iload_n 2, 1) := by decide +kernel
theorem dX5_ones_13 : decode cX5_ones 13 = .ok (.ishr, 1) := by decide +kernel
theorem dX5_ones_14 : decode cX5_ones 14 = .ok (.iconst 1, 1) := by decide +kernel
theorem dX5_ones_15 : decode cX5_ones 15 = .ok (.iand, 1) := by decide +kernel
theorem dX5_ones_16 : decode cX5_ones 16 = .ok (.iadd, 1) := by decide +kernel
theorem dX5_ones_17 : decode cX5_ones 17 = .ok (.istore_n 1, 1) := by decide +kernel
theorem dX5_ones_18 : decode cX5_ones 18 = .ok (.iinc 2 1, 3) := by decide +kernel
theorem dX5_ones_21 : decode cX5_ones 21 = .ok (.goto (-17), 3) := by decide +kernel
theorem dX5_ones_24 : decode cX5_ones 24 = .ok (.iload_n 1, 1) := by decide +kernel
theorem dX5_ones_25 : decode cX5_ones 25 = .ok (.ireturn, 1) := by decide +kernel
theorem dX5_links_0 : decode cX5_links 0 = .ok (.aload_n 0, 1) := by decide +kernel
theorem dX5_links_1 : decode cX5_links 1 = .ok (.getfield 7, 3) := by decide +kernel
theorem dX5_links_4 : decode cX5_links 4 = .ok (.iconst 0, 1) := by decide +kernel
theorem dX5_links_5 : decode cX5_links 5 = .ok (.iload_n 1, 1) := by decide +kernel
theorem dX5_links_6 : decode cX5_links 6 = .ok (.iadd, 1) := by decide +kernel
theorem dX5_links_7 : decode cX5_links 7 = .ok (.iload_n 3, 1) := by decide +kernel
theorem dX5_links_8 : decode cX5_links 8 = .ok (.ifCond .eq 18, 3) := by decide +kernel
theorem dX5_links_11 : decode cX5_links 11 = .ok (.aload_n 0, 1) := by decide +kernel
theorem dX5_links_12 : decode cX5_links 12 = .ok (.getfield 7, 3) := by decide +kernel
theorem dX5_links_15 : decode cX5_links 15 = .ok (.iconst 0, 1) := by decide +kernel
theorem dX5_links_16 : decode cX5_links 16 = .ok (.iload_n 1, 1) := by decide +kernel
theorem dX5_links_17 : decode cX5_links 17 = .ok (.iadd, 1) := by decide +kernel
theorem dX5_links_18 : decode cX5_links 18 = .ok (.iaload, 1) := by decide +kernel
theorem dX5_links_19 : decode cX5_links 19 = .ok (.iconst 1, 1) := by decide +kernel
theorem dX5_links_20 : decode cX5_links 20 = .ok (.iload_n 2, 1) := by decide +kernel
theorem dX5_links_21 : decode cX5_links 21 = .ok (.ishl, 1) := by decide +kernel
theorem dX5_links_22 : decode cX5_links 22 = .ok (.ior, 1) := by decide +kernel
theorem dX5_links_23 : decode cX5_links 23 = .ok (.goto 17, 3) := by decide +kernel
theorem dX5_links_26 : decode cX5_links 26 = .ok (.aload_n 0, 1) := by decide +kernel
theorem dX5_links_27 : decode cX5_links 27 = .ok (.getfield 7, 3) := by decide +kernel
theorem dX5_links_30 : decode cX5_links 30 = .ok (.iconst 0, 1) := by decide +kernel
theorem dX5_links_31 : decode cX5_links 31 = .ok (.iload_n 1, 1) := by decide +kernel
theorem dX5_links_32 : decode cX5_links 32 = .ok (.iadd, 1) := by decide +kernel
theorem dX5_links_33 : decode cX5_links 33 = .ok (.iaload, 1) := by decide +kernel
theorem dX5_links_34 : decode cX5_links 34 = .ok (.iconst 1, 1) := by decide +kernel
theorem dX5_links_35 : decode cX5_links 35 = .ok (.iload_n 2, 1) := by decide +kernel
theorem dX5_links_36 : decode cX5_links 36 = .ok (.ishl, 1) := by decide +kernel
theorem dX5_links_37 : decode cX5_links 37 = .ok (.iconst (-1), 1) := by decide +kernel
theorem dX5_links_38 : decode cX5_links 38 = .ok (.ixor, 1) := by decide +kernel
theorem dX5_links_39 : decode cX5_links 39 = .ok (.iand, 1) := by decide +kernel
theorem dX5_links_40 : decode cX5_links 40 = .ok (.iastore, 1) := by decide +kernel
theorem dX5_links_41 : decode cX5_links 41 = .ok (.aload_n 0, 1) := by decide +kernel
theorem dX5_links_42 : decode cX5_links 42 = .ok (.getfield 7, 3) := by decide +kernel
theorem dX5_links_45 : decode cX5_links 45 = .ok (.iconst 0, 1) := by decide +kernel
theorem dX5_links_46 : decode cX5_links 46 = .ok (.iload_n 2, 1) := by decide +kernel
theorem dX5_links_47 : decode cX5_links 47 = .ok (.iadd, 1) := by decide +kernel
theorem dX5_links_48 : decode cX5_links 48 = .ok (.iload_n 3, 1) := by decide +kernel
theorem dX5_links_49 : decode cX5_links 49 = .ok (.ifCond .eq 18, 3) := by decide +kernel
theorem dX5_links_52 : decode cX5_links 52 = .ok (.aload_n 0, 1) := by decide +kernel
theorem dX5_links_53 : decode cX5_links 53 = .ok (.getfield 7, 3) := by decide +kernel
theorem dX5_links_56 : decode cX5_links 56 = .ok (.iconst 0, 1) := by decide +kernel
theorem dX5_links_57 : decode cX5_links 57 = .ok (.iload_n 2, 1) := by decide +kernel
theorem dX5_links_58 : decode cX5_links 58 = .ok (.iadd, 1) := by decide +kernel
theorem dX5_links_59 : decode cX5_links 59 = .ok (.iaload, 1) := by decide +kernel
theorem dX5_links_60 : decode cX5_links 60 = .ok (.iconst 1, 1) := by decide +kernel
theorem dX5_links_61 : decode cX5_links 61 = .ok (.iload_n 1, 1) := by decide +kernel
theorem dX5_links_62 : decode cX5_links 62 = .ok (.ishl, 1) := by decide +kernel
theorem dX5_links_63 : decode cX5_links 63 = .ok (.ior, 1) := by decide +kernel
theorem dX5_links_64 : decode cX5_links 64 = .ok (.goto 17, 3) := by decide +kernel
theorem dX5_links_67 : decode cX5_links 67 = .ok (.aload_n 0, 1) := by decide +kernel
theorem dX5_links_68 : decode cX5_links 68 = .ok (.getfield 7, 3) := by decide +kernel
theorem dX5_links_71 : decode cX5_links 71 = .ok (.iconst 0, 1) := by decide +kernel
theorem dX5_links_72 : decode cX5_links 72 = .ok (.iload_n 2, 1) := by decide +kernel
theorem dX5_links_73 : decode cX5_links 73 = .ok (.iadd, 1) := by decide +kernel
theorem dX5_links_74 : decode cX5_links 74 = .ok (.iaload, 1) := by decide +kernel
theorem dX5_links_75 : decode cX5_links 75 = .ok (.iconst 1, 1) := by decide +kernel
theorem dX5_links_76 : decode cX5_links 76 = .ok (.iload_n 1, 1) := by decide +kernel
theorem dX5_links_77 : decode cX5_links 77 = .ok (.ishl, 1) := by decide +kernel
theorem dX5_links_78 : decode cX5_links 78 = .ok (.iconst (-1), 1) := by decide +kernel
theorem dX5_links_79 : decode cX5_links 79 = .ok (.ixor, 1) := by decide +kernel
theorem dX5_links_80 : decode cX5_links 80 = .ok (.iand, 1) := by decide +kernel
theorem dX5_links_81 : decode cX5_links 81 = .ok (.iastore, 1) := by decide +kernel
theorem dX5_links_82 : decode cX5_links 82 = .ok (.iconst 0, 1) := by decide +kernel
theorem dX5_links_83 : decode cX5_links 83 = .ok (.istore 4, 2) := by decide +kernel
theorem dX5_links_85 : decode cX5_links 85 = .ok (.iconst 0, 1) := by decide +kernel
theorem dX5_links_86 : decode cX5_links 86 = .ok (.istore 5, 2) := by decide +kernel
theorem dX5_links_88 : decode cX5_links 88 = .ok (.iload 5, 2) := by decide +kernel
theorem dX5_links_90 : decode cX5_links 90 = .ok (.bipush 10, 2) := by decide +kernel
theorem dX5_links_92 : decode cX5_links 92 = .ok (.if_icmp .ge 26, 3) := by decide +kernel
theorem dX5_links_95 : decode cX5_links 95 = .ok (.iload 4, 2) := by decide +kernel
theorem dX5_links_97 : decode cX5_links 97 = .ok (.aload_n 0, 1) := by decide +kernel
theorem dX5_links_98 : decode cX5_links 98 = .ok (.getfield 7, 3) := by decide +kernel
theorem dX5_links_101 : decode cX5_links 101 = .ok (.iconst 0, 1) := by decide +kernel
theorem dX5_links_102 : decode cX5_links 102 = .ok (.iload 5, 2) := by decide +kernel
theorem dX5_links_104 : decode cX5_links 104 = .ok (.iadd, 1) := by decide +kernel
theorem dX5_links_105 : decode cX5_links 105 = .ok (.iaload, 1) := by decide +kernel
theorem dX5_links_106 : decode cX5_links 106 = .ok (.invokestatic 92, 3) := by decide +kernel
theorem dX5_links_109 : decode cX5_links 109 = .ok (.iadd, 1) := by decide +kernel
theorem dX5_links_110 : decode cX5_links 110 = .ok (.istore 4, 2) := by decide +kernel
theorem dX5_links_112 : decode cX5_links 112 = .ok (.iinc 5 1, 3) := by decide +kernel
theorem dX5_links_115 : decode cX5_links 115 = .ok (.goto (-27), 3) := by decide +kernel
theorem dX5_links_118 : decode cX5_links 118 = .ok (.iload 4, 2) := by decide +kernel
theorem dX5_links_120 : decode cX5_links 120 = .ok (.iconst 2, 1) := by decide +kernel
theorem dX5_links_121 : decode cX5_links 121 = .ok (.idiv, 1) := by decide +kernel
theorem dX5_links_122 : decode cX5_links 122 = .ok (.ireturn, 1) := by decide +kernel
theorem dX5_powers_0 : decode cX5_powers 0 = .ok (.aload_n 0, 1) := by decide +kernel
theorem dX5_powers_1 : decode cX5_powers 1 = .ok (.getfield 7, 3) := by decide +kernel
theorem dX5_powers_4 : decode cX5_powers 4 = .ok (.bipush 10, 2) := by decide +kernel
theorem dX5_powers_6 : decode cX5_powers 6 = .ok (.iload_n 2, 1) := by decide +kernel
theorem dX5_powers_7 : decode cX5_powers 7 = .ok (.ifCond .eq 17, 3) := by decide +kernel
theorem dX5_powers_10 : decode cX5_powers 10 = .ok (.aload_n 0, 1) := by decide +kernel
theorem dX5_powers_11 : decode cX5_powers 11 = .ok (.getfield 7, 3) := by decide +kernel
theorem dX5_powers_14 : decode cX5_powers 14 = .ok (.bipush 10, 2) := by decide +kernel
theorem dX5_powers_16 : decode cX5_powers 16 = .ok (.iaload, 1) := by decide +kernel
theorem dX5_powers_17 : decode cX5_powers 17 = .ok (.iconst 1, 1) := by decide +kernel
theorem dX5_powers_18 : decode cX5_powers 18 = .ok (.iload_n 1, 1) := by decide +kernel
theorem dX5_powers_19 : decode cX5_powers 19 = .ok (.ishl, 1) := by decide +kernel
theorem dX5_powers_20 : decode cX5_powers 20 = .ok (.ior, 1) := by decide +kernel
theorem dX5_powers_21 : decode cX5_powers 21 = .ok (.goto 16, 3) := by decide +kernel
theorem dX5_powers_24 : decode cX5_powers 24 = .ok (.aload_n 0, 1) := by decide +kernel
theorem dX5_powers_25 : decode cX5_powers 25 = .ok (.getfield 7, 3) := by decide +kernel
theorem dX5_powers_28 : decode cX5_powers 28 = .ok (.bipush 10, 2) := by decide +kernel
theorem dX5_powers_30 : decode cX5_powers 30 = .ok (.iaload, 1) := by decide +kernel
theorem dX5_powers_31 : decode cX5_powers 31 = .ok (.iconst 1, 1) := by decide +kernel
theorem dX5_powers_32 : decode cX5_powers 32 = .ok (.iload_n 1, 1) := by decide +kernel
theorem dX5_powers_33 : decode cX5_powers 33 = .ok (.ishl, 1) := by decide +kernel
theorem dX5_powers_34 : decode cX5_powers 34 = .ok (.iconst (-1), 1) := by decide +kernel
theorem dX5_powers_35 : decode cX5_powers 35 = .ok (.ixor, 1) := by decide +kernel
theorem dX5_powers_36 : decode cX5_powers 36 = .ok (.iand, 1) := by decide +kernel
theorem dX5_powers_37 : decode cX5_powers 37 = .ok (.iastore, 1) := by decide +kernel
theorem dX5_powers_38 : decode cX5_powers 38 = .ok (.aload_n 0, 1) := by decide +kernel
theorem dX5_powers_39 : decode cX5_powers 39 = .ok (.getfield 7, 3) := by decide +kernel
theorem dX5_powers_42 : decode cX5_powers 42 = .ok (.bipush 10, 2) := by decide +kernel
theorem dX5_powers_44 : decode cX5_powers 44 = .ok (.iaload, 1) := by decide +kernel
theorem dX5_powers_45 : decode cX5_powers 45 = .ok (.invokestatic 92, 3) := by decide +kernel
theorem dX5_powers_48 : decode cX5_powers 48 = .ok (.ireturn, 1) := by decide +kernel
theorem dX5_canTake_0 : decode cX5_canTake 0 = .ok (.aload_n 0, 1) := by decide +kernel
theorem dX5_canTake_1 : decode cX5_canTake 1 = .ok (.getfield 7, 3) := by decide +kernel
theorem dX5_canTake_4 : decode cX5_canTake 4 = .ok (.iconst 0, 1) := by decide +kernel
theorem dX5_canTake_5 : decode cX5_canTake 5 = .ok (.iload_n 1, 1) := by decide +kernel
theorem dX5_canTake_6 : decode cX5_canTake 6 = .ok (.invokestatic 20, 3) := by decide +kernel
theorem dX5_canTake_9 : decode cX5_canTake 9 = .ok (.bipush 6, 2) := by decide +kernel
theorem dX5_canTake_11 : decode cX5_canTake 11 = .ok (.iadd, 1) := by decide +kernel
theorem dX5_canTake_12 : decode cX5_canTake 12 = .ok (.iaload, 1) := by decide +kernel
theorem dX5_canTake_13 : decode cX5_canTake 13 = .ok (.bipush 6, 2) := by decide +kernel
theorem dX5_canTake_15 : decode cX5_canTake 15 = .ok (.if_icmp .ge 19, 3) := by decide +kernel
theorem dX5_canTake_18 : decode cX5_canTake 18 = .ok (.aload_n 0, 1) := by decide +kernel
theorem dX5_canTake_19 : decode cX5_canTake 19 = .ok (.getfield 7, 3) := by decide +kernel
theorem dX5_canTake_22 : decode cX5_canTake 22 = .ok (.bipush 13, 2) := by decide +kernel
theorem dX5_canTake_24 : decode cX5_canTake 24 = .ok (.iaload, 1) := by decide +kernel
theorem dX5_canTake_25 : decode cX5_canTake 25 = .ok (.bipush 60, 2) := by decide +kernel
theorem dX5_canTake_27 : decode cX5_canTake 27 = .ok (.if_icmp .ge 7, 3) := by decide +kernel
theorem dX5_canTake_30 : decode cX5_canTake 30 = .ok (.iconst 1, 1) := by decide +kernel
theorem dX5_canTake_31 : decode cX5_canTake 31 = .ok (.goto 4, 3) := by decide +kernel
theorem dX5_canTake_34 : decode cX5_canTake 34 = .ok (.iconst 0, 1) := by decide +kernel
theorem dX5_canTake_35 : decode cX5_canTake 35 = .ok (.ireturn, 1) := by decide +kernel
theorem dX5_takes_0 : decode cX5_takes 0 = .ok (.iconst 0, 1) := by decide +kernel
theorem dX5_takes_1 : decode cX5_takes 1 = .ok (.iload_n 1, 1) := by decide +kernel
theorem dX5_takes_2 : decode cX5_takes 2 = .ok (.invokestatic 20, 3) := by decide +kernel
theorem dX5_takes_5 : decode cX5_takes 5 = .ok (.istore_n 3, 1) := by decide +kernel
theorem dX5_takes_6 : decode cX5_takes 6 = .ok (.iconst 0, 1) := by decide +kernel
theorem dX5_takes_7 : decode cX5_takes 7 = .ok (.iload_n 1, 1) := by decide +kernel
theorem dX5_takes_8 : decode cX5_takes 8 = .ok (.aload_n 0, 1) := by decide +kernel
theorem dX5_takes_9 : decode cX5_takes 9 = .ok (.getfield 7, 3) := by decide +kernel
theorem dX5_takes_12 : decode cX5_takes 12 = .ok (.iload_n 3, 1) := by decide +kernel
theorem dX5_takes_13 : decode cX5_takes 13 = .ok (.bipush 6, 2) := by decide +kernel
theorem dX5_takes_15 : decode cX5_takes 15 = .ok (.iadd, 1) := by decide +kernel
theorem dX5_takes_16 : decode cX5_takes 16 = .ok (.iaload, 1) := by decide +kernel
theorem dX5_takes_17 : decode cX5_takes 17 = .ok (.invokestatic 43, 3) := by decide +kernel
theorem dX5_takes_20 : decode cX5_takes 20 = .ok (.istore 4, 2) := by decide +kernel
theorem dX5_takes_22 : decode cX5_takes 22 = .ok (.aload_n 0, 1) := by decide +kernel
theorem dX5_takes_23 : decode cX5_takes 23 = .ok (.getfield 7, 3) := by decide +kernel
theorem dX5_takes_26 : decode cX5_takes 26 = .ok (.iload 4, 2) := by decide +kernel
theorem dX5_takes_28 : decode cX5_takes 28 = .ok (.iload_n 1, 1) := by decide +kernel
theorem dX5_takes_29 : decode cX5_takes 29 = .ok (.iastore, 1) := by decide +kernel
theorem dX5_takes_30 : decode cX5_takes 30 = .ok (.aload_n 0, 1) := by decide +kernel
theorem dX5_takes_31 : decode cX5_takes 31 = .ok (.getfield 7, 3) := by decide +kernel
theorem dX5_takes_34 : decode cX5_takes 34 = .ok (.iload 4, 2) := by decide +kernel
theorem dX5_takes_36 : decode cX5_takes 36 = .ok (.iconst 1, 1) := by decide +kernel
theorem dX5_takes_37 : decode cX5_takes 37 = .ok (.iadd, 1) := by decide +kernel
theorem dX5_takes_38 : decode cX5_takes 38 = .ok (.aload_n 0, 1) := by decide +kernel
theorem dX5_takes_39 : decode cX5_takes 39 = .ok (.getfield 7, 3) := by decide +kernel
theorem dX5_takes_42 : decode cX5_takes 42 = .ok (.iload_n 3, 1) := by decide +kernel
theorem dX5_takes_43 : decode cX5_takes 43 = .ok (.iconst 5, 1) := by decide +kernel
theorem dX5_takes_44 : decode cX5_takes 44 = .ok (.iadd, 1) := by decide +kernel
theorem dX5_takes_45 : decode cX5_takes 45 = .ok (.iaload, 1) := by decide +kernel
theorem dX5_takes_46 : decode cX5_takes 46 = .ok (.iastore, 1) := by decide +kernel
theorem dX5_takes_47 : decode cX5_takes 47 = .ok (.aload_n 0, 1) := by decide +kernel
theorem dX5_takes_48 : decode cX5_takes 48 = .ok (.getfield 7, 3) := by decide +kernel
theorem dX5_takes_51 : decode cX5_takes 51 = .ok (.iload 4, 2) := by decide +kernel
theorem dX5_takes_53 : decode cX5_takes 53 = .ok (.iconst 2, 1) := by decide +kernel
theorem dX5_takes_54 : decode cX5_takes 54 = .ok (.iadd, 1) := by decide +kernel
theorem dX5_takes_55 : decode cX5_takes 55 = .ok (.iload_n 2, 1) := by decide +kernel
theorem dX5_takes_56 : decode cX5_takes 56 = .ok (.iastore, 1) := by decide +kernel
theorem dX5_takes_57 : decode cX5_takes 57 = .ok (.aload_n 0, 1) := by decide +kernel
theorem dX5_takes_58 : decode cX5_takes 58 = .ok (.getfield 7, 3) := by decide +kernel
theorem dX5_takes_61 : decode cX5_takes 61 = .ok (.iload 4, 2) := by decide +kernel
theorem dX5_takes_63 : decode cX5_takes 63 = .ok (.iconst 3, 1) := by decide +kernel
theorem dX5_takes_64 : decode cX5_takes 64 = .ok (.iadd, 1) := by decide +kernel
theorem dX5_takes_65 : decode cX5_takes 65 = .ok (.aload_n 0, 1) := by decide +kernel
theorem dX5_takes_66 : decode cX5_takes 66 = .ok (.getfield 7, 3) := by decide +kernel
theorem dX5_takes_69 : decode cX5_takes 69 = .ok (.bipush 12, 2) := by decide +kernel
theorem dX5_takes_71 : decode cX5_takes 71 = .ok (.iaload, 1) := by decide +kernel
theorem dX5_takes_72 : decode cX5_takes 72 = .ok (.iastore, 1) := by decide +kernel
theorem dX5_takes_73 : decode cX5_takes 73 = .ok (.aload_n 0, 1) := by decide +kernel
theorem dX5_takes_74 : decode cX5_takes 74 = .ok (.getfield 7, 3) := by decide +kernel
theorem dX5_takes_77 : decode cX5_takes 77 = .ok (.iload 4, 2) := by decide +kernel
theorem dX5_takes_79 : decode cX5_takes 79 = .ok (.iconst 4, 1) := by decide +kernel
theorem dX5_takes_80 : decode cX5_takes 80 = .ok (.iadd, 1) := by decide +kernel
theorem dX5_takes_81 : decode cX5_takes 81 = .ok (.aload_n 0, 1) := by decide +kernel
theorem dX5_takes_82 : decode cX5_takes 82 = .ok (.getfield 7, 3) := by decide +kernel
theorem dX5_takes_85 : decode cX5_takes 85 = .ok (.bipush 12, 2) := by decide +kernel
theorem dX5_takes_87 : decode cX5_takes 87 = .ok (.iaload, 1) := by decide +kernel
theorem dX5_takes_88 : decode cX5_takes 88 = .ok (.aload_n 0, 1) := by decide +kernel
theorem dX5_takes_89 : decode cX5_takes 89 = .ok (.getfield 7, 3) := by decide +kernel
theorem dX5_takes_92 : decode cX5_takes 92 = .ok (.iload_n 3, 1) := by decide +kernel
theorem dX5_takes_93 : decode cX5_takes 93 = .ok (.iconst 0, 1) := by decide +kernel
theorem dX5_takes_94 : decode cX5_takes 94 = .ok (.iadd, 1) := by decide +kernel
theorem dX5_takes_95 : decode cX5_takes 95 = .ok (.iaload, 1) := by decide +kernel
theorem dX5_takes_96 : decode cX5_takes 96 = .ok (.iadd, 1) := by decide +kernel
theorem dX5_takes_97 : decode cX5_takes 97 = .ok (.iastore, 1) := by decide +kernel
theorem dX5_takes_98 : decode cX5_takes 98 = .ok (.aload_n 0, 1) := by decide +kernel
theorem dX5_takes_99 : decode cX5_takes 99 = .ok (.getfield 7, 3) := by decide +kernel
theorem dX5_takes_102 : decode cX5_takes 102 = .ok (.iload_n 3, 1) := by decide +kernel
theorem dX5_takes_103 : decode cX5_takes 103 = .ok (.bipush 6, 2) := by decide +kernel
theorem dX5_takes_105 : decode cX5_takes 105 = .ok (.iadd, 1) := by decide +kernel
theorem dX5_takes_106 : decode cX5_takes 106 = .ok (.dup2, 1) := by decide +kernel
theorem dX5_takes_107 : decode cX5_takes 107 = .ok (.iaload, 1) := by decide +kernel
theorem dX5_takes_108 : decode cX5_takes 108 = .ok (.iconst 1, 1) := by decide +kernel
theorem dX5_takes_109 : decode cX5_takes 109 = .ok (.iadd, 1) := by decide +kernel
theorem dX5_takes_110 : decode cX5_takes 110 = .ok (.iastore, 1) := by decide +kernel
theorem dX5_takes_111 : decode cX5_takes 111 = .ok (.aload_n 0, 1) := by decide +kernel
theorem dX5_takes_112 : decode cX5_takes 112 = .ok (.getfield 7, 3) := by decide +kernel
theorem dX5_takes_115 : decode cX5_takes 115 = .ok (.iload_n 3, 1) := by decide +kernel
theorem dX5_takes_116 : decode cX5_takes 116 = .ok (.iconst 5, 1) := by decide +kernel
theorem dX5_takes_117 : decode cX5_takes 117 = .ok (.iadd, 1) := by decide +kernel
theorem dX5_takes_118 : decode cX5_takes 118 = .ok (.dup2, 1) := by decide +kernel
theorem dX5_takes_119 : decode cX5_takes 119 = .ok (.iaload, 1) := by decide +kernel
theorem dX5_takes_120 : decode cX5_takes 120 = .ok (.iconst 1, 1) := by decide +kernel
theorem dX5_takes_121 : decode cX5_takes 121 = .ok (.iadd, 1) := by decide +kernel
theorem dX5_takes_122 : decode cX5_takes 122 = .ok (.iastore, 1) := by decide +kernel
theorem dX5_takes_123 : decode cX5_takes 123 = .ok (.aload_n 0, 1) := by decide +kernel
theorem dX5_takes_124 : decode cX5_takes 124 = .ok (.getfield 7, 3) := by decide +kernel
theorem dX5_takes_127 : decode cX5_takes 127 = .ok (.bipush 13, 2) := by decide +kernel
theorem dX5_takes_129 : decode cX5_takes 129 = .ok (.dup2, 1) := by decide +kernel
theorem dX5_takes_130 : decode cX5_takes 130 = .ok (.iaload, 1) := by decide +kernel
theorem dX5_takes_131 : decode cX5_takes 131 = .ok (.iconst 1, 1) := by decide +kernel
theorem dX5_takes_132 : decode cX5_takes 132 = .ok (.iadd, 1) := by decide +kernel
theorem dX5_takes_133 : decode cX5_takes 133 = .ok (.iastore, 1) := by decide +kernel
theorem dX5_takes_134 : decode cX5_takes 134 = .ok (.aload_n 0, 1) := by decide +kernel
theorem dX5_takes_135 : decode cX5_takes 135 = .ok (.getfield 7, 3) := by decide +kernel
theorem dX5_takes_138 : decode cX5_takes 138 = .ok (.iload_n 3, 1) := by decide +kernel
theorem dX5_takes_139 : decode cX5_takes 139 = .ok (.iconst 5, 1) := by decide +kernel
theorem dX5_takes_140 : decode cX5_takes 140 = .ok (.iadd, 1) := by decide +kernel
theorem dX5_takes_141 : decode cX5_takes 141 = .ok (.iaload, 1) := by decide +kernel
theorem dX5_takes_142 : decode cX5_takes 142 = .ok (.iconst 1, 1) := by decide +kernel
theorem dX5_takes_143 : decode cX5_takes 143 = .ok (.isub, 1) := by decide +kernel
theorem dX5_takes_144 : decode cX5_takes 144 = .ok (.ireturn, 1) := by decide +kernel
theorem dX5_link_0 : decode cX5_link 0 = .ok (.aload_n 0, 1) := by decide +kernel
theorem dX5_link_1 : decode cX5_link 1 = .ok (.iload_n 1, 1) := by decide +kernel
theorem dX5_link_2 : decode cX5_link 2 = .ok (.invokestatic 96, 3) := by decide +kernel
theorem dX5_link_5 : decode cX5_link 5 = .ok (.ifCond .eq 14, 3) := by decide +kernel
theorem dX5_link_8 : decode cX5_link 8 = .ok (.iload_n 2, 1) := by decide +kernel
theorem dX5_link_9 : decode cX5_link 9 = .ok (.invokestatic 96, 3) := by decide +kernel
theorem dX5_link_12 : decode cX5_link 12 = .ok (.ifCond .eq 7, 3) := by decide +kernel
theorem dX5_link_15 : decode cX5_link 15 = .ok (.iconst 1, 1) := by decide +kernel
theorem dX5_link_16 : decode cX5_link 16 = .ok (.goto 4, 3) := by decide +kernel
theorem dX5_link_19 : decode cX5_link 19 = .ok (.iconst 0, 1) := by decide +kernel
theorem dX5_link_20 : decode cX5_link 20 = .ok (.iload_n 1, 1) := by decide +kernel
theorem dX5_link_21 : decode cX5_link 21 = .ok (.iload_n 2, 1) := by decide +kernel
theorem dX5_link_22 : decode cX5_link 22 = .ok (.if_icmp .eq 7, 3) := by decide +kernel
theorem dX5_link_25 : decode cX5_link 25 = .ok (.iconst 1, 1) := by decide +kernel
theorem dX5_link_26 : decode cX5_link 26 = .ok (.goto 4, 3) := by decide +kernel
theorem dX5_link_29 : decode cX5_link 29 = .ok (.iconst 0, 1) := by decide +kernel
theorem dX5_link_30 : decode cX5_link 30 = .ok (.iconst 1, 1) := by decide +kernel
theorem dX5_link_31 : decode cX5_link 31 = .ok (.invokevirtual 100, 3) := by decide +kernel
theorem dX5_link_34 : decode cX5_link 34 = .ok (.ifCond .ne 5, 3) := by decide +kernel
theorem dX5_link_37 : decode cX5_link 37 = .ok (.iconst 0, 1) := by decide +kernel
theorem dX5_link_38 : decode cX5_link 38 = .ok (.ireturn, 1) := by decide +kernel
theorem dX5_link_39 : decode cX5_link 39 = .ok (.aload_n 0, 1) := by decide +kernel
theorem dX5_link_40 : decode cX5_link 40 = .ok (.invokevirtual 104, 3) := by decide +kernel
theorem dX5_link_43 : decode cX5_link 43 = .ok (.aload_n 0, 1) := by decide +kernel
theorem dX5_link_44 : decode cX5_link 44 = .ok (.iload_n 1, 1) := by decide +kernel
theorem dX5_link_45 : decode cX5_link 45 = .ok (.iload_n 2, 1) := by decide +kernel
theorem dX5_link_46 : decode cX5_link 46 = .ok (.iload_n 3, 1) := by decide +kernel
theorem dX5_link_47 : decode cX5_link 47 = .ok (.invokevirtual 107, 3) := by decide +kernel
theorem dX5_link_50 : decode cX5_link 50 = .ok (.ireturn, 1) := by decide +kernel
theorem dX5_power_0 : decode cX5_power 0 = .ok (.aload_n 0, 1) := by decide +kernel
theorem dX5_power_1 : decode cX5_power 1 = .ok (.iload_n 1, 1) := by decide +kernel
theorem dX5_power_2 : decode cX5_power 2 = .ok (.invokestatic 96, 3) := by decide +kernel
theorem dX5_power_5 : decode cX5_power 5 = .ok (.iconst 1, 1) := by decide +kernel
theorem dX5_power_6 : decode cX5_power 6 = .ok (.iconst 1, 1) := by decide +kernel
theorem dX5_power_7 : decode cX5_power 7 = .ok (.invokevirtual 100, 3) := by decide +kernel
theorem dX5_power_10 : decode cX5_power 10 = .ok (.ifCond .ne 5, 3) := by decide +kernel
theorem dX5_power_13 : decode cX5_power 13 = .ok (.iconst 0, 1) := by decide +kernel
theorem dX5_power_14 : decode cX5_power 14 = .ok (.ireturn, 1) := by decide +kernel
theorem dX5_power_15 : decode cX5_power 15 = .ok (.aload_n 0, 1) := by decide +kernel
theorem dX5_power_16 : decode cX5_power 16 = .ok (.invokevirtual 104, 3) := by decide +kernel
theorem dX5_power_19 : decode cX5_power 19 = .ok (.aload_n 0, 1) := by decide +kernel
theorem dX5_power_20 : decode cX5_power 20 = .ok (.iload_n 1, 1) := by decide +kernel
theorem dX5_power_21 : decode cX5_power 21 = .ok (.iload_n 2, 1) := by decide +kernel
theorem dX5_power_22 : decode cX5_power 22 = .ok (.invokevirtual 111, 3) := by decide +kernel
theorem dX5_power_25 : decode cX5_power 25 = .ok (.ireturn, 1) := by decide +kernel
theorem dX5_jump_0 : decode cX5_jump 0 = .ok (.aload_n 0, 1) := by decide +kernel
theorem dX5_jump_1 : decode cX5_jump 1 = .ok (.iload_n 1, 1) := by decide +kernel
theorem dX5_jump_2 : decode cX5_jump 2 = .ok (.invokestatic 115, 3) := by decide +kernel
theorem dX5_jump_5 : decode cX5_jump 5 = .ok (.iload_n 2, 1) := by decide +kernel
theorem dX5_jump_6 : decode cX5_jump 6 = .ok (.bipush (-100), 2) := by decide +kernel
theorem dX5_jump_8 : decode cX5_jump 8 = .ok (.bipush 100, 2) := by decide +kernel
theorem dX5_jump_10 : decode cX5_jump 10 = .ok (.invokestatic 28, 3) := by decide +kernel
theorem dX5_jump_13 : decode cX5_jump 13 = .ok (.iconst 1, 1) := by decide +kernel
theorem dX5_jump_14 : decode cX5_jump 14 = .ok (.invokevirtual 100, 3) := by decide +kernel
theorem dX5_jump_17 : decode cX5_jump 17 = .ok (.ifCond .ne 5, 3) := by decide +kernel
theorem dX5_jump_20 : decode cX5_jump 20 = .ok (.iconst 0, 1) := by decide +kernel
theorem dX5_jump_21 : decode cX5_jump 21 = .ok (.ireturn, 1) := by decide +kernel
theorem dX5_jump_22 : decode cX5_jump 22 = .ok (.aload_n 0, 1) := by decide +kernel
theorem dX5_jump_23 : decode cX5_jump 23 = .ok (.invokevirtual 104, 3) := by decide +kernel
theorem dX5_jump_26 : decode cX5_jump 26 = .ok (.aload_n 0, 1) := by decide +kernel
theorem dX5_jump_27 : decode cX5_jump 27 = .ok (.getfield 7, 3) := by decide +kernel
theorem dX5_jump_30 : decode cX5_jump 30 = .ok (.iconst 0, 1) := by decide +kernel
theorem dX5_jump_31 : decode cX5_jump 31 = .ok (.iload_n 1, 1) := by decide +kernel
theorem dX5_jump_32 : decode cX5_jump 32 = .ok (.invokestatic 20, 3) := by decide +kernel
theorem dX5_jump_35 : decode cX5_jump 35 = .ok (.iconst 0, 1) := by decide +kernel
theorem dX5_jump_36 : decode cX5_jump 36 = .ok (.iadd, 1) := by decide +kernel
theorem dX5_jump_37 : decode cX5_jump 37 = .ok (.dup2, 1) := by decide +kernel
theorem dX5_jump_38 : decode cX5_jump 38 = .ok (.iaload, 1) := by decide +kernel
theorem dX5_jump_39 : decode cX5_jump 39 = .ok (.iload_n 2, 1) := by decide +kernel
theorem dX5_jump_40 : decode cX5_jump 40 = .ok (.iadd, 1) := by decide +kernel
theorem dX5_jump_41 : decode cX5_jump 41 = .ok (.iastore, 1) := by decide +kernel
theorem dX5_jump_42 : decode cX5_jump 42 = .ok (.aload_n 0, 1) := by decide +kernel
theorem dX5_jump_43 : decode cX5_jump 43 = .ok (.getfield 7, 3) := by decide +kernel
theorem dX5_jump_46 : decode cX5_jump 46 = .ok (.iconst 0, 1) := by decide +kernel
theorem dX5_jump_47 : decode cX5_jump 47 = .ok (.iload_n 1, 1) := by decide +kernel
theorem dX5_jump_48 : decode cX5_jump 48 = .ok (.invokestatic 20, 3) := by decide +kernel
theorem dX5_jump_51 : decode cX5_jump 51 = .ok (.iconst 0, 1) := by decide +kernel
theorem dX5_jump_52 : decode cX5_jump 52 = .ok (.iadd, 1) := by decide +kernel
theorem dX5_jump_53 : decode cX5_jump 53 = .ok (.iaload, 1) := by decide +kernel
theorem dX5_jump_54 : decode cX5_jump 54 = .ok (.ireturn, 1) := by decide +kernel
theorem dX5_sets_0 : decode cX5_sets 0 = .ok (.aload_n 0, 1) := by decide +kernel
theorem dX5_sets_1 : decode cX5_sets 1 = .ok (.invokevirtual 104, 3) := by decide +kernel
theorem dX5_sets_4 : decode cX5_sets 4 = .ok (.aload_n 0, 1) := by decide +kernel
theorem dX5_sets_5 : decode cX5_sets 5 = .ok (.getfield 7, 3) := by decide +kernel
theorem dX5_sets_8 : decode cX5_sets 8 = .ok (.iload_n 1, 1) := by decide +kernel
theorem dX5_sets_9 : decode cX5_sets 9 = .ok (.iaload, 1) := by decide +kernel
theorem dX5_sets_10 : decode cX5_sets 10 = .ok (.istore_n 3, 1) := by decide +kernel
theorem dX5_sets_11 : decode cX5_sets 11 = .ok (.aload_n 0, 1) := by decide +kernel
theorem dX5_sets_12 : decode cX5_sets 12 = .ok (.getfield 7, 3) := by decide +kernel
theorem dX5_sets_15 : decode cX5_sets 15 = .ok (.iload_n 1, 1) := by decide +kernel
theorem dX5_sets_16 : decode cX5_sets 16 = .ok (.iload_n 2, 1) := by decide +kernel
theorem dX5_sets_17 : decode cX5_sets 17 = .ok (.iastore, 1) := by decide +kernel
theorem dX5_sets_18 : decode cX5_sets 18 = .ok (.iload_n 3, 1) := by decide +kernel
theorem dX5_sets_19 : decode cX5_sets 19 = .ok (.ireturn, 1) := by decide +kernel
theorem dX5_setFaults_0 : decode cX5_setFaults 0 = .ok (.aload_n 0, 1) := by decide +kernel
theorem dX5_setFaults_1 : decode cX5_setFaults 1 = .ok (.iload_n 1, 1) := by decide +kernel
theorem dX5_setFaults_2 : decode cX5_setFaults 2 = .ok (.invokestatic 115, 3) := by decide +kernel
theorem dX5_setFaults_5 : decode cX5_setFaults 5 = .ok (.iload_n 2, 1) := by decide +kernel
theorem dX5_setFaults_6 : decode cX5_setFaults 6 = .ok (.iconst 0, 1) := by decide +kernel
theorem dX5_setFaults_7 : decode cX5_setFaults 7 = .ok (.bipush 9, 2) := by decide +kernel
theorem dX5_setFaults_9 : decode cX5_setFaults 9 = .ok (.invokestatic 28, 3) := by decide +kernel
theorem dX5_setFaults_12 : decode cX5_setFaults 12 = .ok (.iconst 1, 1) := by decide +kernel
theorem dX5_setFaults_13 : decode cX5_setFaults 13 = .ok (.invokevirtual 100, 3) := by decide +kernel
theorem dX5_setFaults_16 : decode cX5_setFaults 16 = .ok (.ifCond .eq 18, 3) := by decide +kernel
theorem dX5_setFaults_19 : decode cX5_setFaults 19 = .ok (.aload_n 0, 1) := by decide +kernel
theorem dX5_setFaults_20 : decode cX5_setFaults 20 = .ok (.iconst 0, 1) := by decide +kernel
theorem dX5_setFaults_21 : decode cX5_setFaults 21 = .ok (.iload_n 1, 1) := by decide +kernel
theorem dX5_setFaults_22 : decode cX5_setFaults 22 = .ok (.invokestatic 20, 3) := by decide +kernel
theorem dX5_setFaults_25 : decode cX5_setFaults 25 = .ok (.iconst 4, 1) := by decide +kernel
theorem dX5_setFaults_26 : decode cX5_setFaults 26 = .ok (.iadd, 1) := by decide +kernel
theorem dX5_setFaults_27 : decode cX5_setFaults 27 = .ok (.iload_n 2, 1) := by decide +kernel
theorem dX5_setFaults_28 : decode cX5_setFaults 28 = .ok (.invokevirtual 118, 3) := by decide +kernel
theorem dX5_setFaults_31 : decode cX5_setFaults 31 = .ok (.goto 4, 3) := by decide +kernel
theorem dX5_setFaults_34 : decode cX5_setFaults 34 = .ok (.iconst 0, 1) := by decide +kernel
theorem dX5_setFaults_35 : decode cX5_setFaults 35 = .ok (.ireturn, 1) := by decide +kernel
theorem dX5_setPatience_0 : decode cX5_setPatience 0 = .ok (.aload_n 0, 1) := by decide +kernel
theorem dX5_setPatience_1 : decode cX5_setPatience 1 = .ok (.iload_n 1, 1) := by decide +kernel
theorem dX5_setPatience_2 : decode cX5_setPatience 2 = .ok (.iconst 1, 1) := by decide +kernel
theorem dX5_setPatience_3 : decode cX5_setPatience 3 = .ok (.iconst 5, 1) := by decide +kernel
theorem dX5_setPatience_4 : decode cX5_setPatience 4 = .ok (.invokestatic 28, 3) := by decide +kernel
theorem dX5_setPatience_7 : decode cX5_setPatience 7 = .ok (.iconst 1, 1) := by decide +kernel
theorem dX5_setPatience_8 : decode cX5_setPatience 8 = .ok (.iconst 1, 1) := by decide +kernel
theorem dX5_setPatience_9 : decode cX5_setPatience 9 = .ok (.invokevirtual 100, 3) := by decide +kernel
theorem dX5_setPatience_12 : decode cX5_setPatience 12 = .ok (.ifCond .eq 13, 3) := by decide +kernel
theorem dX5_setPatience_15 : decode cX5_setPatience 15 = .ok (.aload_n 0, 1) := by decide +kernel
theorem dX5_setPatience_16 : decode cX5_setPatience 16 = .ok (.bipush 11, 2) := by decide +kernel
theorem dX5_setPatience_18 : decode cX5_setPatience 18 = .ok (.iload_n 1, 1) := by decide +kernel
theorem dX5_setPatience_19 : decode cX5_setPatience 19 = .ok (.invokevirtual 118, 3) := by decide +kernel
theorem dX5_setPatience_22 : decode cX5_setPatience 22 = .ok (.goto 4, 3) := by decide +kernel
theorem dX5_setPatience_25 : decode cX5_setPatience 25 = .ok (.iconst 0, 1) := by decide +kernel
theorem dX5_setPatience_26 : decode cX5_setPatience 26 = .ok (.ireturn, 1) := by decide +kernel
theorem dX5_take_0 : decode cX5_take 0 = .ok (.aload_n 0, 1) := by decide +kernel
theorem dX5_take_1 : decode cX5_take 1 = .ok (.iload_n 1, 1) := by decide +kernel
theorem dX5_take_2 : decode cX5_take 2 = .ok (.invokestatic 115, 3) := by decide +kernel
theorem dX5_take_5 : decode cX5_take 5 = .ok (.iload_n 2, 1) := by decide +kernel
theorem dX5_take_6 : decode cX5_take 6 = .ok (.iconst 0, 1) := by decide +kernel
theorem dX5_take_7 : decode cX5_take 7 = .ok (.sipush 999, 3) := by decide +kernel
theorem dX5_take_10 : decode cX5_take 10 = .ok (.invokestatic 28, 3) := by decide +kernel
theorem dX5_take_13 : decode cX5_take 13 = .ok (.iload_n 1, 1) := by decide +kernel
theorem dX5_take_14 : decode cX5_take 14 = .ok (.invokestatic 115, 3) := by decide +kernel
theorem dX5_take_17 : decode cX5_take 17 = .ok (.ifCond .eq 15, 3) := by decide +kernel
theorem dX5_take_20 : decode cX5_take 20 = .ok (.aload_n 0, 1) := by decide +kernel
theorem dX5_take_21 : decode cX5_take 21 = .ok (.iload_n 1, 1) := by decide +kernel
theorem dX5_take_22 : decode cX5_take 22 = .ok (.invokevirtual 121, 3) := by decide +kernel
theorem dX5_take_25 : decode cX5_take 25 = .ok (.ifCond .eq 7, 3) := by decide +kernel
theorem dX5_take_28 : decode cX5_take 28 = .ok (.iconst 1, 1) := by decide +kernel
theorem dX5_take_29 : decode cX5_take 29 = .ok (.goto 4, 3) := by decide +kernel
theorem dX5_take_32 : decode cX5_take 32 = .ok (.iconst 0, 1) := by decide +kernel
theorem dX5_take_33 : decode cX5_take 33 = .ok (.invokevirtual 100, 3) := by decide +kernel
theorem dX5_take_36 : decode cX5_take 36 = .ok (.ifCond .ne 5, 3) := by decide +kernel
theorem dX5_take_39 : decode cX5_take 39 = .ok (.iconst 0, 1) := by decide +kernel
theorem dX5_take_40 : decode cX5_take 40 = .ok (.ireturn, 1) := by decide +kernel
theorem dX5_take_41 : decode cX5_take 41 = .ok (.aload_n 0, 1) := by decide +kernel
theorem dX5_take_42 : decode cX5_take 42 = .ok (.invokevirtual 104, 3) := by decide +kernel
theorem dX5_take_45 : decode cX5_take 45 = .ok (.aload_n 0, 1) := by decide +kernel
theorem dX5_take_46 : decode cX5_take 46 = .ok (.iload_n 1, 1) := by decide +kernel
theorem dX5_take_47 : decode cX5_take 47 = .ok (.iload_n 2, 1) := by decide +kernel
theorem dX5_take_48 : decode cX5_take 48 = .ok (.invokevirtual 124, 3) := by decide +kernel
theorem dX5_take_51 : decode cX5_take 51 = .ok (.ireturn, 1) := by decide +kernel
theorem dX5_run_0 : decode cX5_run 0 = .ok (.aload_n 0, 1) := by decide +kernel
theorem dX5_run_1 : decode cX5_run 1 = .ok (.iload_n 1, 1) := by decide +kernel
theorem dX5_run_2 : decode cX5_run 2 = .ok (.iconst 1, 1) := by decide +kernel
theorem dX5_run_3 : decode cX5_run 3 = .ok (.bipush 100, 2) := by decide +kernel
theorem dX5_run_5 : decode cX5_run 5 = .ok (.invokestatic 28, 3) := by decide +kernel
theorem dX5_run_8 : decode cX5_run 8 = .ok (.iconst 1, 1) := by decide +kernel
theorem dX5_run_9 : decode cX5_run 9 = .ok (.iconst 1, 1) := by decide +kernel
theorem dX5_run_10 : decode cX5_run 10 = .ok (.invokevirtual 100, 3) := by decide +kernel
theorem dX5_run_13 : decode cX5_run 13 = .ok (.ifCond .ne 5, 3) := by decide +kernel
theorem dX5_run_16 : decode cX5_run 16 = .ok (.iconst 0, 1) := by decide +kernel
theorem dX5_run_17 : decode cX5_run 17 = .ok (.ireturn, 1) := by decide +kernel
theorem dX5_run_18 : decode cX5_run 18 = .ok (.aload_n 0, 1) := by decide +kernel
theorem dX5_run_19 : decode cX5_run 19 = .ok (.invokevirtual 104, 3) := by decide +kernel
theorem dX5_run_22 : decode cX5_run 22 = .ok (.aload_n 0, 1) := by decide +kernel
theorem dX5_run_23 : decode cX5_run 23 = .ok (.iconst 0, 1) := by decide +kernel
theorem dX5_run_24 : decode cX5_run 24 = .ok (.iload_n 1, 1) := by decide +kernel
theorem dX5_run_25 : decode cX5_run 25 = .ok (.invokevirtual 127, 3) := by decide +kernel
theorem dX5_run_28 : decode cX5_run 28 = .ok (.ireturn, 1) := by decide +kernel
theorem dX5_appendText_0 : decode cX5_appendText 0 = .ok (.aload_n 0, 1) := by decide +kernel
theorem dX5_appendText_1 : decode cX5_appendText 1 = .ok (.iload_n 1, 1) := by decide +kernel
theorem dX5_appendText_2 : decode cX5_appendText 2 = .ok (.bipush 32, 2) := by decide +kernel
theorem dX5_appendText_4 : decode cX5_appendText 4 = .ok (.bipush 126, 2) := by decide +kernel
theorem dX5_appendText_6 : decode cX5_appendText 6 = .ok (.invokestatic 28, 3) := by decide +kernel
theorem dX5_appendText_9 : decode cX5_appendText 9 = .ok (.aload_n 0, 1) := by decide +kernel
theorem dX5_appendText_10 : decode cX5_appendText 10 = .ok (.getfield 130, 3) := by decide +kernel
theorem dX5_appendText_13 : decode cX5_appendText 13 = .ok (.bipush 80, 2) := by decide +kernel
theorem dX5_appendText_15 : decode cX5_appendText 15 = .ok (.if_icmp .ge 7, 3) := by decide +kernel
theorem dX5_appendText_18 : decode cX5_appendText 18 = .ok (.iconst 1, 1) := by decide +kernel
theorem dX5_appendText_19 : decode cX5_appendText 19 = .ok (.goto 4, 3) := by decide +kernel
theorem dX5_appendText_22 : decode cX5_appendText 22 = .ok (.iconst 0, 1) := by decide +kernel
theorem dX5_appendText_23 : decode cX5_appendText 23 = .ok (.iconst 1, 1) := by decide +kernel
theorem dX5_appendText_24 : decode cX5_appendText 24 = .ok (.invokevirtual 100, 3) := by decide +kernel
theorem dX5_appendText_27 : decode cX5_appendText 27 = .ok (.ifCond .ne 5, 3) := by decide +kernel
theorem dX5_appendText_30 : decode cX5_appendText 30 = .ok (.iconst 0, 1) := by decide +kernel
theorem dX5_appendText_31 : decode cX5_appendText 31 = .ok (.ireturn, 1) := by decide +kernel
theorem dX5_appendText_32 : decode cX5_appendText 32 = .ok (.aload_n 0, 1) := by decide +kernel
theorem dX5_appendText_33 : decode cX5_appendText 33 = .ok (.getfield 13, 3) := by decide +kernel
theorem dX5_appendText_36 : decode cX5_appendText 36 = .ok (.aload_n 0, 1) := by decide +kernel
theorem dX5_appendText_37 : decode cX5_appendText 37 = .ok (.getfield 130, 3) := by decide +kernel
theorem dX5_appendText_40 : decode cX5_appendText 40 = .ok (.iload_n 1, 1) := by decide +kernel
theorem dX5_appendText_41 : decode cX5_appendText 41 = .ok (.i2c, 1) := by decide +kernel
theorem dX5_appendText_42 : decode cX5_appendText 42 = .ok (.castore, 1) := by decide +kernel
theorem dX5_appendText_43 : decode cX5_appendText 43 = .ok (.aload_n 0, 1) := by decide +kernel
theorem dX5_appendText_44 : decode cX5_appendText 44 = .ok (.dup, 1) := by decide +kernel
theorem dX5_appendText_45 : decode cX5_appendText 45 = .ok (.getfield 130, 3) := by decide +kernel
theorem dX5_appendText_48 : decode cX5_appendText 48 = .ok (.iconst 1, 1) := by decide +kernel
theorem dX5_appendText_49 : decode cX5_appendText 49 = .ok (.iadd, 1) := by decide +kernel
theorem dX5_appendText_50 : decode cX5_appendText 50 = .ok (.putfield 130, 3) := by decide +kernel
theorem dX5_appendText_53 : decode cX5_appendText 53 = .ok (.aload_n 0, 1) := by decide +kernel
theorem dX5_appendText_54 : decode cX5_appendText 54 = .ok (.getfield 130, 3) := by decide +kernel
theorem dX5_appendText_57 : decode cX5_appendText 57 = .ok (.ireturn, 1) := by decide +kernel
theorem dX5_clearText_0 : decode cX5_clearText 0 = .ok (.aload_n 0, 1) := by decide +kernel
theorem dX5_clearText_1 : decode cX5_clearText 1 = .ok (.iconst 0, 1) := by decide +kernel
theorem dX5_clearText_2 : decode cX5_clearText 2 = .ok (.putfield 24, 3) := by decide +kernel
theorem dX5_clearText_5 : decode cX5_clearText 5 = .ok (.aload_n 0, 1) := by decide +kernel
theorem dX5_clearText_6 : decode cX5_clearText 6 = .ok (.getfield 130, 3) := by decide +kernel
theorem dX5_clearText_9 : decode cX5_clearText 9 = .ok (.istore_n 1, 1) := by decide +kernel
theorem dX5_clearText_10 : decode cX5_clearText 10 = .ok (.aload_n 0, 1) := by decide +kernel
theorem dX5_clearText_11 : decode cX5_clearText 11 = .ok (.iconst 0, 1) := by decide +kernel
theorem dX5_clearText_12 : decode cX5_clearText 12 = .ok (.putfield 130, 3) := by decide +kernel
theorem dX5_clearText_15 : decode cX5_clearText 15 = .ok (.iload_n 1, 1) := by decide +kernel
theorem dX5_clearText_16 : decode cX5_clearText 16 = .ok (.ireturn, 1) := by decide +kernel
theorem dX5_isHere_0 : decode cX5_isHere 0 = .ok (.aload_n 0, 1) := by decide +kernel
theorem dX5_isHere_1 : decode cX5_isHere 1 = .ok (.getfield 133, 3) := by decide +kernel
theorem dX5_isHere_4 : decode cX5_isHere 4 = .ok (.aload_n 0, 1) := by decide +kernel
theorem dX5_isHere_5 : decode cX5_isHere 5 = .ok (.getfield 130, 3) := by decide +kernel
theorem dX5_isHere_8 : decode cX5_isHere 8 = .ok (.if_icmp .ge 24, 3) := by decide +kernel
theorem dX5_isHere_11 : decode cX5_isHere 11 = .ok (.aload_n 0, 1) := by decide +kernel
theorem dX5_isHere_12 : decode cX5_isHere 12 = .ok (.getfield 13, 3) := by decide +kernel
theorem dX5_isHere_15 : decode cX5_isHere 15 = .ok (.aload_n 0, 1) := by decide +kernel
theorem dX5_isHere_16 : decode cX5_isHere 16 = .ok (.getfield 133, 3) := by decide +kernel
theorem dX5_isHere_19 : decode cX5_isHere 19 = .ok (.caload, 1) := by decide +kernel
theorem dX5_isHere_20 : decode cX5_isHere 20 = .ok (.iload_n 1, 1) := by decide +kernel
theorem dX5_isHere_21 : decode cX5_isHere 21 = .ok (.iload_n 2, 1) := by decide +kernel
theorem dX5_isHere_22 : decode cX5_isHere 22 = .ok (.invokestatic 28, 3) := by decide +kernel
theorem dX5_isHere_25 : decode cX5_isHere 25 = .ok (.ifCond .eq 7, 3) := by decide +kernel
theorem dX5_isHere_28 : decode cX5_isHere 28 = .ok (.iconst 1, 1) := by decide +kernel
theorem dX5_isHere_29 : decode cX5_isHere 29 = .ok (.goto 4, 3) := by decide +kernel
theorem dX5_isHere_32 : decode cX5_isHere 32 = .ok (.iconst 0, 1) := by decide +kernel
theorem dX5_isHere_33 : decode cX5_isHere 33 = .ok (.ireturn, 1) := by decide +kernel
theorem dX5_digit_0 : decode cX5_digit 0 = .ok (.aload_n 0, 1) := by decide +kernel
theorem dX5_digit_1 : decode cX5_digit 1 = .ok (.iload_n 1, 1) := by decide +kernel
theorem dX5_digit_2 : decode cX5_digit 2 = .ok (.bipush 57, 2) := by decide +kernel
theorem dX5_digit_4 : decode cX5_digit 4 = .ok (.invokevirtual 136, 3) := by decide +kernel
theorem dX5_digit_7 : decode cX5_digit 7 = .ok (.ifCond .eq 18, 3) := by decide +kernel
theorem dX5_digit_10 : decode cX5_digit 10 = .ok (.aload_n 0, 1) := by decide +kernel
theorem dX5_digit_11 : decode cX5_digit 11 = .ok (.getfield 13, 3) := by decide +kernel
theorem dX5_digit_14 : decode cX5_digit 14 = .ok (.aload_n 0, 1) := by decide +kernel
theorem dX5_digit_15 : decode cX5_digit 15 = .ok (.getfield 133, 3) := by decide +kernel
theorem dX5_digit_18 : decode cX5_digit 18 = .ok (.caload, 1) := by decide +kernel
theorem dX5_digit_19 : decode cX5_digit 19 = .ok (.bipush 48, 2) := by decide +kernel
theorem dX5_digit_21 : decode cX5_digit 21 = .ok (.isub, 1) := by decide +kernel
theorem dX5_digit_22 : decode cX5_digit 22 = .ok (.goto 4, 3) := by decide +kernel
theorem dX5_digit_25 : decode cX5_digit 25 = .ok (.iconst (-1), 1) := by decide +kernel
theorem dX5_digit_26 : decode cX5_digit 26 = .ok (.istore_n 2, 1) := by decide +kernel
theorem dX5_digit_27 : decode cX5_digit 27 = .ok (.aload_n 0, 1) := by decide +kernel
theorem dX5_digit_28 : decode cX5_digit 28 = .ok (.dup, 1) := by decide +kernel
theorem dX5_digit_29 : decode cX5_digit 29 = .ok (.getfield 133, 3) := by decide +kernel
theorem dX5_digit_32 : decode cX5_digit 32 = .ok (.iload_n 2, 1) := by decide +kernel
theorem dX5_digit_33 : decode cX5_digit 33 = .ok (.iconst (-1), 1) := by decide +kernel
theorem dX5_digit_34 : decode cX5_digit 34 = .ok (.if_icmp .ne 7, 3) := by decide +kernel
theorem dX5_digit_37 : decode cX5_digit 37 = .ok (.iconst 0, 1) := by decide +kernel
theorem dX5_digit_38 : decode cX5_digit 38 = .ok (.goto 4, 3) := by decide +kernel
theorem dX5_digit_41 : decode cX5_digit 41 = .ok (.iconst 1, 1) := by decide +kernel
theorem dX5_digit_42 : decode cX5_digit 42 = .ok (.iadd, 1) := by decide +kernel
theorem dX5_digit_43 : decode cX5_digit 43 = .ok (.putfield 133, 3) := by decide +kernel
theorem dX5_digit_46 : decode cX5_digit 46 = .ok (.iload_n 2, 1) := by decide +kernel
theorem dX5_digit_47 : decode cX5_digit 47 = .ok (.ireturn, 1) := by decide +kernel
theorem dX5_number_0 : decode cX5_number 0 = .ok (.aload_n 0, 1) := by decide +kernel
theorem dX5_number_1 : decode cX5_number 1 = .ok (.iload_n 1, 1) := by decide +kernel
theorem dX5_number_2 : decode cX5_number 2 = .ok (.ifCond .ne 8, 3) := by decide +kernel
theorem dX5_number_5 : decode cX5_number 5 = .ok (.bipush 48, 2) := by decide +kernel
theorem dX5_number_7 : decode cX5_number 7 = .ok (.goto 5, 3) := by decide +kernel
theorem dX5_number_10 : decode cX5_number 10 = .ok (.bipush 49, 2) := by decide +kernel
theorem dX5_number_12 : decode cX5_number 12 = .ok (.invokevirtual 140, 3) := by decide +kernel
theorem dX5_number_15 : decode cX5_number 15 = .ok (.istore_n 3, 1) := by decide +kernel
theorem dX5_number_16 : decode cX5_number 16 = .ok (.iload_n 3, 1) := by decide +kernel
theorem dX5_number_17 : decode cX5_number 17 = .ok (.ifCond .le 66, 3) := by decide +kernel
theorem dX5_number_20 : decode cX5_number 20 = .ok (.aload_n 0, 1) := by decide +kernel
theorem dX5_number_21 : decode cX5_number 21 = .ok (.bipush 48, 2) := by decide +kernel
theorem dX5_number_23 : decode cX5_number 23 = .ok (.bipush 57, 2) := by decide +kernel
theorem dX5_number_25 : decode cX5_number 25 = .ok (.invokevirtual 136, 3) := by decide +kernel
theorem dX5_number_28 : decode cX5_number 28 = .ok (.ifCond .eq 55, 3) := by decide +kernel
theorem dX5_number_31 : decode cX5_number 31 = .ok (.bipush 10, 2) := by decide +kernel
theorem dX5_number_33 : decode cX5_number 33 = .ok (.iload_n 3, 1) := by decide +kernel
theorem dX5_number_34 : decode cX5_number 34 = .ok (.imul, 1) := by decide +kernel
theorem dX5_number_35 : decode cX5_number 35 = .ok (.aload_n 0, 1) := by decide +kernel
theorem dX5_number_36 : decode cX5_number 36 = .ok (.getfield 13, 3) := by decide +kernel
theorem dX5_number_39 : decode cX5_number 39 = .ok (.aload_n 0, 1) := by decide +kernel
theorem dX5_number_40 : decode cX5_number 40 = .ok (.getfield 133, 3) := by decide +kernel
theorem dX5_number_43 : decode cX5_number 43 = .ok (.caload, 1) := by decide +kernel
theorem dX5_number_44 : decode cX5_number 44 = .ok (.iadd, 1) := by decide +kernel
theorem dX5_number_45 : decode cX5_number 45 = .ok (.bipush 48, 2) := by decide +kernel
theorem dX5_number_47 : decode cX5_number 47 = .ok (.isub, 1) := by decide +kernel
theorem dX5_number_48 : decode cX5_number 48 = .ok (.iload_n 2, 1) := by decide +kernel
theorem dX5_number_49 : decode cX5_number 49 = .ok (.if_icmp .gt 34, 3) := by decide +kernel
theorem dX5_number_52 : decode cX5_number 52 = .ok (.bipush 10, 2) := by decide +kernel
theorem dX5_number_54 : decode cX5_number 54 = .ok (.iload_n 3, 1) := by decide +kernel
theorem dX5_number_55 : decode cX5_number 55 = .ok (.imul, 1) := by decide +kernel
theorem dX5_number_56 : decode cX5_number 56 = .ok (.aload_n 0, 1) := by decide +kernel
theorem dX5_number_57 : decode cX5_number 57 = .ok (.getfield 13, 3) := by decide +kernel
theorem dX5_number_60 : decode cX5_number 60 = .ok (.aload_n 0, 1) := by decide +kernel
theorem dX5_number_61 : decode cX5_number 61 = .ok (.getfield 133, 3) := by decide +kernel
theorem dX5_number_64 : decode cX5_number 64 = .ok (.caload, 1) := by decide +kernel
theorem dX5_number_65 : decode cX5_number 65 = .ok (.iadd, 1) := by decide +kernel
theorem dX5_number_66 : decode cX5_number 66 = .ok (.bipush 48, 2) := by decide +kernel
theorem dX5_number_68 : decode cX5_number 68 = .ok (.isub, 1) := by decide +kernel
theorem dX5_number_69 : decode cX5_number 69 = .ok (.istore_n 3, 1) := by decide +kernel
theorem dX5_number_70 : decode cX5_number 70 = .ok (.aload_n 0, 1) := by decide +kernel
theorem dX5_number_71 : decode cX5_number 71 = .ok (.dup, 1) := by decide +kernel
theorem dX5_number_72 : decode cX5_number 72 = .ok (.getfield 133, 3) := by decide +kernel
theorem dX5_number_75 : decode cX5_number 75 = .ok (.iconst 1, 1) := by decide +kernel
theorem dX5_number_76 : decode cX5_number 76 = .ok (.iadd, 1) := by decide +kernel
theorem dX5_number_77 : decode cX5_number 77 = .ok (.putfield 133, 3) := by decide +kernel
theorem dX5_number_80 : decode cX5_number 80 = .ok (.goto (-64), 3) := by decide +kernel
theorem dX5_number_83 : decode cX5_number 83 = .ok (.iload_n 3, 1) := by decide +kernel
theorem dX5_number_84 : decode cX5_number 84 = .ok (.ireturn, 1) := by decide +kernel
theorem dX5_readsLink_0 : decode cX5_readsLink 0 = .ok (.aload_n 0, 1) := by decide +kernel
theorem dX5_readsLink_1 : decode cX5_readsLink 1 = .ok (.aload_n 0, 1) := by decide +kernel
theorem dX5_readsLink_2 : decode cX5_readsLink 2 = .ok (.bipush 48, 2) := by decide +kernel
theorem dX5_readsLink_4 : decode cX5_readsLink 4 = .ok (.invokevirtual 140, 3) := by decide +kernel
theorem dX5_readsLink_7 : decode cX5_readsLink 7 = .ok (.putfield 144, 3) := by decide +kernel
theorem dX5_readsLink_10 : decode cX5_readsLink 10 = .ok (.aload_n 0, 1) := by decide +kernel
theorem dX5_readsLink_11 : decode cX5_readsLink 11 = .ok (.getfield 144, 3) := by decide +kernel
theorem dX5_readsLink_14 : decode cX5_readsLink 14 = .ok (.iconst (-1), 1) := by decide +kernel
theorem dX5_readsLink_15 : decode cX5_readsLink 15 = .ok (.if_icmp .eq 33, 3) := by decide +kernel
theorem dX5_readsLink_18 : decode cX5_readsLink 18 = .ok (.aload_n 0, 1) := by decide +kernel
theorem dX5_readsLink_19 : decode cX5_readsLink 19 = .ok (.getfield 133, 3) := by decide +kernel
theorem dX5_readsLink_22 : decode cX5_readsLink 22 = .ok (.aload_n 0, 1) := by decide +kernel
theorem dX5_readsLink_23 : decode cX5_readsLink 23 = .ok (.getfield 130, 3) := by decide +kernel
theorem dX5_readsLink_26 : decode cX5_readsLink 26 = .ok (.if_icmp .ge 24, 3) := by decide +kernel
theorem dX5_readsLink_29 : decode cX5_readsLink 29 = .ok (.aload_n 0, 1) := by decide +kernel
theorem dX5_readsLink_30 : decode cX5_readsLink 30 = .ok (.getfield 13, 3) := by decide +kernel
theorem dX5_readsLink_33 : decode cX5_readsLink 33 = .ok (.aload_n 0, 1) := by decide +kernel
theorem dX5_readsLink_34 : decode cX5_readsLink 34 = .ok (.getfield 133, 3) := by decide +kernel
theorem dX5_readsLink_37 : decode cX5_readsLink 37 = .ok (.caload, 1) := by decide +kernel
theorem dX5_readsLink_38 : decode cX5_readsLink 38 = .ok (.bipush 48, 2) := by decide +kernel
theorem dX5_readsLink_40 : decode cX5_readsLink 40 = .ok (.isub, 1) := by decide +kernel
theorem dX5_readsLink_41 : decode cX5_readsLink 41 = .ok (.aload_n 0, 1) := by decide +kernel
theorem dX5_readsLink_42 : decode cX5_readsLink 42 = .ok (.getfield 144, 3) := by decide +kernel
theorem dX5_readsLink_45 : decode cX5_readsLink 45 = .ok (.if_icmp .ne 5, 3) := by decide +kernel
theorem dX5_readsLink_48 : decode cX5_readsLink 48 = .ok (.iconst 0, 1) := by decide +kernel
theorem dX5_readsLink_49 : decode cX5_readsLink 49 = .ok (.ireturn, 1) := by decide +kernel
theorem dX5_readsLink_50 : decode cX5_readsLink 50 = .ok (.aload_n 0, 1) := by decide +kernel
theorem dX5_readsLink_51 : decode cX5_readsLink 51 = .ok (.aload_n 0, 1) := by decide +kernel
theorem dX5_readsLink_52 : decode cX5_readsLink 52 = .ok (.bipush 48, 2) := by decide +kernel
theorem dX5_readsLink_54 : decode cX5_readsLink 54 = .ok (.invokevirtual 140, 3) := by decide +kernel
theorem dX5_readsLink_57 : decode cX5_readsLink 57 = .ok (.putfield 147, 3) := by decide +kernel
theorem dX5_readsLink_60 : decode cX5_readsLink 60 = .ok (.aload_n 0, 1) := by decide +kernel
theorem dX5_readsLink_61 : decode cX5_readsLink 61 = .ok (.getfield 147, 3) := by decide +kernel
theorem dX5_readsLink_64 : decode cX5_readsLink 64 = .ok (.iconst (-1), 1) := by decide +kernel
theorem dX5_readsLink_65 : decode cX5_readsLink 65 = .ok (.if_icmp .eq 7, 3) := by decide +kernel
theorem dX5_readsLink_68 : decode cX5_readsLink 68 = .ok (.iconst 1, 1) := by decide +kernel
theorem dX5_readsLink_69 : decode cX5_readsLink 69 = .ok (.goto 4, 3) := by decide +kernel
theorem dX5_readsLink_72 : decode cX5_readsLink 72 = .ok (.iconst 0, 1) := by decide +kernel
theorem dX5_readsLink_73 : decode cX5_readsLink 73 = .ok (.ireturn, 1) := by decide +kernel
theorem dX5_readsTake_0 : decode cX5_readsTake 0 = .ok (.aload_n 0, 1) := by decide +kernel
theorem dX5_readsTake_1 : decode cX5_readsTake 1 = .ok (.aload_n 0, 1) := by decide +kernel
theorem dX5_readsTake_2 : decode cX5_readsTake 2 = .ok (.bipush 49, 2) := by decide +kernel
theorem dX5_readsTake_4 : decode cX5_readsTake 4 = .ok (.invokevirtual 140, 3) := by decide +kernel
theorem dX5_readsTake_7 : decode cX5_readsTake 7 = .ok (.putfield 144, 3) := by decide +kernel
theorem dX5_readsTake_10 : decode cX5_readsTake 10 = .ok (.aload_n 0, 1) := by decide +kernel
theorem dX5_readsTake_11 : decode cX5_readsTake 11 = .ok (.getfield 144, 3) := by decide +kernel
theorem dX5_readsTake_14 : decode cX5_readsTake 14 = .ok (.iconst (-1), 1) := by decide +kernel
theorem dX5_readsTake_15 : decode cX5_readsTake 15 = .ok (.if_icmp .eq 14, 3) := by decide +kernel
theorem dX5_readsTake_18 : decode cX5_readsTake 18 = .ok (.aload_n 0, 1) := by decide +kernel
theorem dX5_readsTake_19 : decode cX5_readsTake 19 = .ok (.bipush 44, 2) := by decide +kernel
theorem dX5_readsTake_21 : decode cX5_readsTake 21 = .ok (.bipush 44, 2) := by decide +kernel
theorem dX5_readsTake_23 : decode cX5_readsTake 23 = .ok (.invokevirtual 136, 3) := by decide +kernel
theorem dX5_readsTake_26 : decode cX5_readsTake 26 = .ok (.ifCond .ne 5, 3) := by decide +kernel
theorem dX5_readsTake_29 : decode cX5_readsTake 29 = .ok (.iconst 0, 1) := by decide +kernel
theorem dX5_readsTake_30 : decode cX5_readsTake 30 = .ok (.ireturn, 1) := by decide +kernel
theorem dX5_readsTake_31 : decode cX5_readsTake 31 = .ok (.aload_n 0, 1) := by decide +kernel
theorem dX5_readsTake_32 : decode cX5_readsTake 32 = .ok (.dup, 1) := by decide +kernel
theorem dX5_readsTake_33 : decode cX5_readsTake 33 = .ok (.getfield 133, 3) := by decide +kernel
theorem dX5_readsTake_36 : decode cX5_readsTake 36 = .ok (.iconst 1, 1) := by decide +kernel
theorem dX5_readsTake_37 : decode cX5_readsTake 37 = .ok (.iadd, 1) := by decide +kernel
theorem dX5_readsTake_38 : decode cX5_readsTake 38 = .ok (.putfield 133, 3) := by decide +kernel
theorem dX5_readsTake_41 : decode cX5_readsTake 41 = .ok (.aload_n 0, 1) := by decide +kernel
theorem dX5_readsTake_42 : decode cX5_readsTake 42 = .ok (.aload_n 0, 1) := by decide +kernel
theorem dX5_readsTake_43 : decode cX5_readsTake 43 = .ok (.iconst 0, 1) := by decide +kernel
theorem dX5_readsTake_44 : decode cX5_readsTake 44 = .ok (.sipush 999, 3) := by decide +kernel
theorem dX5_readsTake_47 : decode cX5_readsTake 47 = .ok (.invokevirtual 150, 3) := by decide +kernel
theorem dX5_readsTake_50 : decode cX5_readsTake 50 = .ok (.putfield 147, 3) := by decide +kernel
theorem dX5_readsTake_53 : decode cX5_readsTake 53 = .ok (.aload_n 0, 1) := by decide +kernel
theorem dX5_readsTake_54 : decode cX5_readsTake 54 = .ok (.getfield 147, 3) := by decide +kernel
theorem dX5_readsTake_57 : decode cX5_readsTake 57 = .ok (.iconst (-1), 1) := by decide +kernel
theorem dX5_readsTake_58 : decode cX5_readsTake 58 = .ok (.if_icmp .eq 7, 3) := by decide +kernel
theorem dX5_readsTake_61 : decode cX5_readsTake 61 = .ok (.iconst 1, 1) := by decide +kernel
theorem dX5_readsTake_62 : decode cX5_readsTake 62 = .ok (.goto 4, 3) := by decide +kernel
theorem dX5_readsTake_65 : decode cX5_readsTake 65 = .ok (.iconst 0, 1) := by decide +kernel
theorem dX5_readsTake_66 : decode cX5_readsTake 66 = .ok (.ireturn, 1) := by decide +kernel
theorem dX5_command_0 : decode cX5_command 0 = .ok (.aload_n 0, 1) := by decide +kernel
theorem dX5_command_1 : decode cX5_command 1 = .ok (.getfield 133, 3) := by decide +kernel
theorem dX5_command_4 : decode cX5_command 4 = .ok (.aload_n 0, 1) := by decide +kernel
theorem dX5_command_5 : decode cX5_command 5 = .ok (.getfield 130, 3) := by decide +kernel
theorem dX5_command_8 : decode cX5_command 8 = .ok (.if_icmp .ge 15, 3) := by decide +kernel
theorem dX5_command_11 : decode cX5_command 11 = .ok (.aload_n 0, 1) := by decide +kernel
theorem dX5_command_12 : decode cX5_command 12 = .ok (.getfield 13, 3) := by decide +kernel
theorem dX5_command_15 : decode cX5_command 15 = .ok (.aload_n 0, 1) := by decide +kernel
theorem dX5_command_16 : decode cX5_command 16 = .ok (.getfield 133, 3) := by decide +kernel
theorem dX5_command_19 : decode cX5_command 19 = .ok (.caload, 1) := by decide +kernel
theorem dX5_command_20 : decode cX5_command 20 = .ok (.goto 5, 3) := by decide +kernel
theorem dX5_command_23 : decode cX5_command 23 = .ok (.bipush 32, 2) := by decide +kernel
theorem dX5_command_25 : decode cX5_command 25 = .ok (.istore_n 1, 1) := by decide +kernel
theorem dX5_command_26 : decode cX5_command 26 = .ok (.aload_n 0, 1) := by decide +kernel
theorem dX5_command_27 : decode cX5_command 27 = .ok (.dup, 1) := by decide +kernel
theorem dX5_command_28 : decode cX5_command 28 = .ok (.getfield 133, 3) := by decide +kernel
theorem dX5_command_31 : decode cX5_command 31 = .ok (.iconst 1, 1) := by decide +kernel
theorem dX5_command_32 : decode cX5_command 32 = .ok (.iadd, 1) := by decide +kernel
theorem dX5_command_33 : decode cX5_command 33 = .ok (.putfield 133, 3) := by decide +kernel
theorem dX5_command_36 : decode cX5_command 36 = .ok (.iload_n 1, 1) := by decide +kernel
theorem dX5_command_37 : decode cX5_command 37 = .ok (.lookupswitch 130 #[(33, 65), (43, 51), (45, 51), (114, 104), (116, 90)], 51) := by decide +kernel
theorem dX5_command_88 : decode cX5_command 88 = .ok (.aload_n 0, 1) := by decide +kernel
theorem dX5_command_89 : decode cX5_command 89 = .ok (.invokevirtual 153, 3) := by decide +kernel
theorem dX5_command_92 : decode cX5_command 92 = .ok (.ifCond .eq 7, 3) := by decide +kernel
theorem dX5_command_95 : decode cX5_command 95 = .ok (.iload_n 1, 1) := by decide +kernel
theorem dX5_command_96 : decode cX5_command 96 = .ok (.goto 5, 3) := by decide +kernel
theorem dX5_command_99 : decode cX5_command 99 = .ok (.bipush 32, 2) := by decide +kernel
theorem dX5_command_101 : decode cX5_command 101 = .ok (.ireturn, 1) := by decide +kernel
theorem dX5_command_102 : decode cX5_command 102 = .ok (.aload_n 0, 1) := by decide +kernel
theorem dX5_command_103 : decode cX5_command 103 = .ok (.aload_n 0, 1) := by decide +kernel
theorem dX5_command_104 : decode cX5_command 104 = .ok (.bipush 48, 2) := by decide +kernel
theorem dX5_command_106 : decode cX5_command 106 = .ok (.invokevirtual 140, 3) := by decide +kernel
theorem dX5_command_109 : decode cX5_command 109 = .ok (.putfield 144, 3) := by decide +kernel
theorem dX5_command_112 : decode cX5_command 112 = .ok (.aload_n 0, 1) := by decide +kernel
theorem dX5_command_113 : decode cX5_command 113 = .ok (.getfield 144, 3) := by decide +kernel
theorem dX5_command_116 : decode cX5_command 116 = .ok (.iconst (-1), 1) := by decide +kernel
theorem dX5_command_117 : decode cX5_command 117 = .ok (.if_icmp .eq 7, 3) := by decide +kernel
theorem dX5_command_120 : decode cX5_command 120 = .ok (.iload_n 1, 1) := by decide +kernel
theorem dX5_command_121 : decode cX5_command 121 = .ok (.goto 5, 3) := by decide +kernel
theorem dX5_command_124 : decode cX5_command 124 = .ok (.bipush 32, 2) := by decide +kernel
theorem dX5_command_126 : decode cX5_command 126 = .ok (.ireturn, 1) := by decide +kernel
theorem dX5_command_127 : decode cX5_command 127 = .ok (.aload_n 0, 1) := by decide +kernel
theorem dX5_command_128 : decode cX5_command 128 = .ok (.invokevirtual 157, 3) := by decide +kernel
theorem dX5_command_131 : decode cX5_command 131 = .ok (.ifCond .eq 7, 3) := by decide +kernel
theorem dX5_command_134 : decode cX5_command 134 = .ok (.iload_n 1, 1) := by decide +kernel
theorem dX5_command_135 : decode cX5_command 135 = .ok (.goto 5, 3) := by decide +kernel
theorem dX5_command_138 : decode cX5_command 138 = .ok (.bipush 32, 2) := by decide +kernel
theorem dX5_command_140 : decode cX5_command 140 = .ok (.ireturn, 1) := by decide +kernel
theorem dX5_command_141 : decode cX5_command 141 = .ok (.aload_n 0, 1) := by decide +kernel
theorem dX5_command_142 : decode cX5_command 142 = .ok (.aload_n 0, 1) := by decide +kernel
theorem dX5_command_143 : decode cX5_command 143 = .ok (.iconst 1, 1) := by decide +kernel
theorem dX5_command_144 : decode cX5_command 144 = .ok (.bipush 100, 2) := by decide +kernel
theorem dX5_command_146 : decode cX5_command 146 = .ok (.invokevirtual 150, 3) := by decide +kernel
theorem dX5_command_149 : decode cX5_command 149 = .ok (.putfield 144, 3) := by decide +kernel
theorem dX5_command_152 : decode cX5_command 152 = .ok (.aload_n 0, 1) := by decide +kernel
theorem dX5_command_153 : decode cX5_command 153 = .ok (.getfield 144, 3) := by decide +kernel
theorem dX5_command_156 : decode cX5_command 156 = .ok (.iconst (-1), 1) := by decide +kernel
theorem dX5_command_157 : decode cX5_command 157 = .ok (.if_icmp .eq 7, 3) := by decide +kernel
theorem dX5_command_160 : decode cX5_command 160 = .ok (.iload_n 1, 1) := by decide +kernel
theorem dX5_command_161 : decode cX5_command 161 = .ok (.goto 5, 3) := by decide +kernel
theorem dX5_command_164 : decode cX5_command 164 = .ok (.bipush 32, 2) := by decide +kernel
theorem dX5_command_166 : decode cX5_command 166 = .ok (.ireturn, 1) := by decide +kernel
theorem dX5_command_167 : decode cX5_command 167 = .ok (.aload_n 0, 1) := by decide +kernel
theorem dX5_command_168 : decode cX5_command 168 = .ok (.dup, 1) := by decide +kernel
theorem dX5_command_169 : decode cX5_command 169 = .ok (.getfield 133, 3) := by decide +kernel
theorem dX5_command_172 : decode cX5_command 172 = .ok (.iconst 1, 1) := by decide +kernel
theorem dX5_command_173 : decode cX5_command 173 = .ok (.isub, 1) := by decide +kernel
theorem dX5_command_174 : decode cX5_command 174 = .ok (.putfield 133, 3) := by decide +kernel
theorem dX5_command_177 : decode cX5_command 177 = .ok (.bipush 32, 2) := by decide +kernel
theorem dX5_command_179 : decode cX5_command 179 = .ok (.ireturn, 1) := by decide +kernel
theorem dX5_error_0 : decode cX5_error 0 = .ok (.aload_n 0, 1) := by decide +kernel
theorem dX5_error_1 : decode cX5_error 1 = .ok (.iconst 0, 1) := by decide +kernel
theorem dX5_error_2 : decode cX5_error 2 = .ok (.putfield 133, 3) := by decide +kernel
theorem dX5_error_5 : decode cX5_error 5 = .ok (.aload_n 0, 1) := by decide +kernel
theorem dX5_error_6 : decode cX5_error 6 = .ok (.invokevirtual 160, 3) := by decide +kernel
theorem dX5_error_9 : decode cX5_error 9 = .ok (.bipush 32, 2) := by decide +kernel
theorem dX5_error_11 : decode cX5_error 11 = .ok (.if_icmp .eq 48, 3) := by decide +kernel
theorem dX5_error_14 : decode cX5_error 14 = .ok (.aload_n 0, 1) := by decide +kernel
theorem dX5_error_15 : decode cX5_error 15 = .ok (.getfield 133, 3) := by decide +kernel
theorem dX5_error_18 : decode cX5_error 18 = .ok (.aload_n 0, 1) := by decide +kernel
theorem dX5_error_19 : decode cX5_error 19 = .ok (.getfield 130, 3) := by decide +kernel
theorem dX5_error_22 : decode cX5_error 22 = .ok (.if_icmp .ne 5, 3) := by decide +kernel
theorem dX5_error_25 : decode cX5_error 25 = .ok (.iconst (-1), 1) := by decide +kernel
theorem dX5_error_26 : decode cX5_error 26 = .ok (.ireturn, 1) := by decide +kernel
theorem dX5_error_27 : decode cX5_error 27 = .ok (.aload_n 0, 1) := by decide +kernel
theorem dX5_error_28 : decode cX5_error 28 = .ok (.getfield 13, 3) := by decide +kernel
theorem dX5_error_31 : decode cX5_error 31 = .ok (.aload_n 0, 1) := by decide +kernel
theorem dX5_error_32 : decode cX5_error 32 = .ok (.getfield 133, 3) := by decide +kernel
theorem dX5_error_35 : decode cX5_error 35 = .ok (.caload, 1) := by decide +kernel
theorem dX5_error_36 : decode cX5_error 36 = .ok (.bipush 59, 2) := by decide +kernel
theorem dX5_error_38 : decode cX5_error 38 = .ok (.if_icmp .eq 8, 3) := by decide +kernel
theorem dX5_error_41 : decode cX5_error 41 = .ok (.aload_n 0, 1) := by decide +kernel
theorem dX5_error_42 : decode cX5_error 42 = .ok (.getfield 133, 3) := by decide +kernel
theorem dX5_error_45 : decode cX5_error 45 = .ok (.ireturn, 1) := by decide +kernel
theorem dX5_error_46 : decode cX5_error 46 = .ok (.aload_n 0, 1) := by decide +kernel
theorem dX5_error_47 : decode cX5_error 47 = .ok (.dup, 1) := by decide +kernel
theorem dX5_error_48 : decode cX5_error 48 = .ok (.getfield 133, 3) := by decide +kernel
theorem dX5_error_51 : decode cX5_error 51 = .ok (.iconst 1, 1) := by decide +kernel
theorem dX5_error_52 : decode cX5_error 52 = .ok (.iadd, 1) := by decide +kernel
theorem dX5_error_53 : decode cX5_error 53 = .ok (.putfield 133, 3) := by decide +kernel
theorem dX5_error_56 : decode cX5_error 56 = .ok (.goto (-51), 3) := by decide +kernel
theorem dX5_error_59 : decode cX5_error 59 = .ok (.aload_n 0, 1) := by decide +kernel
theorem dX5_error_60 : decode cX5_error 60 = .ok (.getfield 133, 3) := by decide +kernel
theorem dX5_error_63 : decode cX5_error 63 = .ok (.ireturn, 1) := by decide +kernel
theorem dX5_errorPosition_0 : decode cX5_errorPosition 0 = .ok (.aload_n 0, 1) := by decide +kernel
theorem dX5_errorPosition_1 : decode cX5_errorPosition 1 = .ok (.iconst 0, 1) := by decide +kernel
theorem dX5_errorPosition_2 : decode cX5_errorPosition 2 = .ok (.putfield 24, 3) := by decide +kernel
theorem dX5_errorPosition_5 : decode cX5_errorPosition 5 = .ok (.aload_n 0, 1) := by decide +kernel
theorem dX5_errorPosition_6 : decode cX5_errorPosition 6 = .ok (.invokevirtual 164, 3) := by decide +kernel
theorem dX5_errorPosition_9 : decode cX5_errorPosition 9 = .ok (.ireturn, 1) := by decide +kernel
theorem dX5_does_0 : decode cX5_does 0 = .ok (.iload_n 1, 1) := by decide +kernel
theorem dX5_does_1 : decode cX5_does 1 = .ok (.lookupswitch 106 #[(33, 67), (43, 43), (45, 43), (116, 93)], 43) := by decide +kernel
theorem dX5_does_44 : decode cX5_does 44 = .ok (.aload_n 0, 1) := by decide +kernel
theorem dX5_does_45 : decode cX5_does 45 = .ok (.aload_n 0, 1) := by decide +kernel
theorem dX5_does_46 : decode cX5_does 46 = .ok (.getfield 144, 3) := by decide +kernel
theorem dX5_does_49 : decode cX5_does 49 = .ok (.aload_n 0, 1) := by decide +kernel
theorem dX5_does_50 : decode cX5_does 50 = .ok (.getfield 147, 3) := by decide +kernel
theorem dX5_does_53 : decode cX5_does 53 = .ok (.iload_n 1, 1) := by decide +kernel
theorem dX5_does_54 : decode cX5_does 54 = .ok (.bipush 43, 2) := by decide +kernel
theorem dX5_does_56 : decode cX5_does 56 = .ok (.if_icmp .ne 7, 3) := by decide +kernel
theorem dX5_does_59 : decode cX5_does 59 = .ok (.iconst 1, 1) := by decide +kernel
theorem dX5_does_60 : decode cX5_does 60 = .ok (.goto 4, 3) := by decide +kernel
theorem dX5_does_63 : decode cX5_does 63 = .ok (.iconst 0, 1) := by decide +kernel
theorem dX5_does_64 : decode cX5_does 64 = .ok (.invokevirtual 107, 3) := by decide +kernel
theorem dX5_does_67 : decode cX5_does 67 = .ok (.ireturn, 1) := by decide +kernel
theorem dX5_does_68 : decode cX5_does 68 = .ok (.aload_n 0, 1) := by decide +kernel
theorem dX5_does_69 : decode cX5_does 69 = .ok (.aload_n 0, 1) := by decide +kernel
theorem dX5_does_70 : decode cX5_does 70 = .ok (.getfield 144, 3) := by decide +kernel
theorem dX5_does_73 : decode cX5_does 73 = .ok (.aload_n 0, 1) := by decide +kernel
theorem dX5_does_74 : decode cX5_does 74 = .ok (.iconst 0, 1) := by decide +kernel
theorem dX5_does_75 : decode cX5_does 75 = .ok (.aload_n 0, 1) := by decide +kernel
theorem dX5_does_76 : decode cX5_does 76 = .ok (.getfield 144, 3) := by decide +kernel
theorem dX5_does_79 : decode cX5_does 79 = .ok (.invokevirtual 39, 3) := by decide +kernel
theorem dX5_does_82 : decode cX5_does 82 = .ok (.ifCond .ne 7, 3) := by decide +kernel
theorem dX5_does_85 : decode cX5_does 85 = .ok (.iconst 1, 1) := by decide +kernel
theorem dX5_does_86 : decode cX5_does 86 = .ok (.goto 4, 3) := by decide +kernel
theorem dX5_does_89 : decode cX5_does 89 = .ok (.iconst 0, 1) := by decide +kernel
theorem dX5_does_90 : decode cX5_does 90 = .ok (.invokevirtual 111, 3) := by decide +kernel
theorem dX5_does_93 : decode cX5_does 93 = .ok (.ireturn, 1) := by decide +kernel
theorem dX5_does_94 : decode cX5_does 94 = .ok (.aload_n 0, 1) := by decide +kernel
theorem dX5_does_95 : decode cX5_does 95 = .ok (.aload_n 0, 1) := by decide +kernel
theorem dX5_does_96 : decode cX5_does 96 = .ok (.getfield 144, 3) := by decide +kernel
theorem dX5_does_99 : decode cX5_does 99 = .ok (.aload_n 0, 1) := by decide +kernel
theorem dX5_does_100 : decode cX5_does 100 = .ok (.getfield 147, 3) := by decide +kernel
theorem dX5_does_103 : decode cX5_does 103 = .ok (.invokevirtual 124, 3) := by decide +kernel
theorem dX5_does_106 : decode cX5_does 106 = .ok (.ireturn, 1) := by decide +kernel
theorem dX5_does_107 : decode cX5_does 107 = .ok (.aload_n 0, 1) := by decide +kernel
theorem dX5_does_108 : decode cX5_does 108 = .ok (.iconst 0, 1) := by decide +kernel
theorem dX5_does_109 : decode cX5_does 109 = .ok (.aload_n 0, 1) := by decide +kernel
theorem dX5_does_110 : decode cX5_does 110 = .ok (.getfield 144, 3) := by decide +kernel
theorem dX5_does_113 : decode cX5_does 113 = .ok (.invokevirtual 127, 3) := by decide +kernel
theorem dX5_does_116 : decode cX5_does 116 = .ok (.ireturn, 1) := by decide +kernel
theorem dX5_runText_0 : decode cX5_runText 0 = .ok (.aload_n 0, 1) := by decide +kernel
theorem dX5_runText_1 : decode cX5_runText 1 = .ok (.aload_n 0, 1) := by decide +kernel
theorem dX5_runText_2 : decode cX5_runText 2 = .ok (.invokevirtual 164, 3) := by decide +kernel
theorem dX5_runText_5 : decode cX5_runText 5 = .ok (.iconst (-1), 1) := by decide +kernel
theorem dX5_runText_6 : decode cX5_runText 6 = .ok (.if_icmp .ne 7, 3) := by decide +kernel
theorem dX5_runText_9 : decode cX5_runText 9 = .ok (.iconst 1, 1) := by decide +kernel
theorem dX5_runText_10 : decode cX5_runText 10 = .ok (.goto 4, 3) := by decide +kernel
theorem dX5_runText_13 : decode cX5_runText 13 = .ok (.iconst 0, 1) := by decide +kernel
theorem dX5_runText_14 : decode cX5_runText 14 = .ok (.iconst 1, 1) := by decide +kernel
theorem dX5_runText_15 : decode cX5_runText 15 = .ok (.iconst 1, 1) := by decide +kernel
theorem dX5_runText_16 : decode cX5_runText 16 = .ok (.invokevirtual 100, 3) := by decide +kernel
theorem dX5_runText_19 : decode cX5_runText 19 = .ok (.ifCond .ne 5, 3) := by decide +kernel
theorem dX5_runText_22 : decode cX5_runText 22 = .ok (.iconst 0, 1) := by decide +kernel
theorem dX5_runText_23 : decode cX5_runText 23 = .ok (.ireturn, 1) := by decide +kernel
theorem dX5_runText_24 : decode cX5_runText 24 = .ok (.aload_n 0, 1) := by decide +kernel
theorem dX5_runText_25 : decode cX5_runText 25 = .ok (.invokevirtual 104, 3) := by decide +kernel
theorem dX5_runText_28 : decode cX5_runText 28 = .ok (.aload_n 0, 1) := by decide +kernel
theorem dX5_runText_29 : decode cX5_runText 29 = .ok (.iconst 0, 1) := by decide +kernel
theorem dX5_runText_30 : decode cX5_runText 30 = .ok (.putfield 133, 3) := by decide +kernel
theorem dX5_runText_33 : decode cX5_runText 33 = .ok (.iconst 0, 1) := by decide +kernel
theorem dX5_runText_34 : decode cX5_runText 34 = .ok (.istore_n 1, 1) := by decide +kernel
theorem dX5_runText_35 : decode cX5_runText 35 = .ok (.aload_n 0, 1) := by decide +kernel
theorem dX5_runText_36 : decode cX5_runText 36 = .ok (.getfield 133, 3) := by decide +kernel
theorem dX5_runText_39 : decode cX5_runText 39 = .ok (.aload_n 0, 1) := by decide +kernel
theorem dX5_runText_40 : decode cX5_runText 40 = .ok (.getfield 130, 3) := by decide +kernel
theorem dX5_runText_43 : decode cX5_runText 43 = .ok (.if_icmp .ge 49, 3) := by decide +kernel
theorem dX5_runText_46 : decode cX5_runText 46 = .ok (.aload_n 0, 1) := by decide +kernel
theorem dX5_runText_47 : decode cX5_runText 47 = .ok (.invokevirtual 160, 3) := by decide +kernel
theorem dX5_runText_50 : decode cX5_runText 50 = .ok (.istore_n 2, 1) := by decide +kernel
theorem dX5_runText_51 : decode cX5_runText 51 = .ok (.iload_n 2, 1) := by decide +kernel
theorem dX5_runText_52 : decode cX5_runText 52 = .ok (.bipush 116, 2) := by decide +kernel
theorem dX5_runText_54 : decode cX5_runText 54 = .ok (.if_icmp .ne 16, 3) := by decide +kernel
theorem dX5_runText_57 : decode cX5_runText 57 = .ok (.aload_n 0, 1) := by decide +kernel
theorem dX5_runText_58 : decode cX5_runText 58 = .ok (.aload_n 0, 1) := by decide +kernel
theorem dX5_runText_59 : decode cX5_runText 59 = .ok (.getfield 144, 3) := by decide +kernel
theorem dX5_runText_62 : decode cX5_runText 62 = .ok (.invokevirtual 121, 3) := by decide +kernel
theorem dX5_runText_65 : decode cX5_runText 65 = .ok (.ifCond .ne 5, 3) := by decide +kernel
theorem dX5_runText_68 : decode cX5_runText 68 = .ok (.iload_n 1, 1) := by decide +kernel
theorem dX5_runText_69 : decode cX5_runText 69 = .ok (.ireturn, 1) := by decide +kernel
theorem dX5_runText_70 : decode cX5_runText 70 = .ok (.aload_n 0, 1) := by decide +kernel
theorem dX5_runText_71 : decode cX5_runText 71 = .ok (.iload_n 2, 1) := by decide +kernel
theorem dX5_runText_72 : decode cX5_runText 72 = .ok (.invokevirtual 168, 3) := by decide +kernel
theorem dX5_runText_75 : decode cX5_runText 75 = .ok (.istore_n 3, 1) := by decide +kernel
theorem dX5_runText_76 : decode cX5_runText 76 = .ok (.iinc 1 1, 3) := by decide +kernel
theorem dX5_runText_79 : decode cX5_runText 79 = .ok (.aload_n 0, 1) := by decide +kernel
theorem dX5_runText_80 : decode cX5_runText 80 = .ok (.dup, 1) := by decide +kernel
theorem dX5_runText_81 : decode cX5_runText 81 = .ok (.getfield 133, 3) := by decide +kernel
theorem dX5_runText_84 : decode cX5_runText 84 = .ok (.iconst 1, 1) := by decide +kernel
theorem dX5_runText_85 : decode cX5_runText 85 = .ok (.iadd, 1) := by decide +kernel
theorem dX5_runText_86 : decode cX5_runText 86 = .ok (.putfield 133, 3) := by decide +kernel
theorem dX5_runText_89 : decode cX5_runText 89 = .ok (.goto (-54), 3) := by decide +kernel
theorem dX5_runText_92 : decode cX5_runText 92 = .ok (.iload_n 1, 1) := by decide +kernel
theorem dX5_runText_93 : decode cX5_runText 93 = .ok (.ireturn, 1) := by decide +kernel
theorem dX5_undo_0 : decode cX5_undo 0 = .ok (.aload_n 0, 1) := by decide +kernel
theorem dX5_undo_1 : decode cX5_undo 1 = .ok (.aload_n 0, 1) := by decide +kernel
theorem dX5_undo_2 : decode cX5_undo 2 = .ok (.getfield 32, 3) := by decide +kernel
theorem dX5_undo_5 : decode cX5_undo 5 = .ok (.ifCond .le 7, 3) := by decide +kernel
theorem dX5_undo_8 : decode cX5_undo 8 = .ok (.iconst 1, 1) := by decide +kernel
theorem dX5_undo_9 : decode cX5_undo 9 = .ok (.goto 4, 3) := by decide +kernel
theorem dX5_undo_12 : decode cX5_undo 12 = .ok (.iconst 0, 1) := by decide +kernel
theorem dX5_undo_13 : decode cX5_undo 13 = .ok (.iconst 1, 1) := by decide +kernel
theorem dX5_undo_14 : decode cX5_undo 14 = .ok (.iconst 1, 1) := by decide +kernel
theorem dX5_undo_15 : decode cX5_undo 15 = .ok (.invokevirtual 100, 3) := by decide +kernel
theorem dX5_undo_18 : decode cX5_undo 18 = .ok (.ifCond .ne 5, 3) := by decide +kernel
theorem dX5_undo_21 : decode cX5_undo 21 = .ok (.iconst 0, 1) := by decide +kernel
theorem dX5_undo_22 : decode cX5_undo 22 = .ok (.ireturn, 1) := by decide +kernel
theorem dX5_undo_23 : decode cX5_undo 23 = .ok (.aload_n 0, 1) := by decide +kernel
theorem dX5_undo_24 : decode cX5_undo 24 = .ok (.aload_n 0, 1) := by decide +kernel
theorem dX5_undo_25 : decode cX5_undo 25 = .ok (.getfield 32, 3) := by decide +kernel
theorem dX5_undo_28 : decode cX5_undo 28 = .ok (.iconst 0, 1) := by decide +kernel
theorem dX5_undo_29 : decode cX5_undo 29 = .ok (.invokevirtual 35, 3) := by decide +kernel
theorem dX5_undo_32 : decode cX5_undo 32 = .ok (.aload_n 0, 1) := by decide +kernel
theorem dX5_undo_33 : decode cX5_undo 33 = .ok (.dup, 1) := by decide +kernel
theorem dX5_undo_34 : decode cX5_undo 34 = .ok (.getfield 32, 3) := by decide +kernel
theorem dX5_undo_37 : decode cX5_undo 37 = .ok (.iconst 1, 1) := by decide +kernel
theorem dX5_undo_38 : decode cX5_undo 38 = .ok (.isub, 1) := by decide +kernel
theorem dX5_undo_39 : decode cX5_undo 39 = .ok (.putfield 32, 3) := by decide +kernel
theorem dX5_undo_42 : decode cX5_undo 42 = .ok (.aload_n 0, 1) := by decide +kernel
theorem dX5_undo_43 : decode cX5_undo 43 = .ok (.getfield 32, 3) := by decide +kernel
theorem dX5_undo_46 : decode cX5_undo 46 = .ok (.ireturn, 1) := by decide +kernel
theorem dX5_isConnected_0 : decode cX5_isConnected 0 = .ok (.aload_n 0, 1) := by decide +kernel
theorem dX5_isConnected_1 : decode cX5_isConnected 1 = .ok (.iload_n 1, 1) := by decide +kernel
theorem dX5_isConnected_2 : decode cX5_isConnected 2 = .ok (.invokestatic 96, 3) := by decide +kernel
theorem dX5_isConnected_5 : decode cX5_isConnected 5 = .ok (.ifCond .eq 14, 3) := by decide +kernel
theorem dX5_isConnected_8 : decode cX5_isConnected 8 = .ok (.iload_n 2, 1) := by decide +kernel
theorem dX5_isConnected_9 : decode cX5_isConnected 9 = .ok (.invokestatic 96, 3) := by decide +kernel
theorem dX5_isConnected_12 : decode cX5_isConnected 12 = .ok (.ifCond .eq 7, 3) := by decide +kernel
theorem dX5_isConnected_15 : decode cX5_isConnected 15 = .ok (.iconst 1, 1) := by decide +kernel
theorem dX5_isConnected_16 : decode cX5_isConnected 16 = .ok (.goto 4, 3) := by decide +kernel
theorem dX5_isConnected_19 : decode cX5_isConnected 19 = .ok (.iconst 0, 1) := by decide +kernel
theorem dX5_isConnected_20 : decode cX5_isConnected 20 = .ok (.iconst 1, 1) := by decide +kernel
theorem dX5_isConnected_21 : decode cX5_isConnected 21 = .ok (.iconst 1, 1) := by decide +kernel
theorem dX5_isConnected_22 : decode cX5_isConnected 22 = .ok (.invokevirtual 100, 3) := by decide +kernel
theorem dX5_isConnected_25 : decode cX5_isConnected 25 = .ok (.ifCond .eq 17, 3) := by decide +kernel
theorem dX5_isConnected_28 : decode cX5_isConnected 28 = .ok (.aload_n 0, 1) := by decide +kernel
theorem dX5_isConnected_29 : decode cX5_isConnected 29 = .ok (.iconst 0, 1) := by decide +kernel
theorem dX5_isConnected_30 : decode cX5_isConnected 30 = .ok (.iload_n 1, 1) := by decide +kernel
theorem dX5_isConnected_31 : decode cX5_isConnected 31 = .ok (.iload_n 2, 1) := by decide +kernel
theorem dX5_isConnected_32 : decode cX5_isConnected 32 = .ok (.invokevirtual 72, 3) := by decide +kernel
theorem dX5_isConnected_35 : decode cX5_isConnected 35 = .ok (.ifCond .eq 7, 3) := by decide +kernel
theorem dX5_isConnected_38 : decode cX5_isConnected 38 = .ok (.iconst 1, 1) := by decide +kernel
theorem dX5_isConnected_39 : decode cX5_isConnected 39 = .ok (.goto 4, 3) := by decide +kernel
theorem dX5_isConnected_42 : decode cX5_isConnected 42 = .ok (.iconst 0, 1) := by decide +kernel
theorem dX5_isConnected_43 : decode cX5_isConnected 43 = .ok (.ireturn, 1) := by decide +kernel
theorem dX5_parent_0 : decode cX5_parent 0 = .ok (.aload_n 0, 1) := by decide +kernel
theorem dX5_parent_1 : decode cX5_parent 1 = .ok (.iload_n 1, 1) := by decide +kernel
theorem dX5_parent_2 : decode cX5_parent 2 = .ok (.invokestatic 96, 3) := by decide +kernel
theorem dX5_parent_5 : decode cX5_parent 5 = .ok (.iconst 1, 1) := by decide +kernel
theorem dX5_parent_6 : decode cX5_parent 6 = .ok (.iconst 1, 1) := by decide +kernel
theorem dX5_parent_7 : decode cX5_parent 7 = .ok (.invokevirtual 100, 3) := by decide +kernel
theorem dX5_parent_10 : decode cX5_parent 10 = .ok (.ifCond .eq 18, 3) := by decide +kernel
theorem dX5_parent_13 : decode cX5_parent 13 = .ok (.aload_n 0, 1) := by decide +kernel
theorem dX5_parent_14 : decode cX5_parent 14 = .ok (.getfield 7, 3) := by decide +kernel
theorem dX5_parent_17 : decode cX5_parent 17 = .ok (.iconst 0, 1) := by decide +kernel
theorem dX5_parent_18 : decode cX5_parent 18 = .ok (.iload_n 1, 1) := by decide +kernel
theorem dX5_parent_19 : decode cX5_parent 19 = .ok (.invokestatic 20, 3) := by decide +kernel
theorem dX5_parent_22 : decode cX5_parent 22 = .ok (.iconst 1, 1) := by decide +kernel
theorem dX5_parent_23 : decode cX5_parent 23 = .ok (.iadd, 1) := by decide +kernel
theorem dX5_parent_24 : decode cX5_parent 24 = .ok (.iaload, 1) := by decide +kernel
theorem dX5_parent_25 : decode cX5_parent 25 = .ok (.goto 4, 3) := by decide +kernel
theorem dX5_parent_28 : decode cX5_parent 28 = .ok (.iconst 0, 1) := by decide +kernel
theorem dX5_parent_29 : decode cX5_parent 29 = .ok (.ireturn, 1) := by decide +kernel
theorem dX5_depth_0 : decode cX5_depth 0 = .ok (.aload_n 0, 1) := by decide +kernel
theorem dX5_depth_1 : decode cX5_depth 1 = .ok (.iload_n 1, 1) := by decide +kernel
theorem dX5_depth_2 : decode cX5_depth 2 = .ok (.invokestatic 96, 3) := by decide +kernel
theorem dX5_depth_5 : decode cX5_depth 5 = .ok (.iconst 1, 1) := by decide +kernel
theorem dX5_depth_6 : decode cX5_depth 6 = .ok (.iconst 1, 1) := by decide +kernel
theorem dX5_depth_7 : decode cX5_depth 7 = .ok (.invokevirtual 100, 3) := by decide +kernel
theorem dX5_depth_10 : decode cX5_depth 10 = .ok (.ifCond .eq 18, 3) := by decide +kernel
theorem dX5_depth_13 : decode cX5_depth 13 = .ok (.aload_n 0, 1) := by decide +kernel
theorem dX5_depth_14 : decode cX5_depth 14 = .ok (.getfield 7, 3) := by decide +kernel
theorem dX5_depth_17 : decode cX5_depth 17 = .ok (.iconst 0, 1) := by decide +kernel
theorem dX5_depth_18 : decode cX5_depth 18 = .ok (.iload_n 1, 1) := by decide +kernel
theorem dX5_depth_19 : decode cX5_depth 19 = .ok (.invokestatic 20, 3) := by decide +kernel
theorem dX5_depth_22 : decode cX5_depth 22 = .ok (.iconst 2, 1) := by decide +kernel
theorem dX5_depth_23 : decode cX5_depth 23 = .ok (.iadd, 1) := by decide +kernel
theorem dX5_depth_24 : decode cX5_depth 24 = .ok (.iaload, 1) := by decide +kernel
theorem dX5_depth_25 : decode cX5_depth 25 = .ok (.goto 4, 3) := by decide +kernel
theorem dX5_depth_28 : decode cX5_depth 28 = .ok (.iconst 0, 1) := by decide +kernel
theorem dX5_depth_29 : decode cX5_depth 29 = .ok (.ireturn, 1) := by decide +kernel
theorem dX5_clock_0 : decode cX5_clock 0 = .ok (.aload_n 0, 1) := by decide +kernel
theorem dX5_clock_1 : decode cX5_clock 1 = .ok (.iload_n 1, 1) := by decide +kernel
theorem dX5_clock_2 : decode cX5_clock 2 = .ok (.invokestatic 96, 3) := by decide +kernel
theorem dX5_clock_5 : decode cX5_clock 5 = .ok (.iconst 1, 1) := by decide +kernel
theorem dX5_clock_6 : decode cX5_clock 6 = .ok (.iconst 1, 1) := by decide +kernel
theorem dX5_clock_7 : decode cX5_clock 7 = .ok (.invokevirtual 100, 3) := by decide +kernel
theorem dX5_clock_10 : decode cX5_clock 10 = .ok (.ifCond .eq 26, 3) := by decide +kernel
theorem dX5_clock_13 : decode cX5_clock 13 = .ok (.aload_n 0, 1) := by decide +kernel
theorem dX5_clock_14 : decode cX5_clock 14 = .ok (.getfield 7, 3) := by decide +kernel
theorem dX5_clock_17 : decode cX5_clock 17 = .ok (.bipush 12, 2) := by decide +kernel
theorem dX5_clock_19 : decode cX5_clock 19 = .ok (.iaload, 1) := by decide +kernel
theorem dX5_clock_20 : decode cX5_clock 20 = .ok (.aload_n 0, 1) := by decide +kernel
theorem dX5_clock_21 : decode cX5_clock 21 = .ok (.getfield 7, 3) := by decide +kernel
theorem dX5_clock_24 : decode cX5_clock 24 = .ok (.iconst 0, 1) := by decide +kernel
theorem dX5_clock_25 : decode cX5_clock 25 = .ok (.iload_n 1, 1) := by decide +kernel
theorem dX5_clock_26 : decode cX5_clock 26 = .ok (.invokestatic 20, 3) := by decide +kernel
theorem dX5_clock_29 : decode cX5_clock 29 = .ok (.iconst 0, 1) := by decide +kernel
theorem dX5_clock_30 : decode cX5_clock 30 = .ok (.iadd, 1) := by decide +kernel
theorem dX5_clock_31 : decode cX5_clock 31 = .ok (.iaload, 1) := by decide +kernel
theorem dX5_clock_32 : decode cX5_clock 32 = .ok (.iadd, 1) := by decide +kernel
theorem dX5_clock_33 : decode cX5_clock 33 = .ok (.goto 4, 3) := by decide +kernel
theorem dX5_clock_36 : decode cX5_clock 36 = .ok (.iconst 0, 1) := by decide +kernel
theorem dX5_clock_37 : decode cX5_clock 37 = .ok (.ireturn, 1) := by decide +kernel
theorem dX5_silence_0 : decode cX5_silence 0 = .ok (.aload_n 0, 1) := by decide +kernel
theorem dX5_silence_1 : decode cX5_silence 1 = .ok (.iload_n 1, 1) := by decide +kernel
theorem dX5_silence_2 : decode cX5_silence 2 = .ok (.invokestatic 115, 3) := by decide +kernel
theorem dX5_silence_5 : decode cX5_silence 5 = .ok (.iconst 1, 1) := by decide +kernel
theorem dX5_silence_6 : decode cX5_silence 6 = .ok (.iconst 1, 1) := by decide +kernel
theorem dX5_silence_7 : decode cX5_silence 7 = .ok (.invokevirtual 100, 3) := by decide +kernel
theorem dX5_silence_10 : decode cX5_silence 10 = .ok (.ifCond .ne 5, 3) := by decide +kernel
theorem dX5_silence_13 : decode cX5_silence 13 = .ok (.iconst 0, 1) := by decide +kernel
theorem dX5_silence_14 : decode cX5_silence 14 = .ok (.ireturn, 1) := by decide +kernel
theorem dX5_silence_15 : decode cX5_silence 15 = .ok (.aload_n 0, 1) := by decide +kernel
theorem dX5_silence_16 : decode cX5_silence 16 = .ok (.getfield 7, 3) := by decide +kernel
theorem dX5_silence_19 : decode cX5_silence 19 = .ok (.iconst 0, 1) := by decide +kernel
theorem dX5_silence_20 : decode cX5_silence 20 = .ok (.iload_n 1, 1) := by decide +kernel
theorem dX5_silence_21 : decode cX5_silence 21 = .ok (.invokestatic 20, 3) := by decide +kernel
theorem dX5_silence_24 : decode cX5_silence 24 = .ok (.iconst 1, 1) := by decide +kernel
theorem dX5_silence_25 : decode cX5_silence 25 = .ok (.iadd, 1) := by decide +kernel
theorem dX5_silence_26 : decode cX5_silence 26 = .ok (.iaload, 1) := by decide +kernel
theorem dX5_silence_27 : decode cX5_silence 27 = .ok (.iconst (-1), 1) := by decide +kernel
theorem dX5_silence_28 : decode cX5_silence 28 = .ok (.if_icmp .ne 7, 3) := by decide +kernel
theorem dX5_silence_31 : decode cX5_silence 31 = .ok (.iconst (-1), 1) := by decide +kernel
theorem dX5_silence_32 : decode cX5_silence 32 = .ok (.goto 23, 3) := by decide +kernel
theorem dX5_silence_35 : decode cX5_silence 35 = .ok (.aload_n 0, 1) := by decide +kernel
theorem dX5_silence_36 : decode cX5_silence 36 = .ok (.getfield 7, 3) := by decide +kernel
theorem dX5_silence_39 : decode cX5_silence 39 = .ok (.bipush 12, 2) := by decide +kernel
theorem dX5_silence_41 : decode cX5_silence 41 = .ok (.iaload, 1) := by decide +kernel
theorem dX5_silence_42 : decode cX5_silence 42 = .ok (.aload_n 0, 1) := by decide +kernel
theorem dX5_silence_43 : decode cX5_silence 43 = .ok (.getfield 7, 3) := by decide +kernel
theorem dX5_silence_46 : decode cX5_silence 46 = .ok (.iconst 0, 1) := by decide +kernel
theorem dX5_silence_47 : decode cX5_silence 47 = .ok (.iload_n 1, 1) := by decide +kernel
theorem dX5_silence_48 : decode cX5_silence 48 = .ok (.invokestatic 20, 3) := by decide +kernel
theorem dX5_silence_51 : decode cX5_silence 51 = .ok (.iconst 3, 1) := by decide +kernel
theorem dX5_silence_52 : decode cX5_silence 52 = .ok (.iadd, 1) := by decide +kernel
theorem dX5_silence_53 : decode cX5_silence 53 = .ok (.iaload, 1) := by decide +kernel
theorem dX5_silence_54 : decode cX5_silence 54 = .ok (.isub, 1) := by decide +kernel
theorem dX5_silence_55 : decode cX5_silence 55 = .ok (.ireturn, 1) := by decide +kernel
theorem dX5_faults_0 : decode cX5_faults 0 = .ok (.aload_n 0, 1) := by decide +kernel
theorem dX5_faults_1 : decode cX5_faults 1 = .ok (.iload_n 1, 1) := by decide +kernel
theorem dX5_faults_2 : decode cX5_faults 2 = .ok (.invokestatic 115, 3) := by decide +kernel
theorem dX5_faults_5 : decode cX5_faults 5 = .ok (.iconst 1, 1) := by decide +kernel
theorem dX5_faults_6 : decode cX5_faults 6 = .ok (.iconst 1, 1) := by decide +kernel
theorem dX5_faults_7 : decode cX5_faults 7 = .ok (.invokevirtual 100, 3) := by decide +kernel
theorem dX5_faults_10 : decode cX5_faults 10 = .ok (.ifCond .eq 18, 3) := by decide +kernel
theorem dX5_faults_13 : decode cX5_faults 13 = .ok (.aload_n 0, 1) := by decide +kernel
theorem dX5_faults_14 : decode cX5_faults 14 = .ok (.getfield 7, 3) := by decide +kernel
theorem dX5_faults_17 : decode cX5_faults 17 = .ok (.iconst 0, 1) := by decide +kernel
theorem dX5_faults_18 : decode cX5_faults 18 = .ok (.iload_n 1, 1) := by decide +kernel
theorem dX5_faults_19 : decode cX5_faults 19 = .ok (.invokestatic 20, 3) := by decide +kernel
theorem dX5_faults_22 : decode cX5_faults 22 = .ok (.iconst 4, 1) := by decide +kernel
theorem dX5_faults_23 : decode cX5_faults 23 = .ok (.iadd, 1) := by decide +kernel
theorem dX5_faults_24 : decode cX5_faults 24 = .ok (.iaload, 1) := by decide +kernel
theorem dX5_faults_25 : decode cX5_faults 25 = .ok (.goto 4, 3) := by decide +kernel
theorem dX5_faults_28 : decode cX5_faults 28 = .ok (.iconst 0, 1) := by decide +kernel
theorem dX5_faults_29 : decode cX5_faults 29 = .ok (.ireturn, 1) := by decide +kernel
theorem dX5_hops_0 : decode cX5_hops 0 = .ok (.aload_n 0, 1) := by decide +kernel
theorem dX5_hops_1 : decode cX5_hops 1 = .ok (.iload_n 1, 1) := by decide +kernel
theorem dX5_hops_2 : decode cX5_hops 2 = .ok (.invokestatic 96, 3) := by decide +kernel
theorem dX5_hops_5 : decode cX5_hops 5 = .ok (.iconst 1, 1) := by decide +kernel
theorem dX5_hops_6 : decode cX5_hops 6 = .ok (.iconst 1, 1) := by decide +kernel
theorem dX5_hops_7 : decode cX5_hops 7 = .ok (.invokevirtual 100, 3) := by decide +kernel
theorem dX5_hops_10 : decode cX5_hops 10 = .ok (.ifCond .ne 5, 3) := by decide +kernel
theorem dX5_hops_13 : decode cX5_hops 13 = .ok (.iconst 0, 1) := by decide +kernel
theorem dX5_hops_14 : decode cX5_hops 14 = .ok (.ireturn, 1) := by decide +kernel
theorem dX5_hops_15 : decode cX5_hops 15 = .ok (.iconst 0, 1) := by decide +kernel
theorem dX5_hops_16 : decode cX5_hops 16 = .ok (.istore_n 2, 1) := by decide +kernel
theorem dX5_hops_17 : decode cX5_hops 17 = .ok (.iload_n 2, 1) := by decide +kernel
theorem dX5_hops_18 : decode cX5_hops 18 = .ok (.bipush 10, 2) := by decide +kernel
theorem dX5_hops_20 : decode cX5_hops 20 = .ok (.if_icmp .ge 33, 3) := by decide +kernel
theorem dX5_hops_23 : decode cX5_hops 23 = .ok (.aload_n 0, 1) := by decide +kernel
theorem dX5_hops_24 : decode cX5_hops 24 = .ok (.getfield 17, 3) := by decide +kernel
theorem dX5_hops_27 : decode cX5_hops 27 = .ok (.iload_n 2, 1) := by decide +kernel
theorem dX5_hops_28 : decode cX5_hops 28 = .ok (.iload_n 2, 1) := by decide +kernel
theorem dX5_hops_29 : decode cX5_hops 29 = .ok (.ifCond .ne 16, 3) := by decide +kernel
theorem dX5_hops_32 : decode cX5_hops 32 = .ok (.aload_n 0, 1) := by decide +kernel
theorem dX5_hops_33 : decode cX5_hops 33 = .ok (.iconst 0, 1) := by decide +kernel
theorem dX5_hops_34 : decode cX5_hops 34 = .ok (.iconst 0, 1) := by decide +kernel
theorem dX5_hops_35 : decode cX5_hops 35 = .ok (.invokevirtual 39, 3) := by decide +kernel
theorem dX5_hops_38 : decode cX5_hops 38 = .ok (.ifCond .eq 7, 3) := by decide +kernel
theorem dX5_hops_41 : decode cX5_hops 41 = .ok (.iconst 0, 1) := by decide +kernel
theorem dX5_hops_42 : decode cX5_hops 42 = .ok (.goto 4, 3) := by decide +kernel
theorem dX5_hops_45 : decode cX5_hops 45 = .ok (.iconst (-1), 1) := by decide +kernel
theorem dX5_hops_46 : decode cX5_hops 46 = .ok (.iastore, 1) := by decide +kernel
theorem dX5_hops_47 : decode cX5_hops 47 = .ok (.iinc 2 1, 3) := by decide +kernel
theorem dX5_hops_50 : decode cX5_hops 50 = .ok (.goto (-33), 3) := by decide +kernel
theorem dX5_hops_53 : decode cX5_hops 53 = .ok (.iconst 0, 1) := by decide +kernel
theorem dX5_hops_54 : decode cX5_hops 54 = .ok (.istore_n 2, 1) := by decide +kernel
theorem dX5_hops_55 : decode cX5_hops 55 = .ok (.iload_n 2, 1) := by decide +kernel
theorem dX5_hops_56 : decode cX5_hops 56 = .ok (.bipush 10, 2) := by decide +kernel
theorem dX5_hops_58 : decode cX5_hops 58 = .ok (.if_icmp .ge 101, 3) := by decide +kernel
theorem dX5_hops_61 : decode cX5_hops 61 = .ok (.iconst 0, 1) := by decide +kernel
theorem dX5_hops_62 : decode cX5_hops 62 = .ok (.istore_n 3, 1) := by decide +kernel
theorem dX5_hops_63 : decode cX5_hops 63 = .ok (.iload_n 3, 1) := by decide +kernel
theorem dX5_hops_64 : decode cX5_hops 64 = .ok (.bipush 100, 2) := by decide +kernel
theorem dX5_hops_66 : decode cX5_hops 66 = .ok (.if_icmp .ge 87, 3) := by decide +kernel
theorem dX5_hops_69 : decode cX5_hops 69 = .ok (.aload_n 0, 1) := by decide +kernel
theorem dX5_hops_70 : decode cX5_hops 70 = .ok (.getfield 17, 3) := by decide +kernel
theorem dX5_hops_73 : decode cX5_hops 73 = .ok (.iload_n 3, 1) := by decide +kernel
theorem dX5_hops_74 : decode cX5_hops 74 = .ok (.bipush 10, 2) := by decide +kernel
theorem dX5_hops_76 : decode cX5_hops 76 = .ok (.idiv, 1) := by decide +kernel
theorem dX5_hops_77 : decode cX5_hops 77 = .ok (.iaload, 1) := by decide +kernel
theorem dX5_hops_78 : decode cX5_hops 78 = .ok (.iload_n 2, 1) := by decide +kernel
theorem dX5_hops_79 : decode cX5_hops 79 = .ok (.if_icmp .ne 36, 3) := by decide +kernel
theorem dX5_hops_82 : decode cX5_hops 82 = .ok (.aload_n 0, 1) := by decide +kernel
theorem dX5_hops_83 : decode cX5_hops 83 = .ok (.getfield 17, 3) := by decide +kernel
theorem dX5_hops_86 : decode cX5_hops 86 = .ok (.iload_n 3, 1) := by decide +kernel
theorem dX5_hops_87 : decode cX5_hops 87 = .ok (.bipush 10, 2) := by decide +kernel
theorem dX5_hops_89 : decode cX5_hops 89 = .ok (.irem, 1) := by decide +kernel
theorem dX5_hops_90 : decode cX5_hops 90 = .ok (.iaload, 1) := by decide +kernel
theorem dX5_hops_91 : decode cX5_hops 91 = .ok (.iconst (-1), 1) := by decide +kernel
theorem dX5_hops_92 : decode cX5_hops 92 = .ok (.if_icmp .ne 23, 3) := by decide +kernel
theorem dX5_hops_95 : decode cX5_hops 95 = .ok (.aload_n 0, 1) := by decide +kernel
theorem dX5_hops_96 : decode cX5_hops 96 = .ok (.iconst 0, 1) := by decide +kernel
theorem dX5_hops_97 : decode cX5_hops 97 = .ok (.iload_n 3, 1) := by decide +kernel
theorem dX5_hops_98 : decode cX5_hops 98 = .ok (.bipush 10, 2) := by decide +kernel
theorem dX5_hops_100 : decode cX5_hops 100 = .ok (.idiv, 1) := by decide +kernel
theorem dX5_hops_101 : decode cX5_hops 101 = .ok (.iload_n 3, 1) := by decide +kernel
theorem dX5_hops_102 : decode cX5_hops 102 = .ok (.bipush 10, 2) := by decide +kernel
theorem dX5_hops_104 : decode cX5_hops 104 = .ok (.irem, 1) := by decide +kernel
theorem dX5_hops_105 : decode cX5_hops 105 = .ok (.invokevirtual 72, 3) := by decide +kernel
theorem dX5_hops_108 : decode cX5_hops 108 = .ok (.ifCond .eq 7, 3) := by decide +kernel
theorem dX5_hops_111 : decode cX5_hops 111 = .ok (.iconst 1, 1) := by decide +kernel
theorem dX5_hops_112 : decode cX5_hops 112 = .ok (.goto 4, 3) := by decide +kernel
theorem dX5_hops_115 : decode cX5_hops 115 = .ok (.iconst 0, 1) := by decide +kernel
theorem dX5_hops_116 : decode cX5_hops 116 = .ok (.istore 4, 2) := by decide +kernel
theorem dX5_hops_118 : decode cX5_hops 118 = .ok (.aload_n 0, 1) := by decide +kernel
theorem dX5_hops_119 : decode cX5_hops 119 = .ok (.getfield 17, 3) := by decide +kernel
theorem dX5_hops_122 : decode cX5_hops 122 = .ok (.iload_n 3, 1) := by decide +kernel
theorem dX5_hops_123 : decode cX5_hops 123 = .ok (.bipush 10, 2) := by decide +kernel
theorem dX5_hops_125 : decode cX5_hops 125 = .ok (.irem, 1) := by decide +kernel
theorem dX5_hops_126 : decode cX5_hops 126 = .ok (.iload 4, 2) := by decide +kernel
theorem dX5_hops_128 : decode cX5_hops 128 = .ok (.ifCond .eq 9, 3) := by decide +kernel
theorem dX5_hops_131 : decode cX5_hops 131 = .ok (.iload_n 2, 1) := by decide +kernel
theorem dX5_hops_132 : decode cX5_hops 132 = .ok (.iconst 1, 1) := by decide +kernel
theorem dX5_hops_133 : decode cX5_hops 133 = .ok (.iadd, 1) := by decide +kernel
theorem dX5_hops_134 : decode cX5_hops 134 = .ok (.goto 12, 3) := by decide +kernel
theorem dX5_hops_137 : decode cX5_hops 137 = .ok (.aload_n 0, 1) := by decide +kernel
theorem dX5_hops_138 : decode cX5_hops 138 = .ok (.getfield 17, 3) := by decide +kernel
theorem dX5_hops_141 : decode cX5_hops 141 = .ok (.iload_n 3, 1) := by decide +kernel
theorem dX5_hops_142 : decode cX5_hops 142 = .ok (.bipush 10, 2) := by decide +kernel
theorem dX5_hops_144 : decode cX5_hops 144 = .ok (.irem, 1) := by decide +kernel
theorem dX5_hops_145 : decode cX5_hops 145 = .ok (.iaload, 1) := by decide +kernel
theorem dX5_hops_146 : decode cX5_hops 146 = .ok (.iastore, 1) := by decide +kernel
theorem dX5_hops_147 : decode cX5_hops 147 = .ok (.iinc 3 1, 3) := by decide +kernel
theorem dX5_hops_150 : decode cX5_hops 150 = .ok (.goto (-87), 3) := by decide +kernel
theorem dX5_hops_153 : decode cX5_hops 153 = .ok (.iinc 2 1, 3) := by decide +kernel
theorem dX5_hops_156 : decode cX5_hops 156 = .ok (.goto (-101), 3) := by decide +kernel
theorem dX5_hops_159 : decode cX5_hops 159 = .ok (.aload_n 0, 1) := by decide +kernel
theorem dX5_hops_160 : decode cX5_hops 160 = .ok (.getfield 17, 3) := by decide +kernel
theorem dX5_hops_163 : decode cX5_hops 163 = .ok (.iload_n 1, 1) := by decide +kernel
theorem dX5_hops_164 : decode cX5_hops 164 = .ok (.iaload, 1) := by decide +kernel
theorem dX5_hops_165 : decode cX5_hops 165 = .ok (.ireturn, 1) := by decide +kernel
theorem dX5_stored_0 : decode cX5_stored 0 = .ok (.aload_n 0, 1) := by decide +kernel
theorem dX5_stored_1 : decode cX5_stored 1 = .ok (.iload_n 1, 1) := by decide +kernel
theorem dX5_stored_2 : decode cX5_stored 2 = .ok (.invokestatic 115, 3) := by decide +kernel
theorem dX5_stored_5 : decode cX5_stored 5 = .ok (.iconst 1, 1) := by decide +kernel
theorem dX5_stored_6 : decode cX5_stored 6 = .ok (.iconst 1, 1) := by decide +kernel
theorem dX5_stored_7 : decode cX5_stored 7 = .ok (.invokevirtual 100, 3) := by decide +kernel
theorem dX5_stored_10 : decode cX5_stored 10 = .ok (.ifCond .eq 19, 3) := by decide +kernel
theorem dX5_stored_13 : decode cX5_stored 13 = .ok (.aload_n 0, 1) := by decide +kernel
theorem dX5_stored_14 : decode cX5_stored 14 = .ok (.getfield 7, 3) := by decide +kernel
theorem dX5_stored_17 : decode cX5_stored 17 = .ok (.iconst 0, 1) := by decide +kernel
theorem dX5_stored_18 : decode cX5_stored 18 = .ok (.iload_n 1, 1) := by decide +kernel
theorem dX5_stored_19 : decode cX5_stored 19 = .ok (.invokestatic 20, 3) := by decide +kernel
theorem dX5_stored_22 : decode cX5_stored 22 = .ok (.bipush 6, 2) := by decide +kernel
theorem dX5_stored_24 : decode cX5_stored 24 = .ok (.iadd, 1) := by decide +kernel
theorem dX5_stored_25 : decode cX5_stored 25 = .ok (.iaload, 1) := by decide +kernel
theorem dX5_stored_26 : decode cX5_stored 26 = .ok (.goto 4, 3) := by decide +kernel
theorem dX5_stored_29 : decode cX5_stored 29 = .ok (.iconst 0, 1) := by decide +kernel
theorem dX5_stored_30 : decode cX5_stored 30 = .ok (.ireturn, 1) := by decide +kernel
theorem dX5_storedReading_0 : decode cX5_storedReading 0 = .ok (.aload_n 0, 1) := by decide +kernel
theorem dX5_storedReading_1 : decode cX5_storedReading 1 = .ok (.iload_n 1, 1) := by decide +kernel
theorem dX5_storedReading_2 : decode cX5_storedReading 2 = .ok (.invokestatic 115, 3) := by decide +kernel
theorem dX5_storedReading_5 : decode cX5_storedReading 5 = .ok (.ifCond .eq 11, 3) := by decide +kernel
theorem dX5_storedReading_8 : decode cX5_storedReading 8 = .ok (.iload_n 2, 1) := by decide +kernel
theorem dX5_storedReading_9 : decode cX5_storedReading 9 = .ok (.ifCond .lt 7, 3) := by decide +kernel
theorem dX5_storedReading_12 : decode cX5_storedReading 12 = .ok (.iconst 1, 1) := by decide +kernel
theorem dX5_storedReading_13 : decode cX5_storedReading 13 = .ok (.goto 4, 3) := by decide +kernel
theorem dX5_storedReading_16 : decode cX5_storedReading 16 = .ok (.iconst 0, 1) := by decide +kernel
theorem dX5_storedReading_17 : decode cX5_storedReading 17 = .ok (.iload_n 3, 1) := by decide +kernel
theorem dX5_storedReading_18 : decode cX5_storedReading 18 = .ok (.iconst 0, 1) := by decide +kernel
theorem dX5_storedReading_19 : decode cX5_storedReading 19 = .ok (.iconst 4, 1) := by decide +kernel
theorem dX5_storedReading_20 : decode cX5_storedReading 20 = .ok (.invokestatic 28, 3) := by decide +kernel
theorem dX5_storedReading_23 : decode cX5_storedReading 23 = .ok (.iconst 1, 1) := by decide +kernel
theorem dX5_storedReading_24 : decode cX5_storedReading 24 = .ok (.invokevirtual 100, 3) := by decide +kernel
theorem dX5_storedReading_27 : decode cX5_storedReading 27 = .ok (.ifCond .ne 5, 3) := by decide +kernel
theorem dX5_storedReading_30 : decode cX5_storedReading 30 = .ok (.iconst 0, 1) := by decide +kernel
theorem dX5_storedReading_31 : decode cX5_storedReading 31 = .ok (.ireturn, 1) := by decide +kernel
theorem dX5_storedReading_32 : decode cX5_storedReading 32 = .ok (.iload_n 2, 1) := by decide +kernel
theorem dX5_storedReading_33 : decode cX5_storedReading 33 = .ok (.aload_n 0, 1) := by decide +kernel
theorem dX5_storedReading_34 : decode cX5_storedReading 34 = .ok (.getfield 7, 3) := by decide +kernel
theorem dX5_storedReading_37 : decode cX5_storedReading 37 = .ok (.iconst 0, 1) := by decide +kernel
theorem dX5_storedReading_38 : decode cX5_storedReading 38 = .ok (.iload_n 1, 1) := by decide +kernel
theorem dX5_storedReading_39 : decode cX5_storedReading 39 = .ok (.invokestatic 20, 3) := by decide +kernel
theorem dX5_storedReading_42 : decode cX5_storedReading 42 = .ok (.bipush 6, 2) := by decide +kernel
theorem dX5_storedReading_44 : decode cX5_storedReading 44 = .ok (.iadd, 1) := by decide +kernel
theorem dX5_storedReading_45 : decode cX5_storedReading 45 = .ok (.iaload, 1) := by decide +kernel
theorem dX5_storedReading_46 : decode cX5_storedReading 46 = .ok (.if_icmp .ge 19, 3) := by decide +kernel
theorem dX5_storedReading_49 : decode cX5_storedReading 49 = .ok (.aload_n 0, 1) := by decide +kernel
theorem dX5_storedReading_50 : decode cX5_storedReading 50 = .ok (.getfield 7, 3) := by decide +kernel
theorem dX5_storedReading_53 : decode cX5_storedReading 53 = .ok (.iconst 0, 1) := by decide +kernel
theorem dX5_storedReading_54 : decode cX5_storedReading 54 = .ok (.iload_n 1, 1) := by decide +kernel
theorem dX5_storedReading_55 : decode cX5_storedReading 55 = .ok (.iload_n 2, 1) := by decide +kernel
theorem dX5_storedReading_56 : decode cX5_storedReading 56 = .ok (.invokestatic 43, 3) := by decide +kernel
theorem dX5_storedReading_59 : decode cX5_storedReading 59 = .ok (.iload_n 3, 1) := by decide +kernel
theorem dX5_storedReading_60 : decode cX5_storedReading 60 = .ok (.iadd, 1) := by decide +kernel
theorem dX5_storedReading_61 : decode cX5_storedReading 61 = .ok (.iaload, 1) := by decide +kernel
theorem dX5_storedReading_62 : decode cX5_storedReading 62 = .ok (.goto 4, 3) := by decide +kernel
theorem dX5_storedReading_65 : decode cX5_storedReading 65 = .ok (.iconst (-1), 1) := by decide +kernel
theorem dX5_storedReading_66 : decode cX5_storedReading 66 = .ok (.ireturn, 1) := by decide +kernel
theorem dX5_collected_0 : decode cX5_collected 0 = .ok (.aload_n 0, 1) := by decide +kernel
theorem dX5_collected_1 : decode cX5_collected 1 = .ok (.iconst 0, 1) := by decide +kernel
theorem dX5_collected_2 : decode cX5_collected 2 = .ok (.putfield 24, 3) := by decide +kernel
theorem dX5_collected_5 : decode cX5_collected 5 = .ok (.aload_n 0, 1) := by decide +kernel
theorem dX5_collected_6 : decode cX5_collected 6 = .ok (.getfield 7, 3) := by decide +kernel
theorem dX5_collected_9 : decode cX5_collected 9 = .ok (.bipush 19, 2) := by decide +kernel
theorem dX5_collected_11 : decode cX5_collected 11 = .ok (.iaload, 1) := by decide +kernel
theorem dX5_collected_12 : decode cX5_collected 12 = .ok (.ireturn, 1) := by decide +kernel
theorem dX5_collectedReading_0 : decode cX5_collectedReading 0 = .ok (.aload_n 0, 1) := by decide +kernel
theorem dX5_collectedReading_1 : decode cX5_collectedReading 1 = .ok (.iload_n 1, 1) := by decide +kernel
theorem dX5_collectedReading_2 : decode cX5_collectedReading 2 = .ok (.ifCond .lt 7, 3) := by decide +kernel
theorem dX5_collectedReading_5 : decode cX5_collectedReading 5 = .ok (.iconst 1, 1) := by decide +kernel
theorem dX5_collectedReading_6 : decode cX5_collectedReading 6 = .ok (.goto 4, 3) := by decide +kernel
theorem dX5_collectedReading_9 : decode cX5_collectedReading 9 = .ok (.iconst 0, 1) := by decide +kernel
theorem dX5_collectedReading_10 : decode cX5_collectedReading 10 = .ok (.iload_n 2, 1) := by decide +kernel
theorem dX5_collectedReading_11 : decode cX5_collectedReading 11 = .ok (.iconst 0, 1) := by decide +kernel
theorem dX5_collectedReading_12 : decode cX5_collectedReading 12 = .ok (.iconst 4, 1) := by decide +kernel
theorem dX5_collectedReading_13 : decode cX5_collectedReading 13 = .ok (.invokestatic 28, 3) := by decide +kernel
theorem dX5_collectedReading_16 : decode cX5_collectedReading 16 = .ok (.iconst 1, 1) := by decide +kernel
theorem dX5_collectedReading_17 : decode cX5_collectedReading 17 = .ok (.invokevirtual 100, 3) := by decide +kernel
theorem dX5_collectedReading_20 : decode cX5_collectedReading 20 = .ok (.ifCond .ne 5, 3) := by decide +kernel
theorem dX5_collectedReading_23 : decode cX5_collectedReading 23 = .ok (.iconst 0, 1) := by decide +kernel
theorem dX5_collectedReading_24 : decode cX5_collectedReading 24 = .ok (.ireturn, 1) := by decide +kernel
theorem dX5_collectedReading_25 : decode cX5_collectedReading 25 = .ok (.iload_n 1, 1) := by decide +kernel
theorem dX5_collectedReading_26 : decode cX5_collectedReading 26 = .ok (.aload_n 0, 1) := by decide +kernel
theorem dX5_collectedReading_27 : decode cX5_collectedReading 27 = .ok (.getfield 7, 3) := by decide +kernel
theorem dX5_collectedReading_30 : decode cX5_collectedReading 30 = .ok (.bipush 19, 2) := by decide +kernel
theorem dX5_collectedReading_32 : decode cX5_collectedReading 32 = .ok (.iaload, 1) := by decide +kernel
theorem dX5_collectedReading_33 : decode cX5_collectedReading 33 = .ok (.if_icmp .ge 18, 3) := by decide +kernel
theorem dX5_collectedReading_36 : decode cX5_collectedReading 36 = .ok (.aload_n 0, 1) := by decide +kernel
theorem dX5_collectedReading_37 : decode cX5_collectedReading 37 = .ok (.getfield 7, 3) := by decide +kernel
theorem dX5_collectedReading_40 : decode cX5_collectedReading 40 = .ok (.iconst 0, 1) := by decide +kernel
theorem dX5_collectedReading_41 : decode cX5_collectedReading 41 = .ok (.iload_n 1, 1) := by decide +kernel
theorem dX5_collectedReading_42 : decode cX5_collectedReading 42 = .ok (.invokestatic 57, 3) := by decide +kernel
theorem dX5_collectedReading_45 : decode cX5_collectedReading 45 = .ok (.iload_n 2, 1) := by decide +kernel
theorem dX5_collectedReading_46 : decode cX5_collectedReading 46 = .ok (.iadd, 1) := by decide +kernel
theorem dX5_collectedReading_47 : decode cX5_collectedReading 47 = .ok (.iaload, 1) := by decide +kernel
theorem dX5_collectedReading_48 : decode cX5_collectedReading 48 = .ok (.goto 4, 3) := by decide +kernel
theorem dX5_collectedReading_51 : decode cX5_collectedReading 51 = .ok (.iconst (-1), 1) := by decide +kernel
theorem dX5_collectedReading_52 : decode cX5_collectedReading 52 = .ok (.ireturn, 1) := by decide +kernel
theorem dX5_copies_0 : decode cX5_copies 0 = .ok (.aload_n 0, 1) := by decide +kernel
theorem dX5_copies_1 : decode cX5_copies 1 = .ok (.iload_n 1, 1) := by decide +kernel
theorem dX5_copies_2 : decode cX5_copies 2 = .ok (.invokestatic 115, 3) := by decide +kernel
theorem dX5_copies_5 : decode cX5_copies 5 = .ok (.iconst 1, 1) := by decide +kernel
theorem dX5_copies_6 : decode cX5_copies 6 = .ok (.iconst 1, 1) := by decide +kernel
theorem dX5_copies_7 : decode cX5_copies 7 = .ok (.invokevirtual 100, 3) := by decide +kernel
theorem dX5_copies_10 : decode cX5_copies 10 = .ok (.ifCond .ne 5, 3) := by decide +kernel
theorem dX5_copies_13 : decode cX5_copies 13 = .ok (.iconst 0, 1) := by decide +kernel
theorem dX5_copies_14 : decode cX5_copies 14 = .ok (.ireturn, 1) := by decide +kernel
theorem dX5_copies_15 : decode cX5_copies 15 = .ok (.iload_n 2, 1) := by decide +kernel
theorem dX5_copies_16 : decode cX5_copies 16 = .ok (.iconst 0, 1) := by decide +kernel
theorem dX5_copies_17 : decode cX5_copies 17 = .ok (.aload_n 0, 1) := by decide +kernel
theorem dX5_copies_18 : decode cX5_copies 18 = .ok (.getfield 7, 3) := by decide +kernel
theorem dX5_copies_21 : decode cX5_copies 21 = .ok (.iconst 0, 1) := by decide +kernel
theorem dX5_copies_22 : decode cX5_copies 22 = .ok (.iload_n 1, 1) := by decide +kernel
theorem dX5_copies_23 : decode cX5_copies 23 = .ok (.invokestatic 20, 3) := by decide +kernel
theorem dX5_copies_26 : decode cX5_copies 26 = .ok (.iconst 5, 1) := by decide +kernel
theorem dX5_copies_27 : decode cX5_copies 27 = .ok (.iadd, 1) := by decide +kernel
theorem dX5_copies_28 : decode cX5_copies 28 = .ok (.iaload, 1) := by decide +kernel
theorem dX5_copies_29 : decode cX5_copies 29 = .ok (.iconst 1, 1) := by decide +kernel
theorem dX5_copies_30 : decode cX5_copies 30 = .ok (.isub, 1) := by decide +kernel
theorem dX5_copies_31 : decode cX5_copies 31 = .ok (.invokestatic 28, 3) := by decide +kernel
theorem dX5_copies_34 : decode cX5_copies 34 = .ok (.ifCond .ne 5, 3) := by decide +kernel
theorem dX5_copies_37 : decode cX5_copies 37 = .ok (.iconst (-1), 1) := by decide +kernel
theorem dX5_copies_38 : decode cX5_copies 38 = .ok (.ireturn, 1) := by decide +kernel
theorem dX5_copies_39 : decode cX5_copies 39 = .ok (.iconst 0, 1) := by decide +kernel
theorem dX5_copies_40 : decode cX5_copies 40 = .ok (.istore_n 3, 1) := by decide +kernel
theorem dX5_copies_41 : decode cX5_copies 41 = .ok (.iconst 1, 1) := by decide +kernel
theorem dX5_copies_42 : decode cX5_copies 42 = .ok (.istore 4, 2) := by decide +kernel
theorem dX5_copies_44 : decode cX5_copies 44 = .ok (.iload 4, 2) := by decide +kernel
theorem dX5_copies_46 : decode cX5_copies 46 = .ok (.bipush 10, 2) := by decide +kernel
theorem dX5_copies_48 : decode cX5_copies 48 = .ok (.if_icmp .ge 79, 3) := by decide +kernel
theorem dX5_copies_51 : decode cX5_copies 51 = .ok (.iconst 0, 1) := by decide +kernel
theorem dX5_copies_52 : decode cX5_copies 52 = .ok (.istore 5, 2) := by decide +kernel
theorem dX5_copies_54 : decode cX5_copies 54 = .ok (.iload 5, 2) := by decide +kernel
theorem dX5_copies_56 : decode cX5_copies 56 = .ok (.aload_n 0, 1) := by decide +kernel
theorem dX5_copies_57 : decode cX5_copies 57 = .ok (.getfield 7, 3) := by decide +kernel
theorem dX5_copies_60 : decode cX5_copies 60 = .ok (.iconst 0, 1) := by decide +kernel
theorem dX5_copies_61 : decode cX5_copies 61 = .ok (.iload 4, 2) := by decide +kernel
theorem dX5_copies_63 : decode cX5_copies 63 = .ok (.invokestatic 20, 3) := by decide +kernel
theorem dX5_copies_66 : decode cX5_copies 66 = .ok (.bipush 6, 2) := by decide +kernel
theorem dX5_copies_68 : decode cX5_copies 68 = .ok (.iadd, 1) := by decide +kernel
theorem dX5_copies_69 : decode cX5_copies 69 = .ok (.iaload, 1) := by decide +kernel
theorem dX5_copies_70 : decode cX5_copies 70 = .ok (.if_icmp .ge 51, 3) := by decide +kernel
theorem dX5_copies_73 : decode cX5_copies 73 = .ok (.iconst 0, 1) := by decide +kernel
theorem dX5_copies_74 : decode cX5_copies 74 = .ok (.iload 4, 2) := by decide +kernel
theorem dX5_copies_76 : decode cX5_copies 76 = .ok (.iload 5, 2) := by decide +kernel
theorem dX5_copies_78 : decode cX5_copies 78 = .ok (.invokestatic 43, 3) := by decide +kernel
theorem dX5_copies_81 : decode cX5_copies 81 = .ok (.istore 6, 2) := by decide +kernel
theorem dX5_copies_83 : decode cX5_copies 83 = .ok (.iload_n 3, 1) := by decide +kernel
theorem dX5_copies_84 : decode cX5_copies 84 = .ok (.aload_n 0, 1) := by decide +kernel
theorem dX5_copies_85 : decode cX5_copies 85 = .ok (.getfield 7, 3) := by decide +kernel
theorem dX5_copies_88 : decode cX5_copies 88 = .ok (.iload 6, 2) := by decide +kernel
theorem dX5_copies_90 : decode cX5_copies 90 = .ok (.iaload, 1) := by decide +kernel
theorem dX5_copies_91 : decode cX5_copies 91 = .ok (.iload_n 1, 1) := by decide +kernel
theorem dX5_copies_92 : decode cX5_copies 92 = .ok (.if_icmp .ne 20, 3) := by decide +kernel
theorem dX5_copies_95 : decode cX5_copies 95 = .ok (.aload_n 0, 1) := by decide +kernel
theorem dX5_copies_96 : decode cX5_copies 96 = .ok (.getfield 7, 3) := by decide +kernel
theorem dX5_copies_99 : decode cX5_copies 99 = .ok (.iload 6, 2) := by decide +kernel
theorem dX5_copies_101 : decode cX5_copies 101 = .ok (.iconst 1, 1) := by decide +kernel
theorem dX5_copies_102 : decode cX5_copies 102 = .ok (.iadd, 1) := by decide +kernel
theorem dX5_copies_103 : decode cX5_copies 103 = .ok (.iaload, 1) := by decide +kernel
theorem dX5_copies_104 : decode cX5_copies 104 = .ok (.iload_n 2, 1) := by decide +kernel
theorem dX5_copies_105 : decode cX5_copies 105 = .ok (.if_icmp .ne 7, 3) := by decide +kernel
theorem dX5_copies_108 : decode cX5_copies 108 = .ok (.iconst 1, 1) := by decide +kernel
theorem dX5_copies_109 : decode cX5_copies 109 = .ok (.goto 4, 3) := by decide +kernel
theorem dX5_copies_112 : decode cX5_copies 112 = .ok (.iconst 0, 1) := by decide +kernel
theorem dX5_copies_113 : decode cX5_copies 113 = .ok (.iadd, 1) := by decide +kernel
theorem dX5_copies_114 : decode cX5_copies 114 = .ok (.istore_n 3, 1) := by decide +kernel
theorem dX5_copies_115 : decode cX5_copies 115 = .ok (.iinc 5 1, 3) := by decide +kernel
theorem dX5_copies_118 : decode cX5_copies 118 = .ok (.goto (-64), 3) := by decide +kernel
theorem dX5_copies_121 : decode cX5_copies 121 = .ok (.iinc 4 1, 3) := by decide +kernel
theorem dX5_copies_124 : decode cX5_copies 124 = .ok (.goto (-80), 3) := by decide +kernel
theorem dX5_copies_127 : decode cX5_copies 127 = .ok (.iload_n 3, 1) := by decide +kernel
theorem dX5_copies_128 : decode cX5_copies 128 = .ok (.ireturn, 1) := by decide +kernel
theorem dX5_missing_0 : decode cX5_missing 0 = .ok (.aload_n 0, 1) := by decide +kernel
theorem dX5_missing_1 : decode cX5_missing 1 = .ok (.iconst 0, 1) := by decide +kernel
theorem dX5_missing_2 : decode cX5_missing 2 = .ok (.putfield 24, 3) := by decide +kernel
theorem dX5_missing_5 : decode cX5_missing 5 = .ok (.aload_n 0, 1) := by decide +kernel
theorem dX5_missing_6 : decode cX5_missing 6 = .ok (.getfield 7, 3) := by decide +kernel
theorem dX5_missing_9 : decode cX5_missing 9 = .ok (.bipush 13, 2) := by decide +kernel
theorem dX5_missing_11 : decode cX5_missing 11 = .ok (.iaload, 1) := by decide +kernel
theorem dX5_missing_12 : decode cX5_missing 12 = .ok (.aload_n 0, 1) := by decide +kernel
theorem dX5_missing_13 : decode cX5_missing 13 = .ok (.getfield 7, 3) := by decide +kernel
theorem dX5_missing_16 : decode cX5_missing 16 = .ok (.bipush 19, 2) := by decide +kernel
theorem dX5_missing_18 : decode cX5_missing 18 = .ok (.iaload, 1) := by decide +kernel
theorem dX5_missing_19 : decode cX5_missing 19 = .ok (.isub, 1) := by decide +kernel
theorem dX5_missing_20 : decode cX5_missing 20 = .ok (.ireturn, 1) := by decide +kernel
theorem dX5_wrongStamps_0 : decode cX5_wrongStamps 0 = .ok (.aload_n 0, 1) := by decide +kernel
theorem dX5_wrongStamps_1 : decode cX5_wrongStamps 1 = .ok (.iconst 0, 1) := by decide +kernel
theorem dX5_wrongStamps_2 : decode cX5_wrongStamps 2 = .ok (.putfield 24, 3) := by decide +kernel
theorem dX5_wrongStamps_5 : decode cX5_wrongStamps 5 = .ok (.iconst 0, 1) := by decide +kernel
theorem dX5_wrongStamps_6 : decode cX5_wrongStamps 6 = .ok (.istore_n 1, 1) := by decide +kernel
theorem dX5_wrongStamps_7 : decode cX5_wrongStamps 7 = .ok (.iconst 0, 1) := by decide +kernel
theorem dX5_wrongStamps_8 : decode cX5_wrongStamps 8 = .ok (.istore_n 2, 1) := by decide +kernel
theorem dX5_wrongStamps_9 : decode cX5_wrongStamps 9 = .ok (.iload_n 2, 1) := by decide +kernel
theorem dX5_wrongStamps_10 : decode cX5_wrongStamps 10 = .ok (.aload_n 0, 1) := by decide +kernel
theorem dX5_wrongStamps_11 : decode cX5_wrongStamps 11 = .ok (.getfield 7, 3) := by decide +kernel
theorem dX5_wrongStamps_14 : decode cX5_wrongStamps 14 = .ok (.bipush 19, 2) := by decide +kernel
theorem dX5_wrongStamps_16 : decode cX5_wrongStamps 16 = .ok (.iaload, 1) := by decide +kernel
theorem dX5_wrongStamps_17 : decode cX5_wrongStamps 17 = .ok (.if_icmp .ge 44, 3) := by decide +kernel
theorem dX5_wrongStamps_20 : decode cX5_wrongStamps 20 = .ok (.iload_n 1, 1) := by decide +kernel
theorem dX5_wrongStamps_21 : decode cX5_wrongStamps 21 = .ok (.aload_n 0, 1) := by decide +kernel
theorem dX5_wrongStamps_22 : decode cX5_wrongStamps 22 = .ok (.getfield 7, 3) := by decide +kernel
theorem dX5_wrongStamps_25 : decode cX5_wrongStamps 25 = .ok (.iconst 0, 1) := by decide +kernel
theorem dX5_wrongStamps_26 : decode cX5_wrongStamps 26 = .ok (.iload_n 2, 1) := by decide +kernel
theorem dX5_wrongStamps_27 : decode cX5_wrongStamps 27 = .ok (.invokestatic 57, 3) := by decide +kernel
theorem dX5_wrongStamps_30 : decode cX5_wrongStamps 30 = .ok (.iconst 4, 1) := by decide +kernel
theorem dX5_wrongStamps_31 : decode cX5_wrongStamps 31 = .ok (.iadd, 1) := by decide +kernel
theorem dX5_wrongStamps_32 : decode cX5_wrongStamps 32 = .ok (.iaload, 1) := by decide +kernel
theorem dX5_wrongStamps_33 : decode cX5_wrongStamps 33 = .ok (.aload_n 0, 1) := by decide +kernel
theorem dX5_wrongStamps_34 : decode cX5_wrongStamps 34 = .ok (.getfield 7, 3) := by decide +kernel
theorem dX5_wrongStamps_37 : decode cX5_wrongStamps 37 = .ok (.iconst 0, 1) := by decide +kernel
theorem dX5_wrongStamps_38 : decode cX5_wrongStamps 38 = .ok (.iload_n 2, 1) := by decide +kernel
theorem dX5_wrongStamps_39 : decode cX5_wrongStamps 39 = .ok (.invokestatic 57, 3) := by decide +kernel
theorem dX5_wrongStamps_42 : decode cX5_wrongStamps 42 = .ok (.iconst 3, 1) := by decide +kernel
theorem dX5_wrongStamps_43 : decode cX5_wrongStamps 43 = .ok (.iadd, 1) := by decide +kernel
theorem dX5_wrongStamps_44 : decode cX5_wrongStamps 44 = .ok (.iaload, 1) := by decide +kernel
theorem dX5_wrongStamps_45 : decode cX5_wrongStamps 45 = .ok (.if_icmp .eq 7, 3) := by decide +kernel
theorem dX5_wrongStamps_48 : decode cX5_wrongStamps 48 = .ok (.iconst 1, 1) := by decide +kernel
theorem dX5_wrongStamps_49 : decode cX5_wrongStamps 49 = .ok (.goto 4, 3) := by decide +kernel
theorem dX5_wrongStamps_52 : decode cX5_wrongStamps 52 = .ok (.iconst 0, 1) := by decide +kernel
theorem dX5_wrongStamps_53 : decode cX5_wrongStamps 53 = .ok (.iadd, 1) := by decide +kernel
theorem dX5_wrongStamps_54 : decode cX5_wrongStamps 54 = .ok (.istore_n 1, 1) := by decide +kernel
theorem dX5_wrongStamps_55 : decode cX5_wrongStamps 55 = .ok (.iinc 2 1, 3) := by decide +kernel
theorem dX5_wrongStamps_58 : decode cX5_wrongStamps 58 = .ok (.goto (-49), 3) := by decide +kernel
theorem dX5_wrongStamps_61 : decode cX5_wrongStamps 61 = .ok (.iload_n 1, 1) := by decide +kernel
theorem dX5_wrongStamps_62 : decode cX5_wrongStamps 62 = .ok (.ireturn, 1) := by decide +kernel
theorem dX5_slotsToCollect_0 : decode cX5_slotsToCollect 0 = .ok (.aload_n 0, 1) := by decide +kernel
theorem dX5_slotsToCollect_1 : decode cX5_slotsToCollect 1 = .ok (.iconst 0, 1) := by decide +kernel
theorem dX5_slotsToCollect_2 : decode cX5_slotsToCollect 2 = .ok (.putfield 24, 3) := by decide +kernel
theorem dX5_slotsToCollect_5 : decode cX5_slotsToCollect 5 = .ok (.aload_n 0, 1) := by decide +kernel
theorem dX5_slotsToCollect_6 : decode cX5_slotsToCollect 6 = .ok (.iconst 0, 1) := by decide +kernel
theorem dX5_slotsToCollect_7 : decode cX5_slotsToCollect 7 = .ok (.bipush 7, 2) := by decide +kernel
theorem dX5_slotsToCollect_9 : decode cX5_slotsToCollect 9 = .ok (.invokevirtual 35, 3) := by decide +kernel
theorem dX5_slotsToCollect_12 : decode cX5_slotsToCollect 12 = .ok (.sipush 4830, 3) := by decide +kernel
theorem dX5_slotsToCollect_15 : decode cX5_slotsToCollect 15 = .ok (.istore_n 1, 1) := by decide +kernel
theorem dX5_slotsToCollect_16 : decode cX5_slotsToCollect 16 = .ok (.iconst 0, 1) := by decide +kernel
theorem dX5_slotsToCollect_17 : decode cX5_slotsToCollect 17 = .ok (.istore_n 2, 1) := by decide +kernel
theorem dX5_slotsToCollect_18 : decode cX5_slotsToCollect 18 = .ok (.iload_n 2, 1) := by decide +kernel
theorem dX5_slotsToCollect_19 : decode cX5_slotsToCollect 19 = .ok (.sipush 400, 3) := by decide +kernel
theorem dX5_slotsToCollect_22 : decode cX5_slotsToCollect 22 = .ok (.if_icmp .gt 37, 3) := by decide +kernel
theorem dX5_slotsToCollect_25 : decode cX5_slotsToCollect 25 = .ok (.aload_n 0, 1) := by decide +kernel
theorem dX5_slotsToCollect_26 : decode cX5_slotsToCollect 26 = .ok (.getfield 7, 3) := by decide +kernel
theorem dX5_slotsToCollect_29 : decode cX5_slotsToCollect 29 = .ok (.iload_n 1, 1) := by decide +kernel
theorem dX5_slotsToCollect_30 : decode cX5_slotsToCollect 30 = .ok (.bipush 13, 2) := by decide +kernel
theorem dX5_slotsToCollect_32 : decode cX5_slotsToCollect 32 = .ok (.iadd, 1) := by decide +kernel
theorem dX5_slotsToCollect_33 : decode cX5_slotsToCollect 33 = .ok (.iaload, 1) := by decide +kernel
theorem dX5_slotsToCollect_34 : decode cX5_slotsToCollect 34 = .ok (.aload_n 0, 1) := by decide +kernel
theorem dX5_slotsToCollect_35 : decode cX5_slotsToCollect 35 = .ok (.getfield 7, 3) := by decide +kernel
theorem dX5_slotsToCollect_38 : decode cX5_slotsToCollect 38 = .ok (.iload_n 1, 1) := by decide +kernel
theorem dX5_slotsToCollect_39 : decode cX5_slotsToCollect 39 = .ok (.bipush 19, 2) := by decide +kernel
theorem dX5_slotsToCollect_41 : decode cX5_slotsToCollect 41 = .ok (.iadd, 1) := by decide +kernel
theorem dX5_slotsToCollect_42 : decode cX5_slotsToCollect 42 = .ok (.iaload, 1) := by decide +kernel
theorem dX5_slotsToCollect_43 : decode cX5_slotsToCollect 43 = .ok (.if_icmp .ne 5, 3) := by decide +kernel
theorem dX5_slotsToCollect_46 : decode cX5_slotsToCollect 46 = .ok (.iload_n 2, 1) := by decide +kernel
theorem dX5_slotsToCollect_47 : decode cX5_slotsToCollect 47 = .ok (.ireturn, 1) := by decide +kernel
theorem dX5_slotsToCollect_48 : decode cX5_slotsToCollect 48 = .ok (.aload_n 0, 1) := by decide +kernel
theorem dX5_slotsToCollect_49 : decode cX5_slotsToCollect 49 = .ok (.iload_n 1, 1) := by decide +kernel
theorem dX5_slotsToCollect_50 : decode cX5_slotsToCollect 50 = .ok (.invokevirtual 88, 3) := by decide +kernel
theorem dX5_slotsToCollect_53 : decode cX5_slotsToCollect 53 = .ok (.iinc 2 1, 3) := by decide +kernel
theorem dX5_slotsToCollect_56 : decode cX5_slotsToCollect 56 = .ok (.goto (-38), 3) := by decide +kernel
theorem dX5_slotsToCollect_59 : decode cX5_slotsToCollect 59 = .ok (.iconst (-1), 1) := by decide +kernel
theorem dX5_slotsToCollect_60 : decode cX5_slotsToCollect 60 = .ok (.ireturn, 1) := by decide +kernel
theorem dX5_ifRun_0 : decode cX5_ifRun 0 = .ok (.aload_n 0, 1) := by decide +kernel
theorem dX5_ifRun_1 : decode cX5_ifRun 1 = .ok (.iload_n 1, 1) := by decide +kernel
theorem dX5_ifRun_2 : decode cX5_ifRun 2 = .ok (.iconst 1, 1) := by decide +kernel
theorem dX5_ifRun_3 : decode cX5_ifRun 3 = .ok (.bipush 100, 2) := by decide +kernel
theorem dX5_ifRun_5 : decode cX5_ifRun 5 = .ok (.invokestatic 28, 3) := by decide +kernel
theorem dX5_ifRun_8 : decode cX5_ifRun 8 = .ok (.iconst 1, 1) := by decide +kernel
theorem dX5_ifRun_9 : decode cX5_ifRun 9 = .ok (.iconst 1, 1) := by decide +kernel
theorem dX5_ifRun_10 : decode cX5_ifRun 10 = .ok (.invokevirtual 100, 3) := by decide +kernel
theorem dX5_ifRun_13 : decode cX5_ifRun 13 = .ok (.ifCond .ne 5, 3) := by decide +kernel
theorem dX5_ifRun_16 : decode cX5_ifRun 16 = .ok (.iconst 0, 1) := by decide +kernel
theorem dX5_ifRun_17 : decode cX5_ifRun 17 = .ok (.ireturn, 1) := by decide +kernel
theorem dX5_ifRun_18 : decode cX5_ifRun 18 = .ok (.aload_n 0, 1) := by decide +kernel
theorem dX5_ifRun_19 : decode cX5_ifRun 19 = .ok (.iconst 0, 1) := by decide +kernel
theorem dX5_ifRun_20 : decode cX5_ifRun 20 = .ok (.bipush 7, 2) := by decide +kernel
theorem dX5_ifRun_22 : decode cX5_ifRun 22 = .ok (.invokevirtual 35, 3) := by decide +kernel
theorem dX5_ifRun_25 : decode cX5_ifRun 25 = .ok (.aload_n 0, 1) := by decide +kernel
theorem dX5_ifRun_26 : decode cX5_ifRun 26 = .ok (.sipush 4830, 3) := by decide +kernel
theorem dX5_ifRun_29 : decode cX5_ifRun 29 = .ok (.iload_n 1, 1) := by decide +kernel
theorem dX5_ifRun_30 : decode cX5_ifRun 30 = .ok (.invokevirtual 127, 3) := by decide +kernel
theorem dX5_ifRun_33 : decode cX5_ifRun 33 = .ok (.ireturn, 1) := by decide +kernel
theorem dX5_time_0 : decode cX5_time 0 = .ok (.aload_n 0, 1) := by decide +kernel
theorem dX5_time_1 : decode cX5_time 1 = .ok (.iconst 0, 1) := by decide +kernel
theorem dX5_time_2 : decode cX5_time 2 = .ok (.putfield 24, 3) := by decide +kernel
theorem dX5_time_5 : decode cX5_time 5 = .ok (.aload_n 0, 1) := by decide +kernel
theorem dX5_time_6 : decode cX5_time 6 = .ok (.getfield 7, 3) := by decide +kernel
theorem dX5_time_9 : decode cX5_time 9 = .ok (.bipush 12, 2) := by decide +kernel
theorem dX5_time_11 : decode cX5_time 11 = .ok (.iaload, 1) := by decide +kernel
theorem dX5_time_12 : decode cX5_time 12 = .ok (.ireturn, 1) := by decide +kernel
theorem dX5_count_0 : decode cX5_count 0 = .ok (.aload_n 0, 1) := by decide +kernel
theorem dX5_count_1 : decode cX5_count 1 = .ok (.iload_n 1, 1) := by decide +kernel
theorem dX5_count_2 : decode cX5_count 2 = .ok (.iconst 0, 1) := by decide +kernel
theorem dX5_count_3 : decode cX5_count 3 = .ok (.iconst 5, 1) := by decide +kernel
theorem dX5_count_4 : decode cX5_count 4 = .ok (.invokestatic 28, 3) := by decide +kernel
theorem dX5_count_7 : decode cX5_count 7 = .ok (.iconst 1, 1) := by decide +kernel
theorem dX5_count_8 : decode cX5_count 8 = .ok (.iconst 1, 1) := by decide +kernel
theorem dX5_count_9 : decode cX5_count 9 = .ok (.invokevirtual 100, 3) := by decide +kernel
theorem dX5_count_12 : decode cX5_count 12 = .ok (.ifCond .eq 15, 3) := by decide +kernel
theorem dX5_count_15 : decode cX5_count 15 = .ok (.aload_n 0, 1) := by decide +kernel
theorem dX5_count_16 : decode cX5_count 16 = .ok (.getfield 7, 3) := by decide +kernel
theorem dX5_count_19 : decode cX5_count 19 = .ok (.bipush 13, 2) := by decide +kernel
theorem dX5_count_21 : decode cX5_count 21 = .ok (.iload_n 1, 1) := by decide +kernel
theorem dX5_count_22 : decode cX5_count 22 = .ok (.iadd, 1) := by decide +kernel
theorem dX5_count_23 : decode cX5_count 23 = .ok (.iaload, 1) := by decide +kernel
theorem dX5_count_24 : decode cX5_count 24 = .ok (.goto 4, 3) := by decide +kernel
theorem dX5_count_27 : decode cX5_count 27 = .ok (.iconst 0, 1) := by decide +kernel
theorem dX5_count_28 : decode cX5_count 28 = .ok (.ireturn, 1) := by decide +kernel
theorem dX5_joined_0 : decode cX5_joined 0 = .ok (.aload_n 0, 1) := by decide +kernel
theorem dX5_joined_1 : decode cX5_joined 1 = .ok (.iconst 0, 1) := by decide +kernel
theorem dX5_joined_2 : decode cX5_joined 2 = .ok (.putfield 24, 3) := by decide +kernel
theorem dX5_joined_5 : decode cX5_joined 5 = .ok (.iconst 0, 1) := by decide +kernel
theorem dX5_joined_6 : decode cX5_joined 6 = .ok (.istore_n 1, 1) := by decide +kernel
theorem dX5_joined_7 : decode cX5_joined 7 = .ok (.iconst 1, 1) := by decide +kernel
theorem dX5_joined_8 : decode cX5_joined 8 = .ok (.istore_n 2, 1) := by decide +kernel
theorem dX5_joined_9 : decode cX5_joined 9 = .ok (.iload_n 2, 1) := by decide +kernel
theorem dX5_joined_10 : decode cX5_joined 10 = .ok (.bipush 10, 2) := by decide +kernel
theorem dX5_joined_12 : decode cX5_joined 12 = .ok (.if_icmp .ge 33, 3) := by decide +kernel
theorem dX5_joined_15 : decode cX5_joined 15 = .ok (.iload_n 1, 1) := by decide +kernel
theorem dX5_joined_16 : decode cX5_joined 16 = .ok (.aload_n 0, 1) := by decide +kernel
theorem dX5_joined_17 : decode cX5_joined 17 = .ok (.getfield 7, 3) := by decide +kernel
theorem dX5_joined_20 : decode cX5_joined 20 = .ok (.iconst 0, 1) := by decide +kernel
theorem dX5_joined_21 : decode cX5_joined 21 = .ok (.iload_n 2, 1) := by decide +kernel
theorem dX5_joined_22 : decode cX5_joined 22 = .ok (.invokestatic 20, 3) := by decide +kernel
theorem dX5_joined_25 : decode cX5_joined 25 = .ok (.iconst 1, 1) := by decide +kernel
theorem dX5_joined_26 : decode cX5_joined 26 = .ok (.iadd, 1) := by decide +kernel
theorem dX5_joined_27 : decode cX5_joined 27 = .ok (.iaload, 1) := by decide +kernel
theorem dX5_joined_28 : decode cX5_joined 28 = .ok (.iconst (-1), 1) := by decide +kernel
theorem dX5_joined_29 : decode cX5_joined 29 = .ok (.if_icmp .ne 7, 3) := by decide +kernel
theorem dX5_joined_32 : decode cX5_joined 32 = .ok (.iconst 0, 1) := by decide +kernel
theorem dX5_joined_33 : decode cX5_joined 33 = .ok (.goto 4, 3) := by decide +kernel
theorem dX5_joined_36 : decode cX5_joined 36 = .ok (.iconst 1, 1) := by decide +kernel
theorem dX5_joined_37 : decode cX5_joined 37 = .ok (.iadd, 1) := by decide +kernel
theorem dX5_joined_38 : decode cX5_joined 38 = .ok (.istore_n 1, 1) := by decide +kernel
theorem dX5_joined_39 : decode cX5_joined 39 = .ok (.iinc 2 1, 3) := by decide +kernel
theorem dX5_joined_42 : decode cX5_joined 42 = .ok (.goto (-33), 3) := by decide +kernel
theorem dX5_joined_45 : decode cX5_joined 45 = .ok (.iload_n 1, 1) := by decide +kernel
theorem dX5_joined_46 : decode cX5_joined 46 = .ok (.i2d, 1) := by decide +kernel
theorem dX5_joined_47 : decode cX5_joined 47 = .ok (.ldc2_w 171, 3) := by decide +kernel
theorem dX5_joined_50 : decode cX5_joined 50 = .ok (.ddiv, 1) := by decide +kernel
theorem dX5_joined_51 : decode cX5_joined 51 = .ok (.dreturn, 1) := by decide +kernel
theorem dX5_savedStates_0 : decode cX5_savedStates 0 = .ok (.aload_n 0, 1) := by decide +kernel
theorem dX5_savedStates_1 : decode cX5_savedStates 1 = .ok (.iconst 0, 1) := by decide +kernel
theorem dX5_savedStates_2 : decode cX5_savedStates 2 = .ok (.putfield 24, 3) := by decide +kernel
theorem dX5_savedStates_5 : decode cX5_savedStates 5 = .ok (.aload_n 0, 1) := by decide +kernel
theorem dX5_savedStates_6 : decode cX5_savedStates 6 = .ok (.getfield 32, 3) := by decide +kernel
theorem dX5_savedStates_9 : decode cX5_savedStates 9 = .ok (.ireturn, 1) := by decide +kernel
theorem dX5_textLength_0 : decode cX5_textLength 0 = .ok (.aload_n 0, 1) := by decide +kernel
theorem dX5_textLength_1 : decode cX5_textLength 1 = .ok (.iconst 0, 1) := by decide +kernel
theorem dX5_textLength_2 : decode cX5_textLength 2 = .ok (.putfield 24, 3) := by decide +kernel
theorem dX5_textLength_5 : decode cX5_textLength 5 = .ok (.aload_n 0, 1) := by decide +kernel
theorem dX5_textLength_6 : decode cX5_textLength 6 = .ok (.getfield 130, 3) := by decide +kernel
theorem dX5_textLength_9 : decode cX5_textLength 9 = .ok (.ireturn, 1) := by decide +kernel
