theorem dX0_init_0 : decode cX0_init 0 = .ok (.aload_n 0, 1) := by decide +kernel
theorem dX0_init_1 : decode cX0_init 1 = .ok (.invokespecial 3, 3) := by decide +kernel
theorem dX0_init_4 : decode cX0_init 4 = .ok (.aload_n 0, 1) := by decide +kernel
theorem dX0_init_5 : decode cX0_init 5 = .ok (.bipush 6, 2) := by decide +kernel
theorem dX0_init_7 : decode cX0_init 7 = .ok (.anewarray 9, 3) := by decide +kernel
theorem dX0_init_10 : decode cX0_init 10 = .ok (.putfield 11, 3) := by decide +kernel
theorem dX0_init_13 : decode cX0_init 13 = .ok (.return_, 1) := by decide +kernel
theorem dX0_save_0 : decode cX0_save 0 = .ok (.aload_n 0, 1) := by decide +kernel
theorem dX0_save_1 : decode cX0_save 1 = .ok (.getfield 17, 3) := by decide +kernel
theorem dX0_save_4 : decode cX0_save 4 = .ok (.aload_n 0, 1) := by decide +kernel
theorem dX0_save_5 : decode cX0_save 5 = .ok (.getfield 21, 3) := by decide +kernel
theorem dX0_save_8 : decode cX0_save 8 = .ok (.iadd, 1) := by decide +kernel
theorem dX0_save_9 : decode cX0_save 9 = .ok (.bipush 6, 2) := by decide +kernel
theorem dX0_save_11 : decode cX0_save 11 = .ok (.invokestatic 24, 3) := by decide +kernel
theorem dX0_save_14 : decode cX0_save 14 = .ok (.istore_n 2, 1) := by decide +kernel
theorem dX0_save_15 : decode cX0_save 15 = .ok (.aload_n 0, 1) := by decide +kernel
theorem dX0_save_16 : decode cX0_save 16 = .ok (.getfield 11, 3) := by decide +kernel
theorem dX0_save_19 : decode cX0_save 19 = .ok (.iload_n 2, 1) := by decide +kernel
theorem dX0_save_20 : decode cX0_save 20 = .ok (.aaload, 1) := by decide +kernel
theorem dX0_save_21 : decode cX0_save 21 = .ok (.astore_n 3, 1) := by decide +kernel
theorem dX0_save_22 : decode cX0_save 22 = .ok (.aload_n 3, 1) := by decide +kernel
theorem dX0_save_23 : decode cX0_save 23 = .ok (.ifnonnull 18, 3) := by decide +kernel
theorem dX0_save_26 : decode cX0_save 26 = .ok (.new 9, 3) := by decide +kernel
theorem dX0_save_29 : decode cX0_save 29 = .ok (.dup, 1) := by decide +kernel
theorem dX0_save_30 : decode cX0_save 30 = .ok (.invokespecial 30, 3) := by decide +kernel
theorem dX0_save_33 : decode cX0_save 33 = .ok (.astore_n 3, 1) := by decide +kernel
theorem dX0_save_34 : decode cX0_save 34 = .ok (.aload_n 0, 1) := by decide +kernel
theorem dX0_save_35 : decode cX0_save 35 = .ok (.getfield 11, 3) := by decide +kernel
theorem dX0_save_38 : decode cX0_save 38 = .ok (.iload_n 2, 1) := by decide +kernel
theorem dX0_save_39 : decode cX0_save 39 = .ok (.aload_n 3, 1) := by decide +kernel
theorem dX0_save_40 : decode cX0_save 40 = .ok (.aastore, 1) := by decide +kernel
theorem dX0_save_41 : decode cX0_save 41 = .ok (.aload_n 3, 1) := by decide +kernel
theorem dX0_save_42 : decode cX0_save 42 = .ok (.aload_n 1, 1) := by decide +kernel
theorem dX0_save_43 : decode cX0_save 43 = .ok (.invokevirtual 31, 3) := by decide +kernel
theorem dX0_save_46 : decode cX0_save 46 = .ok (.aload_n 0, 1) := by decide +kernel
theorem dX0_save_47 : decode cX0_save 47 = .ok (.getfield 21, 3) := by decide +kernel
theorem dX0_save_50 : decode cX0_save 50 = .ok (.bipush 6, 2) := by decide +kernel
theorem dX0_save_52 : decode cX0_save 52 = .ok (.if_icmp .ge 16, 3) := by decide +kernel
theorem dX0_save_55 : decode cX0_save 55 = .ok (.aload_n 0, 1) := by decide +kernel
theorem dX0_save_56 : decode cX0_save 56 = .ok (.dup, 1) := by decide +kernel
theorem dX0_save_57 : decode cX0_save 57 = .ok (.getfield 21, 3) := by decide +kernel
theorem dX0_save_60 : decode cX0_save 60 = .ok (.iconst 1, 1) := by decide +kernel
theorem dX0_save_61 : decode cX0_save 61 = .ok (.iadd, 1) := by decide +kernel
theorem dX0_save_62 : decode cX0_save 62 = .ok (.putfield 21, 3) := by decide +kernel
theorem dX0_save_65 : decode cX0_save 65 = .ok (.goto 18, 3) := by decide +kernel
theorem dX0_save_68 : decode cX0_save 68 = .ok (.aload_n 0, 1) := by decide +kernel
theorem dX0_save_69 : decode cX0_save 69 = .ok (.aload_n 0, 1) := by decide +kernel
theorem dX0_save_70 : decode cX0_save 70 = .ok (.getfield 17, 3) := by decide +kernel
theorem dX0_save_73 : decode cX0_save 73 = .ok (.iconst 1, 1) := by decide +kernel
theorem dX0_save_74 : decode cX0_save 74 = .ok (.iadd, 1) := by decide +kernel
theorem dX0_save_75 : decode cX0_save 75 = .ok (.bipush 6, 2) := by decide +kernel
theorem dX0_save_77 : decode cX0_save 77 = .ok (.invokestatic 24, 3) := by decide +kernel
theorem dX0_save_80 : decode cX0_save 80 = .ok (.putfield 17, 3) := by decide +kernel
theorem dX0_save_83 : decode cX0_save 83 = .ok (.return_, 1) := by decide +kernel
theorem dX0_newest_0 : decode cX0_newest 0 = .ok (.aload_n 0, 1) := by decide +kernel
theorem dX0_newest_1 : decode cX0_newest 1 = .ok (.getfield 21, 3) := by decide +kernel
theorem dX0_newest_4 : decode cX0_newest 4 = .ok (.ifCond .ne 7, 3) := by decide +kernel
theorem dX0_newest_7 : decode cX0_newest 7 = .ok (.aconst_null, 1) := by decide +kernel
theorem dX0_newest_8 : decode cX0_newest 8 = .ok (.goto 24, 3) := by decide +kernel
theorem dX0_newest_11 : decode cX0_newest 11 = .ok (.aload_n 0, 1) := by decide +kernel
theorem dX0_newest_12 : decode cX0_newest 12 = .ok (.getfield 11, 3) := by decide +kernel
theorem dX0_newest_15 : decode cX0_newest 15 = .ok (.aload_n 0, 1) := by decide +kernel
theorem dX0_newest_16 : decode cX0_newest 16 = .ok (.getfield 17, 3) := by decide +kernel
theorem dX0_newest_19 : decode cX0_newest 19 = .ok (.aload_n 0, 1) := by decide +kernel
theorem dX0_newest_20 : decode cX0_newest 20 = .ok (.getfield 21, 3) := by decide +kernel
theorem dX0_newest_23 : decode cX0_newest 23 = .ok (.iadd, 1) := by decide +kernel
theorem dX0_newest_24 : decode cX0_newest 24 = .ok (.iconst 1, 1) := by decide +kernel
theorem dX0_newest_25 : decode cX0_newest 25 = .ok (.isub, 1) := by decide +kernel
theorem dX0_newest_26 : decode cX0_newest 26 = .ok (.bipush 6, 2) := by decide +kernel
theorem dX0_newest_28 : decode cX0_newest 28 = .ok (.invokestatic 24, 3) := by decide +kernel
theorem dX0_newest_31 : decode cX0_newest 31 = .ok (.aaload, 1) := by decide +kernel
theorem dX0_newest_32 : decode cX0_newest 32 = .ok (.areturn, 1) := by decide +kernel
theorem dX0_removeNewest_0 : decode cX0_removeNewest 0 = .ok (.aload_n 0, 1) := by decide +kernel
theorem dX0_removeNewest_1 : decode cX0_removeNewest 1 = .ok (.getfield 21, 3) := by decide +kernel
theorem dX0_removeNewest_4 : decode cX0_removeNewest 4 = .ok (.ifCond .le 13, 3) := by decide +kernel
theorem dX0_removeNewest_7 : decode cX0_removeNewest 7 = .ok (.aload_n 0, 1) := by decide +kernel
theorem dX0_removeNewest_8 : decode cX0_removeNewest 8 = .ok (.dup, 1) := by decide +kernel
theorem dX0_removeNewest_9 : decode cX0_removeNewest 9 = .ok (.getfield 21, 3) := by decide +kernel
theorem dX0_removeNewest_12 : decode cX0_removeNewest 12 = .ok (.iconst 1, 1) := by decide +kernel
theorem dX0_removeNewest_13 : decode cX0_removeNewest 13 = .ok (.isub, 1) := by decide +kernel
theorem dX0_removeNewest_14 : decode cX0_removeNewest 14 = .ok (.putfield 21, 3) := by decide +kernel
theorem dX0_removeNewest_17 : decode cX0_removeNewest 17 = .ok (.return_, 1) := by decide +kernel
theorem dX1_init_0 : decode cX1_init 0 = .ok (.aload_n 0, 1) := by decide +kernel
theorem dX1_init_1 : decode cX1_init 1 = .ok (.invokespecial 3, 3) := by decide +kernel
theorem dX1_init_4 : decode cX1_init 4 = .ok (.aload_n 0, 1) := by decide +kernel
theorem dX1_init_5 : decode cX1_init 5 = .ok (.bipush 60, 2) := by decide +kernel
theorem dX1_init_7 : decode cX1_init 7 = .ok (.newarray .int, 2) := by decide +kernel
theorem dX1_init_9 : decode cX1_init 9 = .ok (.putfield 9, 3) := by decide +kernel
theorem dX1_init_12 : decode cX1_init 12 = .ok (.aload_n 0, 1) := by decide +kernel
theorem dX1_init_13 : decode cX1_init 13 = .ok (.bipush 60, 2) := by decide +kernel
theorem dX1_init_15 : decode cX1_init 15 = .ok (.newarray .int, 2) := by decide +kernel
theorem dX1_init_17 : decode cX1_init 17 = .ok (.putfield 15, 3) := by decide +kernel
theorem dX1_init_20 : decode cX1_init 20 = .ok (.aload_n 0, 1) := by decide +kernel
theorem dX1_init_21 : decode cX1_init 21 = .ok (.bipush 60, 2) := by decide +kernel
theorem dX1_init_23 : decode cX1_init 23 = .ok (.newarray .int, 2) := by decide +kernel
theorem dX1_init_25 : decode cX1_init 25 = .ok (.putfield 18, 3) := by decide +kernel
theorem dX1_init_28 : decode cX1_init 28 = .ok (.aload_n 0, 1) := by decide +kernel
theorem dX1_init_29 : decode cX1_init 29 = .ok (.bipush 60, 2) := by decide +kernel
theorem dX1_init_31 : decode cX1_init 31 = .ok (.newarray .int, 2) := by decide +kernel
theorem dX1_init_33 : decode cX1_init 33 = .ok (.putfield 21, 3) := by decide +kernel
theorem dX1_init_36 : decode cX1_init 36 = .ok (.aload_n 0, 1) := by decide +kernel
theorem dX1_init_37 : decode cX1_init 37 = .ok (.bipush 10, 2) := by decide +kernel
theorem dX1_init_39 : decode cX1_init 39 = .ok (.newarray .int, 2) := by decide +kernel
theorem dX1_init_41 : decode cX1_init 41 = .ok (.putfield 24, 3) := by decide +kernel
theorem dX1_init_44 : decode cX1_init 44 = .ok (.aload_n 0, 1) := by decide +kernel
theorem dX1_init_45 : decode cX1_init 45 = .ok (.sipush 600, 3) := by decide +kernel
theorem dX1_init_48 : decode cX1_init 48 = .ok (.newarray .int, 2) := by decide +kernel
theorem dX1_init_50 : decode cX1_init 50 = .ok (.putfield 27, 3) := by decide +kernel
theorem dX1_init_53 : decode cX1_init 53 = .ok (.aload_n 0, 1) := by decide +kernel
theorem dX1_init_54 : decode cX1_init 54 = .ok (.sipush 600, 3) := by decide +kernel
theorem dX1_init_57 : decode cX1_init 57 = .ok (.newarray .int, 2) := by decide +kernel
theorem dX1_init_59 : decode cX1_init 59 = .ok (.putfield 30, 3) := by decide +kernel
theorem dX1_init_62 : decode cX1_init 62 = .ok (.return_, 1) := by decide +kernel
theorem dX1_copyFrom_0 : decode cX1_copyFrom 0 = .ok (.aload_n 1, 1) := by decide +kernel
theorem dX1_copyFrom_1 : decode cX1_copyFrom 1 = .ok (.getfield 9, 3) := by decide +kernel
theorem dX1_copyFrom_4 : decode cX1_copyFrom 4 = .ok (.aload_n 0, 1) := by decide +kernel
theorem dX1_copyFrom_5 : decode cX1_copyFrom 5 = .ok (.getfield 9, 3) := by decide +kernel
theorem dX1_copyFrom_8 : decode cX1_copyFrom 8 = .ok (.invokestatic 33, 3) := by decide +kernel
theorem dX1_copyFrom_11 : decode cX1_copyFrom 11 = .ok (.aload_n 1, 1) := by decide +kernel
theorem dX1_copyFrom_12 : decode cX1_copyFrom 12 = .ok (.getfield 15, 3) := by decide +kernel
theorem dX1_copyFrom_15 : decode cX1_copyFrom 15 = .ok (.aload_n 0, 1) := by decide +kernel
theorem dX1_copyFrom_16 : decode cX1_copyFrom 16 = .ok (.getfield 15, 3) := by decide +kernel
theorem dX1_copyFrom_19 : decode cX1_copyFrom 19 = .ok (.invokestatic 33, 3) := by decide +kernel
theorem dX1_copyFrom_22 : decode cX1_copyFrom 22 = .ok (.aload_n 1, 1) := by decide +kernel
theorem dX1_copyFrom_23 : decode cX1_copyFrom 23 = .ok (.getfield 18, 3) := by decide +kernel
theorem dX1_copyFrom_26 : decode cX1_copyFrom 26 = .ok (.aload_n 0, 1) := by decide +kernel
theorem dX1_copyFrom_27 : decode cX1_copyFrom 27 = .ok (.getfield 18, 3) := by decide +kernel
theorem dX1_copyFrom_30 : decode cX1_copyFrom 30 = .ok (.invokestatic 33, 3) := by decide +kernel
theorem dX1_copyFrom_33 : decode cX1_copyFrom 33 = .ok (.aload_n 1, 1) := by decide +kernel
theorem dX1_copyFrom_34 : decode cX1_copyFrom 34 = .ok (.getfield 21, 3) := by decide +kernel
theorem dX1_copyFrom_37 : decode cX1_copyFrom 37 = .ok (.aload_n 0, 1) := by decide +kernel
theorem dX1_copyFrom_38 : decode cX1_copyFrom 38 = .ok (.getfield 21, 3) := by decide +kernel
theorem dX1_copyFrom_41 : decode cX1_copyFrom 41 = .ok (.invokestatic 33, 3) := by decide +kernel
theorem dX1_copyFrom_44 : decode cX1_copyFrom 44 = .ok (.aload_n 0, 1) := by decide +kernel
theorem dX1_copyFrom_45 : decode cX1_copyFrom 45 = .ok (.aload_n 1, 1) := by decide +kernel
theorem dX1_copyFrom_46 : decode cX1_copyFrom 46 = .ok (.getfield 37, 3) := by decide +kernel
theorem dX1_copyFrom_49 : decode cX1_copyFrom 49 = .ok (.putfield 37, 3) := by decide +kernel
theorem dX1_copyFrom_52 : decode cX1_copyFrom 52 = .ok (.aload_n 1, 1) := by decide +kernel
theorem dX1_copyFrom_53 : decode cX1_copyFrom 53 = .ok (.getfield 24, 3) := by decide +kernel
theorem dX1_copyFrom_56 : decode cX1_copyFrom 56 = .ok (.aload_n 0, 1) := by decide +kernel
theorem dX1_copyFrom_57 : decode cX1_copyFrom 57 = .ok (.getfield 24, 3) := by decide +kernel
theorem dX1_copyFrom_60 : decode cX1_copyFrom 60 = .ok (.invokestatic 33, 3) := by decide +kernel
theorem dX1_copyFrom_63 : decode cX1_copyFrom 63 = .ok (.aload_n 1, 1) := by decide +kernel
theorem dX1_copyFrom_64 : decode cX1_copyFrom 64 = .ok (.getfield 27, 3) := by decide +kernel
theorem dX1_copyFrom_67 : decode cX1_copyFrom 67 = .ok (.aload_n 0, 1) := by decide +kernel
theorem dX1_copyFrom_68 : decode cX1_copyFrom 68 = .ok (.getfield 27, 3) := by decide +kernel
theorem dX1_copyFrom_71 : decode cX1_copyFrom 71 = .ok (.invokestatic 33, 3) := by decide +kernel
theorem dX1_copyFrom_74 : decode cX1_copyFrom 74 = .ok (.aload_n 1, 1) := by decide +kernel
theorem dX1_copyFrom_75 : decode cX1_copyFrom 75 = .ok (.getfield 30, 3) := by decide +kernel
theorem dX1_copyFrom_78 : decode cX1_copyFrom 78 = .ok (.aload_n 0, 1) := by decide +kernel
theorem dX1_copyFrom_79 : decode cX1_copyFrom 79 = .ok (.getfield 30, 3) := by decide +kernel
theorem dX1_copyFrom_82 : decode cX1_copyFrom 82 = .ok (.invokestatic 33, 3) := by decide +kernel
theorem dX1_copyFrom_85 : decode cX1_copyFrom 85 = .ok (.return_, 1) := by decide +kernel
theorem dX1_takeAt_0 : decode cX1_takeAt 0 = .ok (.aload_n 0, 1) := by decide +kernel
theorem dX1_takeAt_1 : decode cX1_takeAt 1 = .ok (.getfield 37, 3) := by decide +kernel
theorem dX1_takeAt_4 : decode cX1_takeAt 4 = .ok (.istore 5, 2) := by decide +kernel
theorem dX1_takeAt_6 : decode cX1_takeAt 6 = .ok (.iload 5, 2) := by decide +kernel
theorem dX1_takeAt_8 : decode cX1_takeAt 8 = .ok (.ifCond .lt 10, 3) := by decide +kernel
theorem dX1_takeAt_11 : decode cX1_takeAt 11 = .ok (.iload 5, 2) := by decide +kernel
theorem dX1_takeAt_13 : decode cX1_takeAt 13 = .ok (.bipush 60, 2) := by decide +kernel
theorem dX1_takeAt_15 : decode cX1_takeAt 15 = .ok (.if_icmp .lt 5, 3) := by decide +kernel
theorem dX1_takeAt_18 : decode cX1_takeAt 18 = .ok (.iconst (-1), 1) := by decide +kernel
theorem dX1_takeAt_19 : decode cX1_takeAt 19 = .ok (.ireturn, 1) := by decide +kernel
theorem dX1_takeAt_20 : decode cX1_takeAt 20 = .ok (.aload_n 0, 1) := by decide +kernel
theorem dX1_takeAt_21 : decode cX1_takeAt 21 = .ok (.iload_n 1, 1) := by decide +kernel
theorem dX1_takeAt_22 : decode cX1_takeAt 22 = .ok (.invokevirtual 41, 3) := by decide +kernel
theorem dX1_takeAt_25 : decode cX1_takeAt 25 = .ok (.istore 6, 2) := by decide +kernel
theorem dX1_takeAt_27 : decode cX1_takeAt 27 = .ok (.aload_n 0, 1) := by decide +kernel
theorem dX1_takeAt_28 : decode cX1_takeAt 28 = .ok (.getfield 9, 3) := by decide +kernel
theorem dX1_takeAt_31 : decode cX1_takeAt 31 = .ok (.iload 5, 2) := by decide +kernel
theorem dX1_takeAt_33 : decode cX1_takeAt 33 = .ok (.iload_n 1, 1) := by decide +kernel
theorem dX1_takeAt_34 : decode cX1_takeAt 34 = .ok (.iastore, 1) := by decide +kernel
theorem dX1_takeAt_35 : decode cX1_takeAt 35 = .ok (.aload_n 0, 1) := by decide +kernel
theorem dX1_takeAt_36 : decode cX1_takeAt 36 = .ok (.getfield 15, 3) := by decide +kernel
theorem dX1_takeAt_39 : decode cX1_takeAt 39 = .ok (.iload 5, 2) := by decide +kernel
theorem dX1_takeAt_41 : decode cX1_takeAt 41 = .ok (.iload 6, 2) := by decide +kernel
theorem dX1_takeAt_43 : decode cX1_takeAt 43 = .ok (.iastore, 1) := by decide +kernel
theorem dX1_takeAt_44 : decode cX1_takeAt 44 = .ok (.aload_n 0, 1) := by decide +kernel
theorem dX1_takeAt_45 : decode cX1_takeAt 45 = .ok (.getfield 18, 3) := by decide +kernel
theorem dX1_takeAt_48 : decode cX1_takeAt 48 = .ok (.iload 5, 2) := by decide +kernel
theorem dX1_takeAt_50 : decode cX1_takeAt 50 = .ok (.iload_n 2, 1) := by decide +kernel
theorem dX1_takeAt_51 : decode cX1_takeAt 51 = .ok (.iastore, 1) := by decide +kernel
theorem dX1_takeAt_52 : decode cX1_takeAt 52 = .ok (.aload_n 0, 1) := by decide +kernel
theorem dX1_takeAt_53 : decode cX1_takeAt 53 = .ok (.getfield 21, 3) := by decide +kernel
theorem dX1_takeAt_56 : decode cX1_takeAt 56 = .ok (.iload 5, 2) := by decide +kernel
theorem dX1_takeAt_58 : decode cX1_takeAt 58 = .ok (.iload_n 3, 1) := by decide +kernel
theorem dX1_takeAt_59 : decode cX1_takeAt 59 = .ok (.iastore, 1) := by decide +kernel
theorem dX1_takeAt_60 : decode cX1_takeAt 60 = .ok (.aload_n 0, 1) := by decide +kernel
theorem dX1_takeAt_61 : decode cX1_takeAt 61 = .ok (.dup, 1) := by decide +kernel
theorem dX1_takeAt_62 : decode cX1_takeAt 62 = .ok (.getfield 37, 3) := by decide +kernel
theorem dX1_takeAt_65 : decode cX1_takeAt 65 = .ok (.iconst 1, 1) := by decide +kernel
theorem dX1_takeAt_66 : decode cX1_takeAt 66 = .ok (.iadd, 1) := by decide +kernel
theorem dX1_takeAt_67 : decode cX1_takeAt 67 = .ok (.putfield 37, 3) := by decide +kernel
theorem dX1_takeAt_70 : decode cX1_takeAt 70 = .ok (.aload_n 0, 1) := by decide +kernel
theorem dX1_takeAt_71 : decode cX1_takeAt 71 = .ok (.iload_n 1, 1) := by decide +kernel
theorem dX1_takeAt_72 : decode cX1_takeAt 72 = .ok (.iload 5, 2) := by decide +kernel
theorem dX1_takeAt_74 : decode cX1_takeAt 74 = .ok (.iload 4, 2) := by decide +kernel
theorem dX1_takeAt_76 : decode cX1_takeAt 76 = .ok (.invokevirtual 45, 3) := by decide +kernel
theorem dX1_takeAt_79 : decode cX1_takeAt 79 = .ok (.iload 6, 2) := by decide +kernel
theorem dX1_takeAt_81 : decode cX1_takeAt 81 = .ok (.ireturn, 1) := by decide +kernel
theorem dX1_takenAt_0 : decode cX1_takenAt 0 = .ok (.iconst 0, 1) := by decide +kernel
theorem dX1_takenAt_1 : decode cX1_takenAt 1 = .ok (.istore_n 2, 1) := by decide +kernel
theorem dX1_takenAt_2 : decode cX1_takenAt 2 = .ok (.iconst 0, 1) := by decide +kernel
theorem dX1_takenAt_3 : decode cX1_takenAt 3 = .ok (.istore_n 3, 1) := by decide +kernel
theorem dX1_takenAt_4 : decode cX1_takenAt 4 = .ok (.iload_n 3, 1) := by decide +kernel
theorem dX1_takenAt_5 : decode cX1_takenAt 5 = .ok (.bipush 60, 2) := by decide +kernel
theorem dX1_takenAt_7 : decode cX1_takenAt 7 = .ok (.if_icmp .ge 35, 3) := by decide +kernel
theorem dX1_takenAt_10 : decode cX1_takenAt 10 = .ok (.iload_n 3, 1) := by decide +kernel
theorem dX1_takenAt_11 : decode cX1_takenAt 11 = .ok (.aload_n 0, 1) := by decide +kernel
theorem dX1_takenAt_12 : decode cX1_takenAt 12 = .ok (.getfield 37, 3) := by decide +kernel
theorem dX1_takenAt_15 : decode cX1_takenAt 15 = .ok (.if_icmp .ge 27, 3) := by decide +kernel
theorem dX1_takenAt_18 : decode cX1_takenAt 18 = .ok (.iload_n 2, 1) := by decide +kernel
theorem dX1_takenAt_19 : decode cX1_takenAt 19 = .ok (.aload_n 0, 1) := by decide +kernel
theorem dX1_takenAt_20 : decode cX1_takenAt 20 = .ok (.getfield 9, 3) := by decide +kernel
theorem dX1_takenAt_23 : decode cX1_takenAt 23 = .ok (.iload_n 3, 1) := by decide +kernel
theorem dX1_takenAt_24 : decode cX1_takenAt 24 = .ok (.iaload, 1) := by decide +kernel
theorem dX1_takenAt_25 : decode cX1_takenAt 25 = .ok (.iload_n 1, 1) := by decide +kernel
theorem dX1_takenAt_26 : decode cX1_takenAt 26 = .ok (.if_icmp .ne 7, 3) := by decide +kernel
theorem dX1_takenAt_29 : decode cX1_takenAt 29 = .ok (.iconst 1, 1) := by decide +kernel
theorem dX1_takenAt_30 : decode cX1_takenAt 30 = .ok (.goto 4, 3) := by decide +kernel
theorem dX1_takenAt_33 : decode cX1_takenAt 33 = .ok (.iconst 0, 1) := by decide +kernel
theorem dX1_takenAt_34 : decode cX1_takenAt 34 = .ok (.iadd, 1) := by decide +kernel
theorem dX1_takenAt_35 : decode cX1_takenAt 35 = .ok (.istore_n 2, 1) := by decide +kernel
theorem dX1_takenAt_36 : decode cX1_takenAt 36 = .ok (.iinc 3 1, 3) := by decide +kernel
theorem dX1_takenAt_39 : decode cX1_takenAt 39 = .ok (.goto (-35), 3) := by decide +kernel
theorem dX1_takenAt_42 : decode cX1_takenAt 42 = .ok (.iload_n 2, 1) := by decide +kernel
theorem dX1_takenAt_43 : decode cX1_takenAt 43 = .ok (.ireturn, 1) := by decide +kernel
theorem dX1_findId_0 : decode cX1_findId 0 = .ok (.iconst 0, 1) := by decide +kernel
theorem dX1_findId_1 : decode cX1_findId 1 = .ok (.istore_n 3, 1) := by decide +kernel
theorem dX1_findId_2 : decode cX1_findId 2 = .ok (.iload_n 3, 1) := by decide +kernel
theorem dX1_findId_3 : decode cX1_findId 3 = .ok (.bipush 60, 2) := by decide +kernel
theorem dX1_findId_5 : decode cX1_findId 5 = .ok (.if_icmp .ge 39, 3) := by decide +kernel
theorem dX1_findId_8 : decode cX1_findId 8 = .ok (.iload_n 3, 1) := by decide +kernel
theorem dX1_findId_9 : decode cX1_findId 9 = .ok (.aload_n 0, 1) := by decide +kernel
theorem dX1_findId_10 : decode cX1_findId 10 = .ok (.getfield 37, 3) := by decide +kernel
theorem dX1_findId_13 : decode cX1_findId 13 = .ok (.if_icmp .ge 31, 3) := by decide +kernel
theorem dX1_findId_16 : decode cX1_findId 16 = .ok (.aload_n 0, 1) := by decide +kernel
theorem dX1_findId_17 : decode cX1_findId 17 = .ok (.getfield 9, 3) := by decide +kernel
theorem dX1_findId_20 : decode cX1_findId 20 = .ok (.iload_n 3, 1) := by decide +kernel
theorem dX1_findId_21 : decode cX1_findId 21 = .ok (.iaload, 1) := by decide +kernel
theorem dX1_findId_22 : decode cX1_findId 22 = .ok (.iload_n 1, 1) := by decide +kernel
theorem dX1_findId_23 : decode cX1_findId 23 = .ok (.if_icmp .ne 15, 3) := by decide +kernel
theorem dX1_findId_26 : decode cX1_findId 26 = .ok (.aload_n 0, 1) := by decide +kernel
theorem dX1_findId_27 : decode cX1_findId 27 = .ok (.getfield 15, 3) := by decide +kernel
theorem dX1_findId_30 : decode cX1_findId 30 = .ok (.iload_n 3, 1) := by decide +kernel
theorem dX1_findId_31 : decode cX1_findId 31 = .ok (.iaload, 1) := by decide +kernel
theorem dX1_findId_32 : decode cX1_findId 32 = .ok (.iload_n 2, 1) := by decide +kernel
theorem dX1_findId_33 : decode cX1_findId 33 = .ok (.if_icmp .ne 5, 3) := by decide +kernel
theorem dX1_findId_36 : decode cX1_findId 36 = .ok (.iload_n 3, 1) := by decide +kernel
theorem dX1_findId_37 : decode cX1_findId 37 = .ok (.ireturn, 1) := by decide +kernel
theorem dX1_findId_38 : decode cX1_findId 38 = .ok (.iinc 3 1, 3) := by decide +kernel
theorem dX1_findId_41 : decode cX1_findId 41 = .ok (.goto (-39), 3) := by decide +kernel
theorem dX1_findId_44 : decode cX1_findId 44 = .ok (.iconst (-1), 1) := by decide +kernel
theorem dX1_findId_45 : decode cX1_findId 45 = .ok (.ireturn, 1) := by decide +kernel
theorem dX1_missingCount_0 : decode cX1_missingCount 0 = .ok (.aload_n 0, 1) := by decide +kernel
theorem dX1_missingCount_1 : decode cX1_missingCount 1 = .ok (.getfield 37, 3) := by decide +kernel
theorem dX1_missingCount_4 : decode cX1_missingCount 4 = .ok (.aload_n 0, 1) := by decide +kernel
theorem dX1_missingCount_5 : decode cX1_missingCount 5 = .ok (.iconst 0, 1) := by decide +kernel
theorem dX1_missingCount_6 : decode cX1_missingCount 6 = .ok (.invokevirtual 49, 3) := by decide +kernel
theorem dX1_missingCount_9 : decode cX1_missingCount 9 = .ok (.isub, 1) := by decide +kernel
theorem dX1_missingCount_10 : decode cX1_missingCount 10 = .ok (.ireturn, 1) := by decide +kernel
theorem dX1_sizeOf_0 : decode cX1_sizeOf 0 = .ok (.iload_n 1, 1) := by decide +kernel
theorem dX1_sizeOf_1 : decode cX1_sizeOf 1 = .ok (.ifCond .lt 13, 3) := by decide +kernel
theorem dX1_sizeOf_4 : decode cX1_sizeOf 4 = .ok (.iload_n 1, 1) := by decide +kernel
theorem dX1_sizeOf_5 : decode cX1_sizeOf 5 = .ok (.bipush 10, 2) := by decide +kernel
theorem dX1_sizeOf_7 : decode cX1_sizeOf 7 = .ok (.if_icmp .ge 7, 3) := by decide +kernel
theorem dX1_sizeOf_10 : decode cX1_sizeOf 10 = .ok (.iconst 1, 1) := by decide +kernel
theorem dX1_sizeOf_11 : decode cX1_sizeOf 11 = .ok (.goto 4, 3) := by decide +kernel
theorem dX1_sizeOf_14 : decode cX1_sizeOf 14 = .ok (.iconst 0, 1) := by decide +kernel
theorem dX1_sizeOf_15 : decode cX1_sizeOf 15 = .ok (.istore_n 2, 1) := by decide +kernel
theorem dX1_sizeOf_16 : decode cX1_sizeOf 16 = .ok (.iload_n 2, 1) := by decide +kernel
theorem dX1_sizeOf_17 : decode cX1_sizeOf 17 = .ok (.ifCond .eq 17, 3) := by decide +kernel
theorem dX1_sizeOf_20 : decode cX1_sizeOf 20 = .ok (.aload_n 0, 1) := by decide +kernel
theorem dX1_sizeOf_21 : decode cX1_sizeOf 21 = .ok (.getfield 24, 3) := by decide +kernel
theorem dX1_sizeOf_24 : decode cX1_sizeOf 24 = .ok (.iload_n 1, 1) := by decide +kernel
theorem dX1_sizeOf_25 : decode cX1_sizeOf 25 = .ok (.iaload, 1) := by decide +kernel
theorem dX1_sizeOf_26 : decode cX1_sizeOf 26 = .ok (.bipush 60, 2) := by decide +kernel
theorem dX1_sizeOf_28 : decode cX1_sizeOf 28 = .ok (.invokestatic 52, 3) := by decide +kernel
theorem dX1_sizeOf_31 : decode cX1_sizeOf 31 = .ok (.goto 4, 3) := by decide +kernel
theorem dX1_sizeOf_34 : decode cX1_sizeOf 34 = .ok (.iconst 0, 1) := by decide +kernel
theorem dX1_sizeOf_35 : decode cX1_sizeOf 35 = .ok (.ireturn, 1) := by decide +kernel
theorem dX1_isFull_0 : decode cX1_isFull 0 = .ok (.aload_n 0, 1) := by decide +kernel
theorem dX1_isFull_1 : decode cX1_isFull 1 = .ok (.iload_n 1, 1) := by decide +kernel
theorem dX1_isFull_2 : decode cX1_isFull 2 = .ok (.invokevirtual 49, 3) := by decide +kernel
theorem dX1_isFull_5 : decode cX1_isFull 5 = .ok (.iload_n 1, 1) := by decide +kernel
theorem dX1_isFull_6 : decode cX1_isFull 6 = .ok (.ifCond .ne 8, 3) := by decide +kernel
theorem dX1_isFull_9 : decode cX1_isFull 9 = .ok (.bipush 60, 2) := by decide +kernel
theorem dX1_isFull_11 : decode cX1_isFull 11 = .ok (.goto 5, 3) := by decide +kernel
theorem dX1_isFull_14 : decode cX1_isFull 14 = .ok (.bipush 6, 2) := by decide +kernel
theorem dX1_isFull_16 : decode cX1_isFull 16 = .ok (.if_icmp .lt 7, 3) := by decide +kernel
theorem dX1_isFull_19 : decode cX1_isFull 19 = .ok (.iconst 1, 1) := by decide +kernel
theorem dX1_isFull_20 : decode cX1_isFull 20 = .ok (.goto 4, 3) := by decide +kernel
theorem dX1_isFull_23 : decode cX1_isFull 23 = .ok (.iconst 0, 1) := by decide +kernel
theorem dX1_isFull_24 : decode cX1_isFull 24 = .ok (.ireturn, 1) := by decide +kernel
theorem dX1_idAt_0 : decode cX1_idAt 0 = .ok (.iload_n 2, 1) := by decide +kernel
theorem dX1_idAt_1 : decode cX1_idAt 1 = .ok (.ifCond .lt 16, 3) := by decide +kernel
theorem dX1_idAt_4 : decode cX1_idAt 4 = .ok (.iload_n 2, 1) := by decide +kernel
theorem dX1_idAt_5 : decode cX1_idAt 5 = .ok (.aload_n 0, 1) := by decide +kernel
theorem dX1_idAt_6 : decode cX1_idAt 6 = .ok (.iload_n 1, 1) := by decide +kernel
theorem dX1_idAt_7 : decode cX1_idAt 7 = .ok (.invokevirtual 49, 3) := by decide +kernel
theorem dX1_idAt_10 : decode cX1_idAt 10 = .ok (.if_icmp .ge 7, 3) := by decide +kernel
theorem dX1_idAt_13 : decode cX1_idAt 13 = .ok (.iconst 1, 1) := by decide +kernel
theorem dX1_idAt_14 : decode cX1_idAt 14 = .ok (.goto 4, 3) := by decide +kernel
theorem dX1_idAt_17 : decode cX1_idAt 17 = .ok (.iconst 0, 1) := by decide +kernel
theorem dX1_idAt_18 : decode cX1_idAt 18 = .ok (.istore_n 3, 1) := by decide +kernel
theorem dX1_idAt_19 : decode cX1_idAt 19 = .ok (.iload_n 3, 1) := by decide +kernel
theorem dX1_idAt_20 : decode cX1_idAt 20 = .ok (.ifCond .eq 17, 3) := by decide +kernel
theorem dX1_idAt_23 : decode cX1_idAt 23 = .ok (.aload_n 0, 1) := by decide +kernel
theorem dX1_idAt_24 : decode cX1_idAt 24 = .ok (.getfield 27, 3) := by decide +kernel
theorem dX1_idAt_27 : decode cX1_idAt 27 = .ok (.iload_n 1, 1) := by decide +kernel
theorem dX1_idAt_28 : decode cX1_idAt 28 = .ok (.bipush 60, 2) := by decide +kernel
theorem dX1_idAt_30 : decode cX1_idAt 30 = .ok (.imul, 1) := by decide +kernel
theorem dX1_idAt_31 : decode cX1_idAt 31 = .ok (.iload_n 2, 1) := by decide +kernel
theorem dX1_idAt_32 : decode cX1_idAt 32 = .ok (.iadd, 1) := by decide +kernel
theorem dX1_idAt_33 : decode cX1_idAt 33 = .ok (.iaload, 1) := by decide +kernel
theorem dX1_idAt_34 : decode cX1_idAt 34 = .ok (.goto 4, 3) := by decide +kernel
theorem dX1_idAt_37 : decode cX1_idAt 37 = .ok (.iconst (-1), 1) := by decide +kernel
theorem dX1_idAt_38 : decode cX1_idAt 38 = .ok (.ireturn, 1) := by decide +kernel
theorem dX1_stampAt_0 : decode cX1_stampAt 0 = .ok (.iload_n 2, 1) := by decide +kernel
theorem dX1_stampAt_1 : decode cX1_stampAt 1 = .ok (.ifCond .lt 16, 3) := by decide +kernel
theorem dX1_stampAt_4 : decode cX1_stampAt 4 = .ok (.iload_n 2, 1) := by decide +kernel
theorem dX1_stampAt_5 : decode cX1_stampAt 5 = .ok (.aload_n 0, 1) := by decide +kernel
theorem dX1_stampAt_6 : decode cX1_stampAt 6 = .ok (.iload_n 1, 1) := by decide +kernel
theorem dX1_stampAt_7 : decode cX1_stampAt 7 = .ok (.invokevirtual 49, 3) := by decide +kernel
theorem dX1_stampAt_10 : decode cX1_stampAt 10 = .ok (.if_icmp .ge 7, 3) := by decide +kernel
theorem dX1_stampAt_13 : decode cX1_stampAt 13 = .ok (.iconst 1, 1) := by decide +kernel
theorem dX1_stampAt_14 : decode cX1_stampAt 14 = .ok (.goto 4, 3) := by decide +kernel
theorem dX1_stampAt_17 : decode cX1_stampAt 17 = .ok (.iconst 0, 1) := by decide +kernel
theorem dX1_stampAt_18 : decode cX1_stampAt 18 = .ok (.istore_n 3, 1) := by decide +kernel
theorem dX1_stampAt_19 : decode cX1_stampAt 19 = .ok (.iload_n 3, 1) := by decide +kernel
theorem dX1_stampAt_20 : decode cX1_stampAt 20 = .ok (.ifCond .eq 17, 3) := by decide +kernel
theorem dX1_stampAt_23 : decode cX1_stampAt 23 = .ok (.aload_n 0, 1) := by decide +kernel
theorem dX1_stampAt_24 : decode cX1_stampAt 24 = .ok (.getfield 30, 3) := by decide +kernel
theorem dX1_stampAt_27 : decode cX1_stampAt 27 = .ok (.iload_n 1, 1) := by decide +kernel
theorem dX1_stampAt_28 : decode cX1_stampAt 28 = .ok (.bipush 60, 2) := by decide +kernel
theorem dX1_stampAt_30 : decode cX1_stampAt 30 = .ok (.imul, 1) := by decide +kernel
theorem dX1_stampAt_31 : decode cX1_stampAt 31 = .ok (.iload_n 2, 1) := by decide +kernel
theorem dX1_stampAt_32 : decode cX1_stampAt 32 = .ok (.iadd, 1) := by decide +kernel
theorem dX1_stampAt_33 : decode cX1_stampAt 33 = .ok (.iaload, 1) := by decide +kernel
theorem dX1_stampAt_34 : decode cX1_stampAt 34 = .ok (.goto 4, 3) := by decide +kernel
theorem dX1_stampAt_37 : decode cX1_stampAt 37 = .ok (.iconst (-1), 1) := by decide +kernel
theorem dX1_stampAt_38 : decode cX1_stampAt 38 = .ok (.ireturn, 1) := by decide +kernel
theorem dX1_partOf_0 : decode cX1_partOf 0 = .ok (.aload_n 0, 1) := by decide +kernel
theorem dX1_partOf_1 : decode cX1_partOf 1 = .ok (.iload_n 1, 1) := by decide +kernel
theorem dX1_partOf_2 : decode cX1_partOf 2 = .ok (.iload_n 2, 1) := by decide +kernel
theorem dX1_partOf_3 : decode cX1_partOf 3 = .ok (.invokevirtual 58, 3) := by decide +kernel
theorem dX1_partOf_6 : decode cX1_partOf 6 = .ok (.istore 4, 2) := by decide +kernel
theorem dX1_partOf_8 : decode cX1_partOf 8 = .ok (.iload 4, 2) := by decide +kernel
theorem dX1_partOf_10 : decode cX1_partOf 10 = .ok (.ifCond .lt 10, 3) := by decide +kernel
theorem dX1_partOf_13 : decode cX1_partOf 13 = .ok (.iload 4, 2) := by decide +kernel
theorem dX1_partOf_15 : decode cX1_partOf 15 = .ok (.bipush 60, 2) := by decide +kernel
theorem dX1_partOf_17 : decode cX1_partOf 17 = .ok (.if_icmp .lt 5, 3) := by decide +kernel
theorem dX1_partOf_20 : decode cX1_partOf 20 = .ok (.iconst (-1), 1) := by decide +kernel
theorem dX1_partOf_21 : decode cX1_partOf 21 = .ok (.ireturn, 1) := by decide +kernel
theorem dX1_partOf_22 : decode cX1_partOf 22 = .ok (.iload_n 3, 1) := by decide +kernel
theorem dX1_partOf_23 : decode cX1_partOf 23 = .ok (.tableswitch 61 0 3 #[29, 37, 45, 53], 29) := by decide +kernel
theorem dX1_partOf_52 : decode cX1_partOf 52 = .ok (.aload_n 0, 1) := by decide +kernel
theorem dX1_partOf_53 : decode cX1_partOf 53 = .ok (.getfield 9, 3) := by decide +kernel
theorem dX1_partOf_56 : decode cX1_partOf 56 = .ok (.iload 4, 2) := by decide +kernel
theorem dX1_partOf_58 : decode cX1_partOf 58 = .ok (.iaload, 1) := by decide +kernel
theorem dX1_partOf_59 : decode cX1_partOf 59 = .ok (.ireturn, 1) := by decide +kernel
theorem dX1_partOf_60 : decode cX1_partOf 60 = .ok (.aload_n 0, 1) := by decide +kernel
theorem dX1_partOf_61 : decode cX1_partOf 61 = .ok (.getfield 15, 3) := by decide +kernel
theorem dX1_partOf_64 : decode cX1_partOf 64 = .ok (.iload 4, 2) := by decide +kernel
theorem dX1_partOf_66 : decode cX1_partOf 66 = .ok (.iaload, 1) := by decide +kernel
theorem dX1_partOf_67 : decode cX1_partOf 67 = .ok (.ireturn, 1) := by decide +kernel
theorem dX1_partOf_68 : decode cX1_partOf 68 = .ok (.aload_n 0, 1) := by decide +kernel
theorem dX1_partOf_69 : decode cX1_partOf 69 = .ok (.getfield 18, 3) := by decide +kernel
theorem dX1_partOf_72 : decode cX1_partOf 72 = .ok (.iload 4, 2) := by decide +kernel
theorem dX1_partOf_74 : decode cX1_partOf 74 = .ok (.iaload, 1) := by decide +kernel
theorem dX1_partOf_75 : decode cX1_partOf 75 = .ok (.ireturn, 1) := by decide +kernel
theorem dX1_partOf_76 : decode cX1_partOf 76 = .ok (.aload_n 0, 1) := by decide +kernel
theorem dX1_partOf_77 : decode cX1_partOf 77 = .ok (.getfield 21, 3) := by decide +kernel
theorem dX1_partOf_80 : decode cX1_partOf 80 = .ok (.iload 4, 2) := by decide +kernel
theorem dX1_partOf_82 : decode cX1_partOf 82 = .ok (.iaload, 1) := by decide +kernel
theorem dX1_partOf_83 : decode cX1_partOf 83 = .ok (.ireturn, 1) := by decide +kernel
theorem dX1_partOf_84 : decode cX1_partOf 84 = .ok (.aload_n 0, 1) := by decide +kernel
theorem dX1_partOf_85 : decode cX1_partOf 85 = .ok (.iload_n 1, 1) := by decide +kernel
theorem dX1_partOf_86 : decode cX1_partOf 86 = .ok (.iload_n 2, 1) := by decide +kernel
theorem dX1_partOf_87 : decode cX1_partOf 87 = .ok (.invokevirtual 61, 3) := by decide +kernel
theorem dX1_partOf_90 : decode cX1_partOf 90 = .ok (.ireturn, 1) := by decide +kernel
theorem dX1_holds_0 : decode cX1_holds 0 = .ok (.iconst 0, 1) := by decide +kernel
theorem dX1_holds_1 : decode cX1_holds 1 = .ok (.istore_n 3, 1) := by decide +kernel
theorem dX1_holds_2 : decode cX1_holds 2 = .ok (.iload_n 3, 1) := by decide +kernel
theorem dX1_holds_3 : decode cX1_holds 3 = .ok (.aload_n 0, 1) := by decide +kernel
theorem dX1_holds_4 : decode cX1_holds 4 = .ok (.iload_n 1, 1) := by decide +kernel
theorem dX1_holds_5 : decode cX1_holds 5 = .ok (.invokevirtual 49, 3) := by decide +kernel
theorem dX1_holds_8 : decode cX1_holds 8 = .ok (.if_icmp .ge 26, 3) := by decide +kernel
theorem dX1_holds_11 : decode cX1_holds 11 = .ok (.aload_n 0, 1) := by decide +kernel
theorem dX1_holds_12 : decode cX1_holds 12 = .ok (.getfield 27, 3) := by decide +kernel
theorem dX1_holds_15 : decode cX1_holds 15 = .ok (.iload_n 1, 1) := by decide +kernel
theorem dX1_holds_16 : decode cX1_holds 16 = .ok (.bipush 60, 2) := by decide +kernel
theorem dX1_holds_18 : decode cX1_holds 18 = .ok (.imul, 1) := by decide +kernel
theorem dX1_holds_19 : decode cX1_holds 19 = .ok (.iload_n 3, 1) := by decide +kernel
theorem dX1_holds_20 : decode cX1_holds 20 = .ok (.iadd, 1) := by decide +kernel
theorem dX1_holds_21 : decode cX1_holds 21 = .ok (.iaload, 1) := by decide +kernel
theorem dX1_holds_22 : decode cX1_holds 22 = .ok (.iload_n 2, 1) := by decide +kernel
theorem dX1_holds_23 : decode cX1_holds 23 = .ok (.if_icmp .ne 5, 3) := by decide +kernel
theorem dX1_holds_26 : decode cX1_holds 26 = .ok (.iconst 1, 1) := by decide +kernel
theorem dX1_holds_27 : decode cX1_holds 27 = .ok (.ireturn, 1) := by decide +kernel
theorem dX1_holds_28 : decode cX1_holds 28 = .ok (.iinc 3 1, 3) := by decide +kernel
theorem dX1_holds_31 : decode cX1_holds 31 = .ok (.goto (-29), 3) := by decide +kernel
theorem dX1_holds_34 : decode cX1_holds 34 = .ok (.iconst 0, 1) := by decide +kernel
theorem dX1_holds_35 : decode cX1_holds 35 = .ok (.ireturn, 1) := by decide +kernel
theorem dX1_storesWith_0 : decode cX1_storesWith 0 = .ok (.iconst 0, 1) := by decide +kernel
theorem dX1_storesWith_1 : decode cX1_storesWith 1 = .ok (.istore_n 2, 1) := by decide +kernel
theorem dX1_storesWith_2 : decode cX1_storesWith 2 = .ok (.iconst 0, 1) := by decide +kernel
theorem dX1_storesWith_3 : decode cX1_storesWith 3 = .ok (.istore_n 3, 1) := by decide +kernel
theorem dX1_storesWith_4 : decode cX1_storesWith 4 = .ok (.iload_n 3, 1) := by decide +kernel
theorem dX1_storesWith_5 : decode cX1_storesWith 5 = .ok (.bipush 10, 2) := by decide +kernel
theorem dX1_storesWith_7 : decode cX1_storesWith 7 = .ok (.if_icmp .ge 30, 3) := by decide +kernel
theorem dX1_storesWith_10 : decode cX1_storesWith 10 = .ok (.iload_n 2, 1) := by decide +kernel
theorem dX1_storesWith_11 : decode cX1_storesWith 11 = .ok (.iload_n 3, 1) := by decide +kernel
theorem dX1_storesWith_12 : decode cX1_storesWith 12 = .ok (.ifCond .eq 16, 3) := by decide +kernel
theorem dX1_storesWith_15 : decode cX1_storesWith 15 = .ok (.aload_n 0, 1) := by decide +kernel
theorem dX1_storesWith_16 : decode cX1_storesWith 16 = .ok (.iload_n 3, 1) := by decide +kernel
theorem dX1_storesWith_17 : decode cX1_storesWith 17 = .ok (.iload_n 1, 1) := by decide +kernel
theorem dX1_storesWith_18 : decode cX1_storesWith 18 = .ok (.invokevirtual 64, 3) := by decide +kernel
theorem dX1_storesWith_21 : decode cX1_storesWith 21 = .ok (.ifCond .eq 7, 3) := by decide +kernel
theorem dX1_storesWith_24 : decode cX1_storesWith 24 = .ok (.iconst 1, 1) := by decide +kernel
theorem dX1_storesWith_25 : decode cX1_storesWith 25 = .ok (.goto 4, 3) := by decide +kernel
theorem dX1_storesWith_28 : decode cX1_storesWith 28 = .ok (.iconst 0, 1) := by decide +kernel
theorem dX1_storesWith_29 : decode cX1_storesWith 29 = .ok (.iadd, 1) := by decide +kernel
theorem dX1_storesWith_30 : decode cX1_storesWith 30 = .ok (.istore_n 2, 1) := by decide +kernel
theorem dX1_storesWith_31 : decode cX1_storesWith 31 = .ok (.iinc 3 1, 3) := by decide +kernel
theorem dX1_storesWith_34 : decode cX1_storesWith 34 = .ok (.goto (-30), 3) := by decide +kernel
theorem dX1_storesWith_37 : decode cX1_storesWith 37 = .ok (.iload_n 2, 1) := by decide +kernel
theorem dX1_storesWith_38 : decode cX1_storesWith 38 = .ok (.ireturn, 1) := by decide +kernel
theorem dX1_wrongStampCount_0 : decode cX1_wrongStampCount 0 = .ok (.iconst 0, 1) := by decide +kernel
theorem dX1_wrongStampCount_1 : decode cX1_wrongStampCount 1 = .ok (.istore_n 1, 1) := by decide +kernel
theorem dX1_wrongStampCount_2 : decode cX1_wrongStampCount 2 = .ok (.iconst 0, 1) := by decide +kernel
theorem dX1_wrongStampCount_3 : decode cX1_wrongStampCount 3 = .ok (.istore_n 2, 1) := by decide +kernel
theorem dX1_wrongStampCount_4 : decode cX1_wrongStampCount 4 = .ok (.iload_n 2, 1) := by decide +kernel
theorem dX1_wrongStampCount_5 : decode cX1_wrongStampCount 5 = .ok (.aload_n 0, 1) := by decide +kernel
theorem dX1_wrongStampCount_6 : decode cX1_wrongStampCount 6 = .ok (.iconst 0, 1) := by decide +kernel
theorem dX1_wrongStampCount_7 : decode cX1_wrongStampCount 7 = .ok (.invokevirtual 49, 3) := by decide +kernel
theorem dX1_wrongStampCount_10 : decode cX1_wrongStampCount 10 = .ok (.if_icmp .ge 34, 3) := by decide +kernel
theorem dX1_wrongStampCount_13 : decode cX1_wrongStampCount 13 = .ok (.iload_n 1, 1) := by decide +kernel
theorem dX1_wrongStampCount_14 : decode cX1_wrongStampCount 14 = .ok (.aload_n 0, 1) := by decide +kernel
theorem dX1_wrongStampCount_15 : decode cX1_wrongStampCount 15 = .ok (.iconst 0, 1) := by decide +kernel
theorem dX1_wrongStampCount_16 : decode cX1_wrongStampCount 16 = .ok (.iload_n 2, 1) := by decide +kernel
theorem dX1_wrongStampCount_17 : decode cX1_wrongStampCount 17 = .ok (.iconst 4, 1) := by decide +kernel
theorem dX1_wrongStampCount_18 : decode cX1_wrongStampCount 18 = .ok (.invokevirtual 68, 3) := by decide +kernel
theorem dX1_wrongStampCount_21 : decode cX1_wrongStampCount 21 = .ok (.aload_n 0, 1) := by decide +kernel
theorem dX1_wrongStampCount_22 : decode cX1_wrongStampCount 22 = .ok (.iconst 0, 1) := by decide +kernel
theorem dX1_wrongStampCount_23 : decode cX1_wrongStampCount 23 = .ok (.iload_n 2, 1) := by decide +kernel
theorem dX1_wrongStampCount_24 : decode cX1_wrongStampCount 24 = .ok (.iconst 3, 1) := by decide +kernel
theorem dX1_wrongStampCount_25 : decode cX1_wrongStampCount 25 = .ok (.invokevirtual 68, 3) := by decide +kernel
theorem dX1_wrongStampCount_28 : decode cX1_wrongStampCount 28 = .ok (.if_icmp .ne 7, 3) := by decide +kernel
theorem dX1_wrongStampCount_31 : decode cX1_wrongStampCount 31 = .ok (.iconst 0, 1) := by decide +kernel
theorem dX1_wrongStampCount_32 : decode cX1_wrongStampCount 32 = .ok (.goto 4, 3) := by decide +kernel
theorem dX1_wrongStampCount_35 : decode cX1_wrongStampCount 35 = .ok (.iconst 1, 1) := by decide +kernel
theorem dX1_wrongStampCount_36 : decode cX1_wrongStampCount 36 = .ok (.iadd, 1) := by decide +kernel
theorem dX1_wrongStampCount_37 : decode cX1_wrongStampCount 37 = .ok (.istore_n 1, 1) := by decide +kernel
theorem dX1_wrongStampCount_38 : decode cX1_wrongStampCount 38 = .ok (.iinc 2 1, 3) := by decide +kernel
theorem dX1_wrongStampCount_41 : decode cX1_wrongStampCount 41 = .ok (.goto (-37), 3) := by decide +kernel
theorem dX1_wrongStampCount_44 : decode cX1_wrongStampCount 44 = .ok (.iload_n 1, 1) := by decide +kernel
theorem dX1_wrongStampCount_45 : decode cX1_wrongStampCount 45 = .ok (.ireturn, 1) := by decide +kernel
theorem dX1_put_0 : decode cX1_put 0 = .ok (.aload_n 0, 1) := by decide +kernel
theorem dX1_put_1 : decode cX1_put 1 = .ok (.iload_n 1, 1) := by decide +kernel
theorem dX1_put_2 : decode cX1_put 2 = .ok (.invokevirtual 49, 3) := by decide +kernel
theorem dX1_put_5 : decode cX1_put 5 = .ok (.istore 4, 2) := by decide +kernel
theorem dX1_put_7 : decode cX1_put 7 = .ok (.iload_n 1, 1) := by decide +kernel
theorem dX1_put_8 : decode cX1_put 8 = .ok (.invokestatic 72, 3) := by decide +kernel
theorem dX1_put_11 : decode cX1_put 11 = .ok (.ifCond .eq 46, 3) := by decide +kernel
theorem dX1_put_14 : decode cX1_put 14 = .ok (.iload 4, 2) := by decide +kernel
theorem dX1_put_16 : decode cX1_put 16 = .ok (.bipush 60, 2) := by decide +kernel
theorem dX1_put_18 : decode cX1_put 18 = .ok (.if_icmp .ge 39, 3) := by decide +kernel
theorem dX1_put_21 : decode cX1_put 21 = .ok (.aload_n 0, 1) := by decide +kernel
theorem dX1_put_22 : decode cX1_put 22 = .ok (.getfield 27, 3) := by decide +kernel
theorem dX1_put_25 : decode cX1_put 25 = .ok (.iload_n 1, 1) := by decide +kernel
theorem dX1_put_26 : decode cX1_put 26 = .ok (.bipush 60, 2) := by decide +kernel
theorem dX1_put_28 : decode cX1_put 28 = .ok (.imul, 1) := by decide +kernel
theorem dX1_put_29 : decode cX1_put 29 = .ok (.iload 4, 2) := by decide +kernel
theorem dX1_put_31 : decode cX1_put 31 = .ok (.iadd, 1) := by decide +kernel
theorem dX1_put_32 : decode cX1_put 32 = .ok (.iload_n 2, 1) := by decide +kernel
theorem dX1_put_33 : decode cX1_put 33 = .ok (.iastore, 1) := by decide +kernel
theorem dX1_put_34 : decode cX1_put 34 = .ok (.aload_n 0, 1) := by decide +kernel
theorem dX1_put_35 : decode cX1_put 35 = .ok (.getfield 30, 3) := by decide +kernel
theorem dX1_put_38 : decode cX1_put 38 = .ok (.iload_n 1, 1) := by decide +kernel
theorem dX1_put_39 : decode cX1_put 39 = .ok (.bipush 60, 2) := by decide +kernel
theorem dX1_put_41 : decode cX1_put 41 = .ok (.imul, 1) := by decide +kernel
theorem dX1_put_42 : decode cX1_put 42 = .ok (.iload 4, 2) := by decide +kernel
theorem dX1_put_44 : decode cX1_put 44 = .ok (.iadd, 1) := by decide +kernel
theorem dX1_put_45 : decode cX1_put 45 = .ok (.iload_n 3, 1) := by decide +kernel
theorem dX1_put_46 : decode cX1_put 46 = .ok (.iastore, 1) := by decide +kernel
theorem dX1_put_47 : decode cX1_put 47 = .ok (.aload_n 0, 1) := by decide +kernel
theorem dX1_put_48 : decode cX1_put 48 = .ok (.getfield 24, 3) := by decide +kernel
theorem dX1_put_51 : decode cX1_put 51 = .ok (.iload_n 1, 1) := by decide +kernel
theorem dX1_put_52 : decode cX1_put 52 = .ok (.iload 4, 2) := by decide +kernel
theorem dX1_put_54 : decode cX1_put 54 = .ok (.iconst 1, 1) := by decide +kernel
theorem dX1_put_55 : decode cX1_put 55 = .ok (.iadd, 1) := by decide +kernel
theorem dX1_put_56 : decode cX1_put 56 = .ok (.iastore, 1) := by decide +kernel
theorem dX1_put_57 : decode cX1_put 57 = .ok (.return_, 1) := by decide +kernel
theorem dX1_removeFirst_0 : decode cX1_removeFirst 0 = .ok (.aload_n 0, 1) := by decide +kernel
theorem dX1_removeFirst_1 : decode cX1_removeFirst 1 = .ok (.iload_n 1, 1) := by decide +kernel
theorem dX1_removeFirst_2 : decode cX1_removeFirst 2 = .ok (.invokevirtual 49, 3) := by decide +kernel
theorem dX1_removeFirst_5 : decode cX1_removeFirst 5 = .ok (.istore_n 2, 1) := by decide +kernel
theorem dX1_removeFirst_6 : decode cX1_removeFirst 6 = .ok (.iload_n 2, 1) := by decide +kernel
theorem dX1_removeFirst_7 : decode cX1_removeFirst 7 = .ok (.ifCond .ne 4, 3) := by decide +kernel
theorem dX1_removeFirst_10 : decode cX1_removeFirst 10 = .ok (.return_, 1) := by decide +kernel
theorem dX1_removeFirst_11 : decode cX1_removeFirst 11 = .ok (.iconst 1, 1) := by decide +kernel
theorem dX1_removeFirst_12 : decode cX1_removeFirst 12 = .ok (.istore_n 3, 1) := by decide +kernel
theorem dX1_removeFirst_13 : decode cX1_removeFirst 13 = .ok (.iload_n 3, 1) := by decide +kernel
theorem dX1_removeFirst_14 : decode cX1_removeFirst 14 = .ok (.iload_n 2, 1) := by decide +kernel
theorem dX1_removeFirst_15 : decode cX1_removeFirst 15 = .ok (.if_icmp .ge 49, 3) := by decide +kernel
theorem dX1_removeFirst_18 : decode cX1_removeFirst 18 = .ok (.iload_n 1, 1) := by decide +kernel
theorem dX1_removeFirst_19 : decode cX1_removeFirst 19 = .ok (.bipush 60, 2) := by decide +kernel
theorem dX1_removeFirst_21 : decode cX1_removeFirst 21 = .ok (.imul, 1) := by decide +kernel
theorem dX1_removeFirst_22 : decode cX1_removeFirst 22 = .ok (.iload_n 3, 1) := by decide +kernel
theorem dX1_removeFirst_23 : decode cX1_removeFirst 23 = .ok (.iadd, 1) := by decide +kernel
theorem dX1_removeFirst_24 : decode cX1_removeFirst 24 = .ok (.istore 4, 2) := by decide +kernel
theorem dX1_removeFirst_26 : decode cX1_removeFirst 26 = .ok (.aload_n 0, 1) := by decide +kernel
theorem dX1_removeFirst_27 : decode cX1_removeFirst 27 = .ok (.getfield 27, 3) := by decide +kernel
theorem dX1_removeFirst_30 : decode cX1_removeFirst 30 = .ok (.iload 4, 2) := by decide +kernel
theorem dX1_removeFirst_32 : decode cX1_removeFirst 32 = .ok (.iconst 1, 1) := by decide +kernel
theorem dX1_removeFirst_33 : decode cX1_removeFirst 33 = .ok (.isub, 1) := by decide +kernel
theorem dX1_removeFirst_34 : decode cX1_removeFirst 34 = .ok (.aload_n 0, 1) := by decide +kernel
theorem dX1_removeFirst_35 : decode cX1_removeFirst 35 = .ok (.getfield 27, 3) := by decide +kernel
theorem dX1_removeFirst_38 : decode cX1_removeFirst 38 = .ok (.iload 4, 2) := by decide +kernel
theorem dX1_removeFirst_40 : decode cX1_removeFirst 40 = .ok (.iaload, 1) := by decide +kernel
theorem dX1_removeFirst_41 : decode cX1_removeFirst 41 = .ok (.iastore, 1) := by decide +kernel
theorem dX1_removeFirst_42 : decode cX1_removeFirst 42 = .ok (.aload_n 0, 1) := by decide +kernel
theorem dX1_removeFirst_43 : decode cX1_removeFirst 43 = .ok (.getfield 30, 3) := by decide +kernel
theorem dX1_removeFirst_46 : decode cX1_removeFirst 46 = .ok (.iload 4, 2) := by decide +kernel
theorem dX1_removeFirst_48 : decode cX1_removeFirst 48 = .ok (.iconst 1, 1) := by decide +kernel
theorem dX1_removeFirst_49 : decode cX1_removeFirst 49 = .ok (.isub, 1) := by decide +kernel
theorem dX1_removeFirst_50 : decode cX1_removeFirst 50 = .ok (.aload_n 0, 1) := by decide +kernel
theorem dX1_removeFirst_51 : decode cX1_removeFirst 51 = .ok (.getfield 30, 3) := by decide +kernel
theorem dX1_removeFirst_54 : decode cX1_removeFirst 54 = .ok (.iload 4, 2) := by decide +kernel
theorem dX1_removeFirst_56 : decode cX1_removeFirst 56 = .ok (.iaload, 1) := by decide +kernel
theorem dX1_removeFirst_57 : decode cX1_removeFirst 57 = .ok (.iastore, 1) := by decide +kernel
theorem dX1_removeFirst_58 : decode cX1_removeFirst 58 = .ok (.iinc 3 1, 3) := by decide +kernel
theorem dX1_removeFirst_61 : decode cX1_removeFirst 61 = .ok (.goto (-48), 3) := by decide +kernel
theorem dX1_removeFirst_64 : decode cX1_removeFirst 64 = .ok (.aload_n 0, 1) := by decide +kernel
theorem dX1_removeFirst_65 : decode cX1_removeFirst 65 = .ok (.getfield 24, 3) := by decide +kernel
theorem dX1_removeFirst_68 : decode cX1_removeFirst 68 = .ok (.iload_n 1, 1) := by decide +kernel
theorem dX1_removeFirst_69 : decode cX1_removeFirst 69 = .ok (.iload_n 2, 1) := by decide +kernel
theorem dX1_removeFirst_70 : decode cX1_removeFirst 70 = .ok (.iconst 1, 1) := by decide +kernel
theorem dX1_removeFirst_71 : decode cX1_removeFirst 71 = .ok (.isub, 1) := by decide +kernel
theorem dX1_removeFirst_72 : decode cX1_removeFirst 72 = .ok (.iastore, 1) := by decide +kernel
theorem dX1_removeFirst_73 : decode cX1_removeFirst 73 = .ok (.return_, 1) := by decide +kernel
theorem dX1_shiftStamps_0 : decode cX1_shiftStamps 0 = .ok (.iconst 0, 1) := by decide +kernel
theorem dX1_shiftStamps_1 : decode cX1_shiftStamps 1 = .ok (.istore_n 3, 1) := by decide +kernel
theorem dX1_shiftStamps_2 : decode cX1_shiftStamps 2 = .ok (.iload_n 3, 1) := by decide +kernel
theorem dX1_shiftStamps_3 : decode cX1_shiftStamps 3 = .ok (.aload_n 0, 1) := by decide +kernel
theorem dX1_shiftStamps_4 : decode cX1_shiftStamps 4 = .ok (.iload_n 1, 1) := by decide +kernel
theorem dX1_shiftStamps_5 : decode cX1_shiftStamps 5 = .ok (.invokevirtual 49, 3) := by decide +kernel
theorem dX1_shiftStamps_8 : decode cX1_shiftStamps 8 = .ok (.if_icmp .ge 24, 3) := by decide +kernel
theorem dX1_shiftStamps_11 : decode cX1_shiftStamps 11 = .ok (.aload_n 0, 1) := by decide +kernel
theorem dX1_shiftStamps_12 : decode cX1_shiftStamps 12 = .ok (.getfield 30, 3) := by decide +kernel
theorem dX1_shiftStamps_15 : decode cX1_shiftStamps 15 = .ok (.iload_n 1, 1) := by decide +kernel
theorem dX1_shiftStamps_16 : decode cX1_shiftStamps 16 = .ok (.bipush 60, 2) := by decide +kernel
theorem dX1_shiftStamps_18 : decode cX1_shiftStamps 18 = .ok (.imul, 1) := by decide +kernel
theorem dX1_shiftStamps_19 : decode cX1_shiftStamps 19 = .ok (.iload_n 3, 1) := by decide +kernel
theorem dX1_shiftStamps_20 : decode cX1_shiftStamps 20 = .ok (.iadd, 1) := by decide +kernel
theorem dX1_shiftStamps_21 : decode cX1_shiftStamps 21 = .ok (.dup2, 1) := by decide +kernel
theorem dX1_shiftStamps_22 : decode cX1_shiftStamps 22 = .ok (.iaload, 1) := by decide +kernel
theorem dX1_shiftStamps_23 : decode cX1_shiftStamps 23 = .ok (.iload_n 2, 1) := by decide +kernel
theorem dX1_shiftStamps_24 : decode cX1_shiftStamps 24 = .ok (.iadd, 1) := by decide +kernel
theorem dX1_shiftStamps_25 : decode cX1_shiftStamps 25 = .ok (.iastore, 1) := by decide +kernel
theorem dX1_shiftStamps_26 : decode cX1_shiftStamps 26 = .ok (.iinc 3 1, 3) := by decide +kernel
theorem dX1_shiftStamps_29 : decode cX1_shiftStamps 29 = .ok (.goto (-27), 3) := by decide +kernel
theorem dX1_shiftStamps_32 : decode cX1_shiftStamps 32 = .ok (.return_, 1) := by decide +kernel
theorem dX2_init_0 : decode cX2_init 0 = .ok (.aload_n 0, 1) := by decide +kernel
theorem dX2_init_1 : decode cX2_init 1 = .ok (.invokespecial 3, 3) := by decide +kernel
theorem dX2_init_4 : decode cX2_init 4 = .ok (.aload_n 0, 1) := by decide +kernel
theorem dX2_init_5 : decode cX2_init 5 = .ok (.bipush 100, 2) := by decide +kernel
theorem dX2_init_7 : decode cX2_init 7 = .ok (.newarray .boolean, 2) := by decide +kernel
theorem dX2_init_9 : decode cX2_init 9 = .ok (.putfield 9, 3) := by decide +kernel
theorem dX2_init_12 : decode cX2_init 12 = .ok (.aload_n 0, 1) := by decide +kernel
theorem dX2_init_13 : decode cX2_init 13 = .ok (.bipush 10, 2) := by decide +kernel
theorem dX2_init_15 : decode cX2_init 15 = .ok (.newarray .boolean, 2) := by decide +kernel
theorem dX2_init_17 : decode cX2_init 17 = .ok (.putfield 15, 3) := by decide +kernel
theorem dX2_init_20 : decode cX2_init 20 = .ok (.aload_n 0, 1) := by decide +kernel
theorem dX2_init_21 : decode cX2_init 21 = .ok (.bipush 10, 2) := by decide +kernel
theorem dX2_init_23 : decode cX2_init 23 = .ok (.newarray .int, 2) := by decide +kernel
theorem dX2_init_25 : decode cX2_init 25 = .ok (.putfield 18, 3) := by decide +kernel
theorem dX2_init_28 : decode cX2_init 28 = .ok (.aload_n 0, 1) := by decide +kernel
theorem dX2_init_29 : decode cX2_init 29 = .ok (.bipush 10, 2) := by decide +kernel
theorem dX2_init_31 : decode cX2_init 31 = .ok (.newarray .int, 2) := by decide +kernel
theorem dX2_init_33 : decode cX2_init 33 = .ok (.putfield 22, 3) := by decide +kernel
theorem dX2_init_36 : decode cX2_init 36 = .ok (.aload_n 0, 1) := by decide +kernel
theorem dX2_init_37 : decode cX2_init 37 = .ok (.bipush 10, 2) := by decide +kernel
theorem dX2_init_39 : decode cX2_init 39 = .ok (.newarray .int, 2) := by decide +kernel
theorem dX2_init_41 : decode cX2_init 41 = .ok (.putfield 25, 3) := by decide +kernel
theorem dX2_init_44 : decode cX2_init 44 = .ok (.aload_n 0, 1) := by decide +kernel
theorem dX2_init_45 : decode cX2_init 45 = .ok (.bipush 10, 2) := by decide +kernel
theorem dX2_init_47 : decode cX2_init 47 = .ok (.newarray .int, 2) := by decide +kernel
theorem dX2_init_49 : decode cX2_init 49 = .ok (.putfield 28, 3) := by decide +kernel
theorem dX2_init_52 : decode cX2_init 52 = .ok (.aload_n 0, 1) := by decide +kernel
theorem dX2_init_53 : decode cX2_init 53 = .ok (.bipush 10, 2) := by decide +kernel
theorem dX2_init_55 : decode cX2_init 55 = .ok (.newarray .int, 2) := by decide +kernel
theorem dX2_init_57 : decode cX2_init 57 = .ok (.putfield 31, 3) := by decide +kernel
theorem dX2_init_60 : decode cX2_init 60 = .ok (.aload_n 0, 1) := by decide +kernel
theorem dX2_init_61 : decode cX2_init 61 = .ok (.new 34, 3) := by decide +kernel
theorem dX2_init_64 : decode cX2_init 64 = .ok (.dup, 1) := by decide +kernel
theorem dX2_init_65 : decode cX2_init 65 = .ok (.invokespecial 36, 3) := by decide +kernel
theorem dX2_init_68 : decode cX2_init 68 = .ok (.putfield 37, 3) := by decide +kernel
theorem dX2_init_71 : decode cX2_init 71 = .ok (.aload_n 0, 1) := by decide +kernel
theorem dX2_init_72 : decode cX2_init 72 = .ok (.iconst 2, 1) := by decide +kernel
theorem dX2_init_73 : decode cX2_init 73 = .ok (.putfield 41, 3) := by decide +kernel
theorem dX2_init_76 : decode cX2_init 76 = .ok (.iconst 0, 1) := by decide +kernel
theorem dX2_init_77 : decode cX2_init 77 = .ok (.istore_n 1, 1) := by decide +kernel
theorem dX2_init_78 : decode cX2_init 78 = .ok (.iload_n 1, 1) := by decide +kernel
theorem dX2_init_79 : decode cX2_init 79 = .ok (.bipush 10, 2) := by decide +kernel
theorem dX2_init_81 : decode cX2_init 81 = .ok (.if_icmp .ge 38, 3) := by decide +kernel
theorem dX2_init_84 : decode cX2_init 84 = .ok (.aload_n 0, 1) := by decide +kernel
theorem dX2_init_85 : decode cX2_init 85 = .ok (.getfield 15, 3) := by decide +kernel
theorem dX2_init_88 : decode cX2_init 88 = .ok (.iload_n 1, 1) := by decide +kernel
theorem dX2_init_89 : decode cX2_init 89 = .ok (.iconst 1, 1) := by decide +kernel
theorem dX2_init_90 : decode cX2_init 90 = .ok (.bastore, 1) := by decide +kernel
theorem dX2_init_91 : decode cX2_init 91 = .ok (.aload_n 0, 1) := by decide +kernel
theorem dX2_init_92 : decode cX2_init 92 = .ok (.getfield 18, 3) := by decide +kernel
theorem dX2_init_95 : decode cX2_init 95 = .ok (.iload_n 1, 1) := by decide +kernel
theorem dX2_init_96 : decode cX2_init 96 = .ok (.iconst (-1), 1) := by decide +kernel
theorem dX2_init_97 : decode cX2_init 97 = .ok (.iastore, 1) := by decide +kernel
theorem dX2_init_98 : decode cX2_init 98 = .ok (.aload_n 0, 1) := by decide +kernel
theorem dX2_init_99 : decode cX2_init 99 = .ok (.getfield 22, 3) := by decide +kernel
theorem dX2_init_102 : decode cX2_init 102 = .ok (.iload_n 1, 1) := by decide +kernel
theorem dX2_init_103 : decode cX2_init 103 = .ok (.iload_n 1, 1) := by decide +kernel
theorem dX2_init_104 : decode cX2_init 104 = .ok (.ifCond .ne 7, 3) := by decide +kernel
theorem dX2_init_107 : decode cX2_init 107 = .ok (.iconst 0, 1) := by decide +kernel
theorem dX2_init_108 : decode cX2_init 108 = .ok (.goto 4, 3) := by decide +kernel
theorem dX2_init_111 : decode cX2_init 111 = .ok (.iconst (-1), 1) := by decide +kernel
theorem dX2_init_112 : decode cX2_init 112 = .ok (.iastore, 1) := by decide +kernel
theorem dX2_init_113 : decode cX2_init 113 = .ok (.iinc 1 1, 3) := by decide +kernel
theorem dX2_init_116 : decode cX2_init 116 = .ok (.goto (-38), 3) := by decide +kernel
theorem dX2_init_119 : decode cX2_init 119 = .ok (.return_, 1) := by decide +kernel
theorem dX2_copyFrom_0 : decode cX2_copyFrom 0 = .ok (.aload_n 1, 1) := by decide +kernel
theorem dX2_copyFrom_1 : decode cX2_copyFrom 1 = .ok (.getfield 9, 3) := by decide +kernel
theorem dX2_copyFrom_4 : decode cX2_copyFrom 4 = .ok (.aload_n 0, 1) := by decide +kernel
theorem dX2_copyFrom_5 : decode cX2_copyFrom 5 = .ok (.getfield 9, 3) := by decide +kernel
theorem dX2_copyFrom_8 : decode cX2_copyFrom 8 = .ok (.invokestatic 45, 3) := by decide +kernel
theorem dX2_copyFrom_11 : decode cX2_copyFrom 11 = .ok (.aload_n 1, 1) := by decide +kernel
theorem dX2_copyFrom_12 : decode cX2_copyFrom 12 = .ok (.getfield 15, 3) := by decide +kernel
theorem dX2_copyFrom_15 : decode cX2_copyFrom 15 = .ok (.aload_n 0, 1) := by decide +kernel
theorem dX2_copyFrom_16 : decode cX2_copyFrom 16 = .ok (.getfield 15, 3) := by decide +kernel
theorem dX2_copyFrom_19 : decode cX2_copyFrom 19 = .ok (.invokestatic 45, 3) := by decide +kernel
theorem dX2_copyFrom_22 : decode cX2_copyFrom 22 = .ok (.aload_n 1, 1) := by decide +kernel
theorem dX2_copyFrom_23 : decode cX2_copyFrom 23 = .ok (.getfield 18, 3) := by decide +kernel
theorem dX2_copyFrom_26 : decode cX2_copyFrom 26 = .ok (.aload_n 0, 1) := by decide +kernel
theorem dX2_copyFrom_27 : decode cX2_copyFrom 27 = .ok (.getfield 18, 3) := by decide +kernel
theorem dX2_copyFrom_30 : decode cX2_copyFrom 30 = .ok (.invokestatic 49, 3) := by decide +kernel
theorem dX2_copyFrom_33 : decode cX2_copyFrom 33 = .ok (.aload_n 1, 1) := by decide +kernel
theorem dX2_copyFrom_34 : decode cX2_copyFrom 34 = .ok (.getfield 22, 3) := by decide +kernel
theorem dX2_copyFrom_37 : decode cX2_copyFrom 37 = .ok (.aload_n 0, 1) := by decide +kernel
theorem dX2_copyFrom_38 : decode cX2_copyFrom 38 = .ok (.getfield 22, 3) := by decide +kernel
theorem dX2_copyFrom_41 : decode cX2_copyFrom 41 = .ok (.invokestatic 49, 3) := by decide +kernel
theorem dX2_copyFrom_44 : decode cX2_copyFrom 44 = .ok (.aload_n 1, 1) := by decide +kernel
theorem dX2_copyFrom_45 : decode cX2_copyFrom 45 = .ok (.getfield 25, 3) := by decide +kernel
theorem dX2_copyFrom_48 : decode cX2_copyFrom 48 = .ok (.aload_n 0, 1) := by decide +kernel
theorem dX2_copyFrom_49 : decode cX2_copyFrom 49 = .ok (.getfield 25, 3) := by decide +kernel
theorem dX2_copyFrom_52 : decode cX2_copyFrom 52 = .ok (.invokestatic 49, 3) := by decide +kernel
theorem dX2_copyFrom_55 : decode cX2_copyFrom 55 = .ok (.aload_n 1, 1) := by decide +kernel
theorem dX2_copyFrom_56 : decode cX2_copyFrom 56 = .ok (.getfield 28, 3) := by decide +kernel
theorem dX2_copyFrom_59 : decode cX2_copyFrom 59 = .ok (.aload_n 0, 1) := by decide +kernel
theorem dX2_copyFrom_60 : decode cX2_copyFrom 60 = .ok (.getfield 28, 3) := by decide +kernel
theorem dX2_copyFrom_63 : decode cX2_copyFrom 63 = .ok (.invokestatic 49, 3) := by decide +kernel
theorem dX2_copyFrom_66 : decode cX2_copyFrom 66 = .ok (.aload_n 1, 1) := by decide +kernel
theorem dX2_copyFrom_67 : decode cX2_copyFrom 67 = .ok (.getfield 31, 3) := by decide +kernel
theorem dX2_copyFrom_70 : decode cX2_copyFrom 70 = .ok (.aload_n 0, 1) := by decide +kernel
theorem dX2_copyFrom_71 : decode cX2_copyFrom 71 = .ok (.getfield 31, 3) := by decide +kernel
theorem dX2_copyFrom_74 : decode cX2_copyFrom 74 = .ok (.invokestatic 49, 3) := by decide +kernel
theorem dX2_copyFrom_77 : decode cX2_copyFrom 77 = .ok (.aload_n 0, 1) := by decide +kernel
theorem dX2_copyFrom_78 : decode cX2_copyFrom 78 = .ok (.getfield 37, 3) := by decide +kernel
theorem dX2_copyFrom_81 : decode cX2_copyFrom 81 = .ok (.aload_n 1, 1) := by decide +kernel
theorem dX2_copyFrom_82 : decode cX2_copyFrom 82 = .ok (.getfield 37, 3) := by decide +kernel
theorem dX2_copyFrom_85 : decode cX2_copyFrom 85 = .ok (.invokevirtual 52, 3) := by decide +kernel
theorem dX2_copyFrom_88 : decode cX2_copyFrom 88 = .ok (.aload_n 0, 1) := by decide +kernel
theorem dX2_copyFrom_89 : decode cX2_copyFrom 89 = .ok (.aload_n 1, 1) := by decide +kernel
theorem dX2_copyFrom_90 : decode cX2_copyFrom 90 = .ok (.getfield 56, 3) := by decide +kernel
theorem dX2_copyFrom_93 : decode cX2_copyFrom 93 = .ok (.putfield 56, 3) := by decide +kernel
theorem dX2_copyFrom_96 : decode cX2_copyFrom 96 = .ok (.aload_n 0, 1) := by decide +kernel
theorem dX2_copyFrom_97 : decode cX2_copyFrom 97 = .ok (.aload_n 1, 1) := by decide +kernel
theorem dX2_copyFrom_98 : decode cX2_copyFrom 98 = .ok (.getfield 41, 3) := by decide +kernel
theorem dX2_copyFrom_101 : decode cX2_copyFrom 101 = .ok (.putfield 41, 3) := by decide +kernel
theorem dX2_copyFrom_104 : decode cX2_copyFrom 104 = .ok (.aload_n 0, 1) := by decide +kernel
theorem dX2_copyFrom_105 : decode cX2_copyFrom 105 = .ok (.aload_n 1, 1) := by decide +kernel
theorem dX2_copyFrom_106 : decode cX2_copyFrom 106 = .ok (.getfield 59, 3) := by decide +kernel
theorem dX2_copyFrom_109 : decode cX2_copyFrom 109 = .ok (.putfield 59, 3) := by decide +kernel
theorem dX2_copyFrom_112 : decode cX2_copyFrom 112 = .ok (.aload_n 0, 1) := by decide +kernel
theorem dX2_copyFrom_113 : decode cX2_copyFrom 113 = .ok (.aload_n 1, 1) := by decide +kernel
theorem dX2_copyFrom_114 : decode cX2_copyFrom 114 = .ok (.getfield 62, 3) := by decide +kernel
theorem dX2_copyFrom_117 : decode cX2_copyFrom 117 = .ok (.putfield 62, 3) := by decide +kernel
theorem dX2_copyFrom_120 : decode cX2_copyFrom 120 = .ok (.aload_n 0, 1) := by decide +kernel
theorem dX2_copyFrom_121 : decode cX2_copyFrom 121 = .ok (.aload_n 1, 1) := by decide +kernel
theorem dX2_copyFrom_122 : decode cX2_copyFrom 122 = .ok (.getfield 65, 3) := by decide +kernel
theorem dX2_copyFrom_125 : decode cX2_copyFrom 125 = .ok (.putfield 65, 3) := by decide +kernel
theorem dX2_copyFrom_128 : decode cX2_copyFrom 128 = .ok (.aload_n 0, 1) := by decide +kernel
theorem dX2_copyFrom_129 : decode cX2_copyFrom 129 = .ok (.aload_n 1, 1) := by decide +kernel
theorem dX2_copyFrom_130 : decode cX2_copyFrom 130 = .ok (.getfield 68, 3) := by decide +kernel
theorem dX2_copyFrom_133 : decode cX2_copyFrom 133 = .ok (.putfield 68, 3) := by decide +kernel
theorem dX2_copyFrom_136 : decode cX2_copyFrom 136 = .ok (.aload_n 0, 1) := by decide +kernel
theorem dX2_copyFrom_137 : decode cX2_copyFrom 137 = .ok (.aload_n 1, 1) := by decide +kernel
theorem dX2_copyFrom_138 : decode cX2_copyFrom 138 = .ok (.getfield 71, 3) := by decide +kernel
theorem dX2_copyFrom_141 : decode cX2_copyFrom 141 = .ok (.putfield 71, 3) := by decide +kernel
theorem dX2_copyFrom_144 : decode cX2_copyFrom 144 = .ok (.return_, 1) := by decide +kernel
theorem dX2_setLink_0 : decode cX2_setLink 0 = .ok (.iload_n 1, 1) := by decide +kernel
theorem dX2_setLink_1 : decode cX2_setLink 1 = .ok (.invokestatic 74, 3) := by decide +kernel
theorem dX2_setLink_4 : decode cX2_setLink 4 = .ok (.ifCond .eq 34, 3) := by decide +kernel
theorem dX2_setLink_7 : decode cX2_setLink 7 = .ok (.iload_n 2, 1) := by decide +kernel
theorem dX2_setLink_8 : decode cX2_setLink 8 = .ok (.invokestatic 74, 3) := by decide +kernel
theorem dX2_setLink_11 : decode cX2_setLink 11 = .ok (.ifCond .eq 27, 3) := by decide +kernel
theorem dX2_setLink_14 : decode cX2_setLink 14 = .ok (.aload_n 0, 1) := by decide +kernel
theorem dX2_setLink_15 : decode cX2_setLink 15 = .ok (.getfield 9, 3) := by decide +kernel
theorem dX2_setLink_18 : decode cX2_setLink 18 = .ok (.iload_n 1, 1) := by decide +kernel
theorem dX2_setLink_19 : decode cX2_setLink 19 = .ok (.bipush 10, 2) := by decide +kernel
theorem dX2_setLink_21 : decode cX2_setLink 21 = .ok (.imul, 1) := by decide +kernel
theorem dX2_setLink_22 : decode cX2_setLink 22 = .ok (.iload_n 2, 1) := by decide +kernel
theorem dX2_setLink_23 : decode cX2_setLink 23 = .ok (.iadd, 1) := by decide +kernel
theorem dX2_setLink_24 : decode cX2_setLink 24 = .ok (.iload_n 3, 1) := by decide +kernel
theorem dX2_setLink_25 : decode cX2_setLink 25 = .ok (.bastore, 1) := by decide +kernel
theorem dX2_setLink_26 : decode cX2_setLink 26 = .ok (.aload_n 0, 1) := by decide +kernel
theorem dX2_setLink_27 : decode cX2_setLink 27 = .ok (.getfield 9, 3) := by decide +kernel
theorem dX2_setLink_30 : decode cX2_setLink 30 = .ok (.iload_n 2, 1) := by decide +kernel
theorem dX2_setLink_31 : decode cX2_setLink 31 = .ok (.bipush 10, 2) := by decide +kernel
theorem dX2_setLink_33 : decode cX2_setLink 33 = .ok (.imul, 1) := by decide +kernel
theorem dX2_setLink_34 : decode cX2_setLink 34 = .ok (.iload_n 1, 1) := by decide +kernel
theorem dX2_setLink_35 : decode cX2_setLink 35 = .ok (.iadd, 1) := by decide +kernel
theorem dX2_setLink_36 : decode cX2_setLink 36 = .ok (.iload_n 3, 1) := by decide +kernel
theorem dX2_setLink_37 : decode cX2_setLink 37 = .ok (.bastore, 1) := by decide +kernel
theorem dX2_setLink_38 : decode cX2_setLink 38 = .ok (.return_, 1) := by decide +kernel
theorem dX2_linkCount_0 : decode cX2_linkCount 0 = .ok (.iconst 0, 1) := by decide +kernel
theorem dX2_linkCount_1 : decode cX2_linkCount 1 = .ok (.istore_n 1, 1) := by decide +kernel
theorem dX2_linkCount_2 : decode cX2_linkCount 2 = .ok (.iconst 0, 1) := by decide +kernel
theorem dX2_linkCount_3 : decode cX2_linkCount 3 = .ok (.istore_n 2, 1) := by decide +kernel
theorem dX2_linkCount_4 : decode cX2_linkCount 4 = .ok (.iload_n 2, 1) := by decide +kernel
theorem dX2_linkCount_5 : decode cX2_linkCount 5 = .ok (.aload_n 0, 1) := by decide +kernel
theorem dX2_linkCount_6 : decode cX2_linkCount 6 = .ok (.getfield 9, 3) := by decide +kernel
theorem dX2_linkCount_9 : decode cX2_linkCount 9 = .ok (.arraylength, 1) := by decide +kernel
theorem dX2_linkCount_10 : decode cX2_linkCount 10 = .ok (.if_icmp .ge 26, 3) := by decide +kernel
theorem dX2_linkCount_13 : decode cX2_linkCount 13 = .ok (.iload_n 1, 1) := by decide +kernel
theorem dX2_linkCount_14 : decode cX2_linkCount 14 = .ok (.aload_n 0, 1) := by decide +kernel
theorem dX2_linkCount_15 : decode cX2_linkCount 15 = .ok (.getfield 9, 3) := by decide +kernel
theorem dX2_linkCount_18 : decode cX2_linkCount 18 = .ok (.iload_n 2, 1) := by decide +kernel
theorem dX2_linkCount_19 : decode cX2_linkCount 19 = .ok (.baload, 1) := by decide +kernel
theorem dX2_linkCount_20 : decode cX2_linkCount 20 = .ok (.ifCond .eq 7, 3) := by decide +kernel
theorem dX2_linkCount_23 : decode cX2_linkCount 23 = .ok (.iconst 1, 1) := by decide +kernel
theorem dX2_linkCount_24 : decode cX2_linkCount 24 = .ok (.goto 4, 3) := by decide +kernel
theorem dX2_linkCount_27 : decode cX2_linkCount 27 = .ok (.iconst 0, 1) := by decide +kernel
theorem dX2_linkCount_28 : decode cX2_linkCount 28 = .ok (.iadd, 1) := by decide +kernel
theorem dX2_linkCount_29 : decode cX2_linkCount 29 = .ok (.istore_n 1, 1) := by decide +kernel
theorem dX2_linkCount_30 : decode cX2_linkCount 30 = .ok (.iinc 2 1, 3) := by decide +kernel
theorem dX2_linkCount_33 : decode cX2_linkCount 33 = .ok (.goto (-29), 3) := by decide +kernel
theorem dX2_linkCount_36 : decode cX2_linkCount 36 = .ok (.iload_n 1, 1) := by decide +kernel
theorem dX2_linkCount_37 : decode cX2_linkCount 37 = .ok (.iconst 2, 1) := by decide +kernel
theorem dX2_linkCount_38 : decode cX2_linkCount 38 = .ok (.idiv, 1) := by decide +kernel
theorem dX2_linkCount_39 : decode cX2_linkCount 39 = .ok (.ireturn, 1) := by decide +kernel
theorem dX2_isOn_0 : decode cX2_isOn 0 = .ok (.iload_n 1, 1) := by decide +kernel
theorem dX2_isOn_1 : decode cX2_isOn 1 = .ok (.invokestatic 74, 3) := by decide +kernel
theorem dX2_isOn_4 : decode cX2_isOn 4 = .ok (.ifCond .eq 16, 3) := by decide +kernel
theorem dX2_isOn_7 : decode cX2_isOn 7 = .ok (.aload_n 0, 1) := by decide +kernel
theorem dX2_isOn_8 : decode cX2_isOn 8 = .ok (.getfield 15, 3) := by decide +kernel
theorem dX2_isOn_11 : decode cX2_isOn 11 = .ok (.iload_n 1, 1) := by decide +kernel
theorem dX2_isOn_12 : decode cX2_isOn 12 = .ok (.baload, 1) := by decide +kernel
theorem dX2_isOn_13 : decode cX2_isOn 13 = .ok (.ifCond .eq 7, 3) := by decide +kernel
theorem dX2_isOn_16 : decode cX2_isOn 16 = .ok (.iconst 1, 1) := by decide +kernel
theorem dX2_isOn_17 : decode cX2_isOn 17 = .ok (.goto 4, 3) := by decide +kernel
theorem dX2_isOn_20 : decode cX2_isOn 20 = .ok (.iconst 0, 1) := by decide +kernel
theorem dX2_isOn_21 : decode cX2_isOn 21 = .ok (.ireturn, 1) := by decide +kernel
theorem dX2_setPower_0 : decode cX2_setPower 0 = .ok (.iload_n 1, 1) := by decide +kernel
theorem dX2_setPower_1 : decode cX2_setPower 1 = .ok (.invokestatic 74, 3) := by decide +kernel
theorem dX2_setPower_4 : decode cX2_setPower 4 = .ok (.ifCond .eq 10, 3) := by decide +kernel
theorem dX2_setPower_7 : decode cX2_setPower 7 = .ok (.aload_n 0, 1) := by decide +kernel
theorem dX2_setPower_8 : decode cX2_setPower 8 = .ok (.getfield 15, 3) := by decide +kernel
theorem dX2_setPower_11 : decode cX2_setPower 11 = .ok (.iload_n 1, 1) := by decide +kernel
theorem dX2_setPower_12 : decode cX2_setPower 12 = .ok (.iload_n 2, 1) := by decide +kernel
theorem dX2_setPower_13 : decode cX2_setPower 13 = .ok (.bastore, 1) := by decide +kernel
theorem dX2_setPower_14 : decode cX2_setPower 14 = .ok (.return_, 1) := by decide +kernel
theorem dX2_onCount_0 : decode cX2_onCount 0 = .ok (.iconst 0, 1) := by decide +kernel
theorem dX2_onCount_1 : decode cX2_onCount 1 = .ok (.istore_n 1, 1) := by decide +kernel
theorem dX2_onCount_2 : decode cX2_onCount 2 = .ok (.iconst 0, 1) := by decide +kernel
theorem dX2_onCount_3 : decode cX2_onCount 3 = .ok (.istore_n 2, 1) := by decide +kernel
theorem dX2_onCount_4 : decode cX2_onCount 4 = .ok (.iload_n 2, 1) := by decide +kernel
theorem dX2_onCount_5 : decode cX2_onCount 5 = .ok (.bipush 10, 2) := by decide +kernel
theorem dX2_onCount_7 : decode cX2_onCount 7 = .ok (.if_icmp .ge 26, 3) := by decide +kernel
theorem dX2_onCount_10 : decode cX2_onCount 10 = .ok (.iload_n 1, 1) := by decide +kernel
theorem dX2_onCount_11 : decode cX2_onCount 11 = .ok (.aload_n 0, 1) := by decide +kernel
theorem dX2_onCount_12 : decode cX2_onCount 12 = .ok (.getfield 15, 3) := by decide +kernel
theorem dX2_onCount_15 : decode cX2_onCount 15 = .ok (.iload_n 2, 1) := by decide +kernel
theorem dX2_onCount_16 : decode cX2_onCount 16 = .ok (.baload, 1) := by decide +kernel
theorem dX2_onCount_17 : decode cX2_onCount 17 = .ok (.ifCond .eq 7, 3) := by decide +kernel
theorem dX2_onCount_20 : decode cX2_onCount 20 = .ok (.iconst 1, 1) := by decide +kernel
theorem dX2_onCount_21 : decode cX2_onCount 21 = .ok (.goto 4, 3) := by decide +kernel
theorem dX2_onCount_24 : decode cX2_onCount 24 = .ok (.iconst 0, 1) := by decide +kernel
theorem dX2_onCount_25 : decode cX2_onCount 25 = .ok (.iadd, 1) := by decide +kernel
theorem dX2_onCount_26 : decode cX2_onCount 26 = .ok (.istore_n 1, 1) := by decide +kernel
theorem dX2_onCount_27 : decode cX2_onCount 27 = .ok (.iinc 2 1, 3) := by decide +kernel
theorem dX2_onCount_30 : decode cX2_onCount 30 = .ok (.goto (-26), 3) := by decide +kernel
theorem dX2_onCount_33 : decode cX2_onCount 33 = .ok (.iload_n 1, 1) := by decide +kernel
theorem dX2_onCount_34 : decode cX2_onCount 34 = .ok (.ireturn, 1) := by decide +kernel
theorem dX2_areConnected_0 : decode cX2_areConnected 0 = .ok (.aload_n 0, 1) := by decide +kernel
theorem dX2_areConnected_1 : decode cX2_areConnected 1 = .ok (.iload_n 1, 1) := by decide +kernel
theorem dX2_areConnected_2 : decode cX2_areConnected 2 = .ok (.invokevirtual 78, 3) := by decide +kernel
theorem dX2_areConnected_5 : decode cX2_areConnected 5 = .ok (.ifCond .eq 29, 3) := by decide +kernel
theorem dX2_areConnected_8 : decode cX2_areConnected 8 = .ok (.aload_n 0, 1) := by decide +kernel
theorem dX2_areConnected_9 : decode cX2_areConnected 9 = .ok (.iload_n 2, 1) := by decide +kernel
theorem dX2_areConnected_10 : decode cX2_areConnected 10 = .ok (.invokevirtual 78, 3) := by decide +kernel
theorem dX2_areConnected_13 : decode cX2_areConnected 13 = .ok (.ifCond .eq 21, 3) := by decide +kernel
theorem dX2_areConnected_16 : decode cX2_areConnected 16 = .ok (.aload_n 0, 1) := by decide +kernel
theorem dX2_areConnected_17 : decode cX2_areConnected 17 = .ok (.getfield 9, 3) := by decide +kernel
theorem dX2_areConnected_20 : decode cX2_areConnected 20 = .ok (.iload_n 1, 1) := by decide +kernel
theorem dX2_areConnected_21 : decode cX2_areConnected 21 = .ok (.bipush 10, 2) := by decide +kernel
theorem dX2_areConnected_23 : decode cX2_areConnected 23 = .ok (.imul, 1) := by decide +kernel
theorem dX2_areConnected_24 : decode cX2_areConnected 24 = .ok (.iload_n 2, 1) := by decide +kernel
theorem dX2_areConnected_25 : decode cX2_areConnected 25 = .ok (.iadd, 1) := by decide +kernel
theorem dX2_areConnected_26 : decode cX2_areConnected 26 = .ok (.baload, 1) := by decide +kernel
theorem dX2_areConnected_27 : decode cX2_areConnected 27 = .ok (.ifCond .eq 7, 3) := by decide +kernel
theorem dX2_areConnected_30 : decode cX2_areConnected 30 = .ok (.iconst 1, 1) := by decide +kernel
theorem dX2_areConnected_31 : decode cX2_areConnected 31 = .ok (.goto 4, 3) := by decide +kernel
theorem dX2_areConnected_34 : decode cX2_areConnected 34 = .ok (.iconst 0, 1) := by decide +kernel
theorem dX2_areConnected_35 : decode cX2_areConnected 35 = .ok (.ireturn, 1) := by decide +kernel
theorem dX2_hopsToCollector_0 : decode cX2_hopsToCollector 0 = .ok (.aload_n 0, 1) := by decide +kernel
theorem dX2_hopsToCollector_1 : decode cX2_hopsToCollector 1 = .ok (.getfield 15, 3) := by decide +kernel
theorem dX2_hopsToCollector_4 : decode cX2_hopsToCollector 4 = .ok (.iconst 0, 1) := by decide +kernel
theorem dX2_hopsToCollector_5 : decode cX2_hopsToCollector 5 = .ok (.baload, 1) := by decide +kernel
theorem dX2_hopsToCollector_6 : decode cX2_hopsToCollector 6 = .ok (.ifCond .eq 7, 3) := by decide +kernel
theorem dX2_hopsToCollector_9 : decode cX2_hopsToCollector 9 = .ok (.iconst 1, 1) := by decide +kernel
theorem dX2_hopsToCollector_10 : decode cX2_hopsToCollector 10 = .ok (.goto 4, 3) := by decide +kernel
theorem dX2_hopsToCollector_13 : decode cX2_hopsToCollector 13 = .ok (.iconst 0, 1) := by decide +kernel
theorem dX2_hopsToCollector_14 : decode cX2_hopsToCollector 14 = .ok (.istore_n 2, 1) := by decide +kernel
theorem dX2_hopsToCollector_15 : decode cX2_hopsToCollector 15 = .ok (.iconst 0, 1) := by decide +kernel
theorem dX2_hopsToCollector_16 : decode cX2_hopsToCollector 16 = .ok (.istore_n 3, 1) := by decide +kernel
theorem dX2_hopsToCollector_17 : decode cX2_hopsToCollector 17 = .ok (.iload_n 3, 1) := by decide +kernel
theorem dX2_hopsToCollector_18 : decode cX2_hopsToCollector 18 = .ok (.bipush 10, 2) := by decide +kernel
theorem dX2_hopsToCollector_20 : decode cX2_hopsToCollector 20 = .ok (.if_icmp .ge 27, 3) := by decide +kernel
theorem dX2_hopsToCollector_23 : decode cX2_hopsToCollector 23 = .ok (.iload_n 2, 1) := by decide +kernel
theorem dX2_hopsToCollector_24 : decode cX2_hopsToCollector 24 = .ok (.iconst 1, 1) := by decide +kernel
theorem dX2_hopsToCollector_25 : decode cX2_hopsToCollector 25 = .ok (.iload_n 1, 1) := by decide +kernel
theorem dX2_hopsToCollector_26 : decode cX2_hopsToCollector 26 = .ok (.ishl, 1) := by decide +kernel
theorem dX2_hopsToCollector_27 : decode cX2_hopsToCollector 27 = .ok (.iand, 1) := by decide +kernel
theorem dX2_hopsToCollector_28 : decode cX2_hopsToCollector 28 = .ok (.ifCond .eq 5, 3) := by decide +kernel
theorem dX2_hopsToCollector_31 : decode cX2_hopsToCollector 31 = .ok (.iload_n 3, 1) := by decide +kernel
theorem dX2_hopsToCollector_32 : decode cX2_hopsToCollector 32 = .ok (.ireturn, 1) := by decide +kernel
theorem dX2_hopsToCollector_33 : decode cX2_hopsToCollector 33 = .ok (.iload_n 2, 1) := by decide +kernel
theorem dX2_hopsToCollector_34 : decode cX2_hopsToCollector 34 = .ok (.aload_n 0, 1) := by decide +kernel
theorem dX2_hopsToCollector_35 : decode cX2_hopsToCollector 35 = .ok (.iload_n 2, 1) := by decide +kernel
theorem dX2_hopsToCollector_36 : decode cX2_hopsToCollector 36 = .ok (.invokevirtual 81, 3) := by decide +kernel
theorem dX2_hopsToCollector_39 : decode cX2_hopsToCollector 39 = .ok (.ior, 1) := by decide +kernel
theorem dX2_hopsToCollector_40 : decode cX2_hopsToCollector 40 = .ok (.istore_n 2, 1) := by decide +kernel
theorem dX2_hopsToCollector_41 : decode cX2_hopsToCollector 41 = .ok (.iinc 3 1, 3) := by decide +kernel
theorem dX2_hopsToCollector_44 : decode cX2_hopsToCollector 44 = .ok (.goto (-27), 3) := by decide +kernel
theorem dX2_hopsToCollector_47 : decode cX2_hopsToCollector 47 = .ok (.iconst (-1), 1) := by decide +kernel
theorem dX2_hopsToCollector_48 : decode cX2_hopsToCollector 48 = .ok (.ireturn, 1) := by decide +kernel
theorem dX2_neighboursOf_0 : decode cX2_neighboursOf 0 = .ok (.iconst 0, 1) := by decide +kernel
theorem dX2_neighboursOf_1 : decode cX2_neighboursOf 1 = .ok (.istore_n 2, 1) := by decide +kernel
theorem dX2_neighboursOf_2 : decode cX2_neighboursOf 2 = .ok (.iconst 0, 1) := by decide +kernel
theorem dX2_neighboursOf_3 : decode cX2_neighboursOf 3 = .ok (.istore_n 3, 1) := by decide +kernel
theorem dX2_neighboursOf_4 : decode cX2_neighboursOf 4 = .ok (.iload_n 3, 1) := by decide +kernel
theorem dX2_neighboursOf_5 : decode cX2_neighboursOf 5 = .ok (.bipush 10, 2) := by decide +kernel
theorem dX2_neighboursOf_7 : decode cX2_neighboursOf 7 = .ok (.if_icmp .ge 50, 3) := by decide +kernel
theorem dX2_neighboursOf_10 : decode cX2_neighboursOf 10 = .ok (.iconst 0, 1) := by decide +kernel
theorem dX2_neighboursOf_11 : decode cX2_neighboursOf 11 = .ok (.istore 4, 2) := by decide +kernel
theorem dX2_neighboursOf_13 : decode cX2_neighboursOf 13 = .ok (.iload 4, 2) := by decide +kernel
theorem dX2_neighboursOf_15 : decode cX2_neighboursOf 15 = .ok (.bipush 10, 2) := by decide +kernel
theorem dX2_neighboursOf_17 : decode cX2_neighboursOf 17 = .ok (.if_icmp .ge 34, 3) := by decide +kernel
theorem dX2_neighboursOf_20 : decode cX2_neighboursOf 20 = .ok (.iload_n 1, 1) := by decide +kernel
theorem dX2_neighboursOf_21 : decode cX2_neighboursOf 21 = .ok (.iconst 1, 1) := by decide +kernel
theorem dX2_neighboursOf_22 : decode cX2_neighboursOf 22 = .ok (.iload_n 3, 1) := by decide +kernel
theorem dX2_neighboursOf_23 : decode cX2_neighboursOf 23 = .ok (.ishl, 1) := by decide +kernel
theorem dX2_neighboursOf_24 : decode cX2_neighboursOf 24 = .ok (.iand, 1) := by decide +kernel
theorem dX2_neighboursOf_25 : decode cX2_neighboursOf 25 = .ok (.ifCond .eq 20, 3) := by decide +kernel
theorem dX2_neighboursOf_28 : decode cX2_neighboursOf 28 = .ok (.aload_n 0, 1) := by decide +kernel
theorem dX2_neighboursOf_29 : decode cX2_neighboursOf 29 = .ok (.iload_n 3, 1) := by decide +kernel
theorem dX2_neighboursOf_30 : decode cX2_neighboursOf 30 = .ok (.iload 4, 2) := by decide +kernel
theorem dX2_neighboursOf_32 : decode cX2_neighboursOf 32 = .ok (.invokevirtual 85, 3) := by decide +kernel
theorem dX2_neighboursOf_35 : decode cX2_neighboursOf 35 = .ok (.ifCond .eq 10, 3) := by decide +kernel
theorem dX2_neighboursOf_38 : decode cX2_neighboursOf 38 = .ok (.iload_n 2, 1) := by decide +kernel
theorem dX2_neighboursOf_39 : decode cX2_neighboursOf 39 = .ok (.iconst 1, 1) := by decide +kernel
theorem dX2_neighboursOf_40 : decode cX2_neighboursOf 40 = .ok (.iload 4, 2) := by decide +kernel
theorem dX2_neighboursOf_42 : decode cX2_neighboursOf 42 = .ok (.ishl, 1) := by decide +kernel
theorem dX2_neighboursOf_43 : decode cX2_neighboursOf 43 = .ok (.ior, 1) := by decide +kernel
theorem dX2_neighboursOf_44 : decode cX2_neighboursOf 44 = .ok (.istore_n 2, 1) := by decide +kernel
theorem dX2_neighboursOf_45 : decode cX2_neighboursOf 45 = .ok (.iinc 4 1, 3) := by decide +kernel
theorem dX2_neighboursOf_48 : decode cX2_neighboursOf 48 = .ok (.goto (-35), 3) := by decide +kernel
theorem dX2_neighboursOf_51 : decode cX2_neighboursOf 51 = .ok (.iinc 3 1, 3) := by decide +kernel
theorem dX2_neighboursOf_54 : decode cX2_neighboursOf 54 = .ok (.goto (-50), 3) := by decide +kernel
theorem dX2_neighboursOf_57 : decode cX2_neighboursOf 57 = .ok (.iload_n 2, 1) := by decide +kernel
theorem dX2_neighboursOf_58 : decode cX2_neighboursOf 58 = .ok (.ireturn, 1) := by decide +kernel
theorem dX2_joinedCount_0 : decode cX2_joinedCount 0 = .ok (.iconst 0, 1) := by decide +kernel
theorem dX2_joinedCount_1 : decode cX2_joinedCount 1 = .ok (.istore_n 1, 1) := by decide +kernel
theorem dX2_joinedCount_2 : decode cX2_joinedCount 2 = .ok (.iconst 0, 1) := by decide +kernel
theorem dX2_joinedCount_3 : decode cX2_joinedCount 3 = .ok (.istore_n 2, 1) := by decide +kernel
theorem dX2_joinedCount_4 : decode cX2_joinedCount 4 = .ok (.iload_n 2, 1) := by decide +kernel
theorem dX2_joinedCount_5 : decode cX2_joinedCount 5 = .ok (.bipush 10, 2) := by decide +kernel
theorem dX2_joinedCount_7 : decode cX2_joinedCount 7 = .ok (.if_icmp .ge 27, 3) := by decide +kernel
theorem dX2_joinedCount_10 : decode cX2_joinedCount 10 = .ok (.iload_n 1, 1) := by decide +kernel
theorem dX2_joinedCount_11 : decode cX2_joinedCount 11 = .ok (.aload_n 0, 1) := by decide +kernel
theorem dX2_joinedCount_12 : decode cX2_joinedCount 12 = .ok (.getfield 18, 3) := by decide +kernel
theorem dX2_joinedCount_15 : decode cX2_joinedCount 15 = .ok (.iload_n 2, 1) := by decide +kernel
theorem dX2_joinedCount_16 : decode cX2_joinedCount 16 = .ok (.iaload, 1) := by decide +kernel
theorem dX2_joinedCount_17 : decode cX2_joinedCount 17 = .ok (.iconst (-1), 1) := by decide +kernel
theorem dX2_joinedCount_18 : decode cX2_joinedCount 18 = .ok (.if_icmp .ne 7, 3) := by decide +kernel
theorem dX2_joinedCount_21 : decode cX2_joinedCount 21 = .ok (.iconst 0, 1) := by decide +kernel
theorem dX2_joinedCount_22 : decode cX2_joinedCount 22 = .ok (.goto 4, 3) := by decide +kernel
theorem dX2_joinedCount_25 : decode cX2_joinedCount 25 = .ok (.iconst 1, 1) := by decide +kernel
theorem dX2_joinedCount_26 : decode cX2_joinedCount 26 = .ok (.iadd, 1) := by decide +kernel
theorem dX2_joinedCount_27 : decode cX2_joinedCount 27 = .ok (.istore_n 1, 1) := by decide +kernel
theorem dX2_joinedCount_28 : decode cX2_joinedCount 28 = .ok (.iinc 2 1, 3) := by decide +kernel
theorem dX2_joinedCount_31 : decode cX2_joinedCount 31 = .ok (.goto (-27), 3) := by decide +kernel
theorem dX2_joinedCount_34 : decode cX2_joinedCount 34 = .ok (.iload_n 1, 1) := by decide +kernel
theorem dX2_joinedCount_35 : decode cX2_joinedCount 35 = .ok (.ireturn, 1) := by decide +kernel
theorem dX2_canTake_0 : decode cX2_canTake 0 = .ok (.aload_n 0, 1) := by decide +kernel
theorem dX2_canTake_1 : decode cX2_canTake 1 = .ok (.getfield 37, 3) := by decide +kernel
theorem dX2_canTake_4 : decode cX2_canTake 4 = .ok (.getfield 89, 3) := by decide +kernel
theorem dX2_canTake_7 : decode cX2_canTake 7 = .ok (.bipush 60, 2) := by decide +kernel
theorem dX2_canTake_9 : decode cX2_canTake 9 = .ok (.if_icmp .ge 18, 3) := by decide +kernel
theorem dX2_canTake_12 : decode cX2_canTake 12 = .ok (.aload_n 0, 1) := by decide +kernel
theorem dX2_canTake_13 : decode cX2_canTake 13 = .ok (.getfield 37, 3) := by decide +kernel
theorem dX2_canTake_16 : decode cX2_canTake 16 = .ok (.iload_n 1, 1) := by decide +kernel
theorem dX2_canTake_17 : decode cX2_canTake 17 = .ok (.invokevirtual 92, 3) := by decide +kernel
theorem dX2_canTake_20 : decode cX2_canTake 20 = .ok (.ifCond .ne 7, 3) := by decide +kernel
theorem dX2_canTake_23 : decode cX2_canTake 23 = .ok (.iconst 1, 1) := by decide +kernel
theorem dX2_canTake_24 : decode cX2_canTake 24 = .ok (.goto 4, 3) := by decide +kernel
theorem dX2_canTake_27 : decode cX2_canTake 27 = .ok (.iconst 0, 1) := by decide +kernel
theorem dX2_canTake_28 : decode cX2_canTake 28 = .ok (.ireturn, 1) := by decide +kernel
theorem dX2_takeReading_0 : decode cX2_takeReading 0 = .ok (.iload_n 1, 1) := by decide +kernel
theorem dX2_takeReading_1 : decode cX2_takeReading 1 = .ok (.invokestatic 74, 3) := by decide +kernel
theorem dX2_takeReading_4 : decode cX2_takeReading 4 = .ok (.ifCond .ne 5, 3) := by decide +kernel
theorem dX2_takeReading_7 : decode cX2_takeReading 7 = .ok (.iconst (-1), 1) := by decide +kernel
theorem dX2_takeReading_8 : decode cX2_takeReading 8 = .ok (.ireturn, 1) := by decide +kernel
theorem dX2_takeReading_9 : decode cX2_takeReading 9 = .ok (.aload_n 0, 1) := by decide +kernel
theorem dX2_takeReading_10 : decode cX2_takeReading 10 = .ok (.getfield 37, 3) := by decide +kernel
theorem dX2_takeReading_13 : decode cX2_takeReading 13 = .ok (.iload_n 1, 1) := by decide +kernel
theorem dX2_takeReading_14 : decode cX2_takeReading 14 = .ok (.iload_n 2, 1) := by decide +kernel
theorem dX2_takeReading_15 : decode cX2_takeReading 15 = .ok (.aload_n 0, 1) := by decide +kernel
theorem dX2_takeReading_16 : decode cX2_takeReading 16 = .ok (.getfield 56, 3) := by decide +kernel
theorem dX2_takeReading_19 : decode cX2_takeReading 19 = .ok (.aload_n 0, 1) := by decide +kernel
theorem dX2_takeReading_20 : decode cX2_takeReading 20 = .ok (.getfield 56, 3) := by decide +kernel
theorem dX2_takeReading_23 : decode cX2_takeReading 23 = .ok (.aload_n 0, 1) := by decide +kernel
theorem dX2_takeReading_24 : decode cX2_takeReading 24 = .ok (.getfield 28, 3) := by decide +kernel
theorem dX2_takeReading_27 : decode cX2_takeReading 27 = .ok (.iload_n 1, 1) := by decide +kernel
theorem dX2_takeReading_28 : decode cX2_takeReading 28 = .ok (.iaload, 1) := by decide +kernel
theorem dX2_takeReading_29 : decode cX2_takeReading 29 = .ok (.iadd, 1) := by decide +kernel
theorem dX2_takeReading_30 : decode cX2_takeReading 30 = .ok (.invokevirtual 95, 3) := by decide +kernel
theorem dX2_takeReading_33 : decode cX2_takeReading 33 = .ok (.ireturn, 1) := by decide +kernel
theorem dX2_runSlots_0 : decode cX2_runSlots 0 = .ok (.aload_n 0, 1) := by decide +kernel
theorem dX2_runSlots_1 : decode cX2_runSlots 1 = .ok (.getfield 37, 3) := by decide +kernel
theorem dX2_runSlots_4 : decode cX2_runSlots 4 = .ok (.iconst 0, 1) := by decide +kernel
theorem dX2_runSlots_5 : decode cX2_runSlots 5 = .ok (.invokevirtual 99, 3) := by decide +kernel
theorem dX2_runSlots_8 : decode cX2_runSlots 8 = .ok (.istore_n 2, 1) := by decide +kernel
theorem dX2_runSlots_9 : decode cX2_runSlots 9 = .ok (.iconst 0, 1) := by decide +kernel
theorem dX2_runSlots_10 : decode cX2_runSlots 10 = .ok (.istore_n 3, 1) := by decide +kernel
theorem dX2_runSlots_11 : decode cX2_runSlots 11 = .ok (.iload_n 3, 1) := by decide +kernel
theorem dX2_runSlots_12 : decode cX2_runSlots 12 = .ok (.iload_n 1, 1) := by decide +kernel
theorem dX2_runSlots_13 : decode cX2_runSlots 13 = .ok (.if_icmp .ge 58, 3) := by decide +kernel
theorem dX2_runSlots_16 : decode cX2_runSlots 16 = .ok (.aload_n 0, 1) := by decide +kernel
theorem dX2_runSlots_17 : decode cX2_runSlots 17 = .ok (.getfield 56, 3) := by decide +kernel
theorem dX2_runSlots_20 : decode cX2_runSlots 20 = .ok (.bipush 10, 2) := by decide +kernel
theorem dX2_runSlots_22 : decode cX2_runSlots 22 = .ok (.invokestatic 102, 3) := by decide +kernel
theorem dX2_runSlots_25 : decode cX2_runSlots 25 = .ok (.istore 4, 2) := by decide +kernel
theorem dX2_runSlots_27 : decode cX2_runSlots 27 = .ok (.aload_n 0, 1) := by decide +kernel
theorem dX2_runSlots_28 : decode cX2_runSlots 28 = .ok (.getfield 15, 3) := by decide +kernel
theorem dX2_runSlots_31 : decode cX2_runSlots 31 = .ok (.iload 4, 2) := by decide +kernel
theorem dX2_runSlots_33 : decode cX2_runSlots 33 = .ok (.baload, 1) := by decide +kernel
theorem dX2_runSlots_34 : decode cX2_runSlots 34 = .ok (.ifCond .eq 21, 3) := by decide +kernel
theorem dX2_runSlots_37 : decode cX2_runSlots 37 = .ok (.aload_n 0, 1) := by decide +kernel
theorem dX2_runSlots_38 : decode cX2_runSlots 38 = .ok (.iload 4, 2) := by decide +kernel
theorem dX2_runSlots_40 : decode cX2_runSlots 40 = .ok (.invokevirtual 108, 3) := by decide +kernel
theorem dX2_runSlots_43 : decode cX2_runSlots 43 = .ok (.aload_n 0, 1) := by decide +kernel
theorem dX2_runSlots_44 : decode cX2_runSlots 44 = .ok (.iload 4, 2) := by decide +kernel
theorem dX2_runSlots_46 : decode cX2_runSlots 46 = .ok (.invokevirtual 112, 3) := by decide +kernel
theorem dX2_runSlots_49 : decode cX2_runSlots 49 = .ok (.aload_n 0, 1) := by decide +kernel
theorem dX2_runSlots_50 : decode cX2_runSlots 50 = .ok (.iload 4, 2) := by decide +kernel
theorem dX2_runSlots_52 : decode cX2_runSlots 52 = .ok (.invokevirtual 115, 3) := by decide +kernel
theorem dX2_runSlots_55 : decode cX2_runSlots 55 = .ok (.aload_n 0, 1) := by decide +kernel
theorem dX2_runSlots_56 : decode cX2_runSlots 56 = .ok (.dup, 1) := by decide +kernel
theorem dX2_runSlots_57 : decode cX2_runSlots 57 = .ok (.getfield 56, 3) := by decide +kernel
theorem dX2_runSlots_60 : decode cX2_runSlots 60 = .ok (.iconst 1, 1) := by decide +kernel
theorem dX2_runSlots_61 : decode cX2_runSlots 61 = .ok (.iadd, 1) := by decide +kernel
theorem dX2_runSlots_62 : decode cX2_runSlots 62 = .ok (.putfield 56, 3) := by decide +kernel
theorem dX2_runSlots_65 : decode cX2_runSlots 65 = .ok (.iinc 3 1, 3) := by decide +kernel
theorem dX2_runSlots_68 : decode cX2_runSlots 68 = .ok (.goto (-57), 3) := by decide +kernel
theorem dX2_runSlots_71 : decode cX2_runSlots 71 = .ok (.aload_n 0, 1) := by decide +kernel
theorem dX2_runSlots_72 : decode cX2_runSlots 72 = .ok (.getfield 37, 3) := by decide +kernel
theorem dX2_runSlots_75 : decode cX2_runSlots 75 = .ok (.iconst 0, 1) := by decide +kernel
theorem dX2_runSlots_76 : decode cX2_runSlots 76 = .ok (.invokevirtual 99, 3) := by decide +kernel
theorem dX2_runSlots_79 : decode cX2_runSlots 79 = .ok (.iload_n 2, 1) := by decide +kernel
theorem dX2_runSlots_80 : decode cX2_runSlots 80 = .ok (.isub, 1) := by decide +kernel
theorem dX2_runSlots_81 : decode cX2_runSlots 81 = .ok (.ireturn, 1) := by decide +kernel
theorem dX2_losePatience_0 : decode cX2_losePatience 0 = .ok (.aload_n 0, 1) := by decide +kernel
theorem dX2_losePatience_1 : decode cX2_losePatience 1 = .ok (.getfield 18, 3) := by decide +kernel
theorem dX2_losePatience_4 : decode cX2_losePatience 4 = .ok (.iload_n 1, 1) := by decide +kernel
theorem dX2_losePatience_5 : decode cX2_losePatience 5 = .ok (.iaload, 1) := by decide +kernel
theorem dX2_losePatience_6 : decode cX2_losePatience 6 = .ok (.iconst (-1), 1) := by decide +kernel
theorem dX2_losePatience_7 : decode cX2_losePatience 7 = .ok (.if_icmp .eq 29, 3) := by decide +kernel
theorem dX2_losePatience_10 : decode cX2_losePatience 10 = .ok (.aload_n 0, 1) := by decide +kernel
theorem dX2_losePatience_11 : decode cX2_losePatience 11 = .ok (.getfield 56, 3) := by decide +kernel
theorem dX2_losePatience_14 : decode cX2_losePatience 14 = .ok (.aload_n 0, 1) := by decide +kernel
theorem dX2_losePatience_15 : decode cX2_losePatience 15 = .ok (.getfield 25, 3) := by decide +kernel
theorem dX2_losePatience_18 : decode cX2_losePatience 18 = .ok (.iload_n 1, 1) := by decide +kernel
theorem dX2_losePatience_19 : decode cX2_losePatience 19 = .ok (.iaload, 1) := by decide +kernel
theorem dX2_losePatience_20 : decode cX2_losePatience 20 = .ok (.isub, 1) := by decide +kernel
theorem dX2_losePatience_21 : decode cX2_losePatience 21 = .ok (.bipush 10, 2) := by decide +kernel
theorem dX2_losePatience_23 : decode cX2_losePatience 23 = .ok (.aload_n 0, 1) := by decide +kernel
theorem dX2_losePatience_24 : decode cX2_losePatience 24 = .ok (.getfield 41, 3) := by decide +kernel
theorem dX2_losePatience_27 : decode cX2_losePatience 27 = .ok (.imul, 1) := by decide +kernel
theorem dX2_losePatience_28 : decode cX2_losePatience 28 = .ok (.if_icmp .le 8, 3) := by decide +kernel
theorem dX2_losePatience_31 : decode cX2_losePatience 31 = .ok (.aload_n 0, 1) := by decide +kernel
theorem dX2_losePatience_32 : decode cX2_losePatience 32 = .ok (.iload_n 1, 1) := by decide +kernel
theorem dX2_losePatience_33 : decode cX2_losePatience 33 = .ok (.invokevirtual 118, 3) := by decide +kernel
theorem dX2_losePatience_36 : decode cX2_losePatience 36 = .ok (.return_, 1) := by decide +kernel
theorem dX2_beHeard_0 : decode cX2_beHeard 0 = .ok (.iconst 0, 1) := by decide +kernel
theorem dX2_beHeard_1 : decode cX2_beHeard 1 = .ok (.istore_n 2, 1) := by decide +kernel
theorem dX2_beHeard_2 : decode cX2_beHeard 2 = .ok (.iload_n 2, 1) := by decide +kernel
theorem dX2_beHeard_3 : decode cX2_beHeard 3 = .ok (.bipush 10, 2) := by decide +kernel
theorem dX2_beHeard_5 : decode cX2_beHeard 5 = .ok (.if_icmp .ge 28, 3) := by decide +kernel
theorem dX2_beHeard_8 : decode cX2_beHeard 8 = .ok (.iload_n 2, 1) := by decide +kernel
theorem dX2_beHeard_9 : decode cX2_beHeard 9 = .ok (.ifCond .eq 18, 3) := by decide +kernel
theorem dX2_beHeard_12 : decode cX2_beHeard 12 = .ok (.aload_n 0, 1) := by decide +kernel
theorem dX2_beHeard_13 : decode cX2_beHeard 13 = .ok (.iload_n 2, 1) := by decide +kernel
theorem dX2_beHeard_14 : decode cX2_beHeard 14 = .ok (.iload_n 1, 1) := by decide +kernel
theorem dX2_beHeard_15 : decode cX2_beHeard 15 = .ok (.invokevirtual 85, 3) := by decide +kernel
theorem dX2_beHeard_18 : decode cX2_beHeard 18 = .ok (.ifCond .eq 9, 3) := by decide +kernel
theorem dX2_beHeard_21 : decode cX2_beHeard 21 = .ok (.aload_n 0, 1) := by decide +kernel
theorem dX2_beHeard_22 : decode cX2_beHeard 22 = .ok (.iload_n 2, 1) := by decide +kernel
theorem dX2_beHeard_23 : decode cX2_beHeard 23 = .ok (.iload_n 1, 1) := by decide +kernel
theorem dX2_beHeard_24 : decode cX2_beHeard 24 = .ok (.invokevirtual 121, 3) := by decide +kernel
theorem dX2_beHeard_27 : decode cX2_beHeard 27 = .ok (.iinc 2 1, 3) := by decide +kernel
theorem dX2_beHeard_30 : decode cX2_beHeard 30 = .ok (.goto (-28), 3) := by decide +kernel
theorem dX2_beHeard_33 : decode cX2_beHeard 33 = .ok (.return_, 1) := by decide +kernel
theorem dX2_hear_0 : decode cX2_hear 0 = .ok (.aload_n 0, 1) := by decide +kernel
theorem dX2_hear_1 : decode cX2_hear 1 = .ok (.getfield 22, 3) := by decide +kernel
theorem dX2_hear_4 : decode cX2_hear 4 = .ok (.iload_n 2, 1) := by decide +kernel
theorem dX2_hear_5 : decode cX2_hear 5 = .ok (.iaload, 1) := by decide +kernel
theorem dX2_hear_6 : decode cX2_hear 6 = .ok (.iconst (-1), 1) := by decide +kernel
theorem dX2_hear_7 : decode cX2_hear 7 = .ok (.if_icmp .eq 18, 3) := by decide +kernel
theorem dX2_hear_10 : decode cX2_hear 10 = .ok (.aload_n 0, 1) := by decide +kernel
theorem dX2_hear_11 : decode cX2_hear 11 = .ok (.getfield 22, 3) := by decide +kernel
theorem dX2_hear_14 : decode cX2_hear 14 = .ok (.iload_n 2, 1) := by decide +kernel
theorem dX2_hear_15 : decode cX2_hear 15 = .ok (.iaload, 1) := by decide +kernel
theorem dX2_hear_16 : decode cX2_hear 16 = .ok (.bipush 9, 2) := by decide +kernel
theorem dX2_hear_18 : decode cX2_hear 18 = .ok (.if_icmp .ge 7, 3) := by decide +kernel
theorem dX2_hear_21 : decode cX2_hear 21 = .ok (.iconst 1, 1) := by decide +kernel
theorem dX2_hear_22 : decode cX2_hear 22 = .ok (.goto 4, 3) := by decide +kernel
theorem dX2_hear_25 : decode cX2_hear 25 = .ok (.iconst 0, 1) := by decide +kernel
theorem dX2_hear_26 : decode cX2_hear 26 = .ok (.istore_n 3, 1) := by decide +kernel
theorem dX2_hear_27 : decode cX2_hear 27 = .ok (.aload_n 0, 1) := by decide +kernel
theorem dX2_hear_28 : decode cX2_hear 28 = .ok (.getfield 18, 3) := by decide +kernel
theorem dX2_hear_31 : decode cX2_hear 31 = .ok (.iload_n 1, 1) := by decide +kernel
theorem dX2_hear_32 : decode cX2_hear 32 = .ok (.iaload, 1) := by decide +kernel
theorem dX2_hear_33 : decode cX2_hear 33 = .ok (.iload_n 2, 1) := by decide +kernel
theorem dX2_hear_34 : decode cX2_hear 34 = .ok (.if_icmp .ne 7, 3) := by decide +kernel
theorem dX2_hear_37 : decode cX2_hear 37 = .ok (.iconst 1, 1) := by decide +kernel
theorem dX2_hear_38 : decode cX2_hear 38 = .ok (.goto 4, 3) := by decide +kernel
theorem dX2_hear_41 : decode cX2_hear 41 = .ok (.iconst 0, 1) := by decide +kernel
theorem dX2_hear_42 : decode cX2_hear 42 = .ok (.istore 4, 2) := by decide +kernel
theorem dX2_hear_44 : decode cX2_hear 44 = .ok (.iload 4, 2) := by decide +kernel
theorem dX2_hear_46 : decode cX2_hear 46 = .ok (.ifCond .eq 15, 3) := by decide +kernel
theorem dX2_hear_49 : decode cX2_hear 49 = .ok (.iload_n 3, 1) := by decide +kernel
theorem dX2_hear_50 : decode cX2_hear 50 = .ok (.ifCond .ne 11, 3) := by decide +kernel
theorem dX2_hear_53 : decode cX2_hear 53 = .ok (.aload_n 0, 1) := by decide +kernel
theorem dX2_hear_54 : decode cX2_hear 54 = .ok (.iload_n 1, 1) := by decide +kernel
theorem dX2_hear_55 : decode cX2_hear 55 = .ok (.invokevirtual 118, 3) := by decide +kernel
theorem dX2_hear_58 : decode cX2_hear 58 = .ok (.goto 85, 3) := by decide +kernel
theorem dX2_hear_61 : decode cX2_hear 61 = .ok (.iload 4, 2) := by decide +kernel
theorem dX2_hear_63 : decode cX2_hear 63 = .ok (.ifCond .ne 16, 3) := by decide +kernel
theorem dX2_hear_66 : decode cX2_hear 66 = .ok (.iload_n 3, 1) := by decide +kernel
theorem dX2_hear_67 : decode cX2_hear 67 = .ok (.ifCond .eq 76, 3) := by decide +kernel
theorem dX2_hear_70 : decode cX2_hear 70 = .ok (.aload_n 0, 1) := by decide +kernel
theorem dX2_hear_71 : decode cX2_hear 71 = .ok (.iload_n 1, 1) := by decide +kernel
theorem dX2_hear_72 : decode cX2_hear 72 = .ok (.iload_n 2, 1) := by decide +kernel
theorem dX2_hear_73 : decode cX2_hear 73 = .ok (.invokevirtual 125, 3) := by decide +kernel
theorem dX2_hear_76 : decode cX2_hear 76 = .ok (.ifCond .eq 67, 3) := by decide +kernel
theorem dX2_hear_79 : decode cX2_hear 79 = .ok (.aload_n 0, 1) := by decide +kernel
theorem dX2_hear_80 : decode cX2_hear 80 = .ok (.getfield 18, 3) := by decide +kernel
theorem dX2_hear_83 : decode cX2_hear 83 = .ok (.iload_n 1, 1) := by decide +kernel
theorem dX2_hear_84 : decode cX2_hear 84 = .ok (.iload_n 2, 1) := by decide +kernel
theorem dX2_hear_85 : decode cX2_hear 85 = .ok (.iastore, 1) := by decide +kernel
theorem dX2_hear_86 : decode cX2_hear 86 = .ok (.aload_n 0, 1) := by decide +kernel
theorem dX2_hear_87 : decode cX2_hear 87 = .ok (.getfield 22, 3) := by decide +kernel
theorem dX2_hear_90 : decode cX2_hear 90 = .ok (.iload_n 1, 1) := by decide +kernel
theorem dX2_hear_91 : decode cX2_hear 91 = .ok (.aload_n 0, 1) := by decide +kernel
theorem dX2_hear_92 : decode cX2_hear 92 = .ok (.getfield 22, 3) := by decide +kernel
theorem dX2_hear_95 : decode cX2_hear 95 = .ok (.iload_n 2, 1) := by decide +kernel
theorem dX2_hear_96 : decode cX2_hear 96 = .ok (.iaload, 1) := by decide +kernel
theorem dX2_hear_97 : decode cX2_hear 97 = .ok (.iconst 1, 1) := by decide +kernel
theorem dX2_hear_98 : decode cX2_hear 98 = .ok (.iadd, 1) := by decide +kernel
theorem dX2_hear_99 : decode cX2_hear 99 = .ok (.iastore, 1) := by decide +kernel
theorem dX2_hear_100 : decode cX2_hear 100 = .ok (.aload_n 0, 1) := by decide +kernel
theorem dX2_hear_101 : decode cX2_hear 101 = .ok (.getfield 25, 3) := by decide +kernel
theorem dX2_hear_104 : decode cX2_hear 104 = .ok (.iload_n 1, 1) := by decide +kernel
theorem dX2_hear_105 : decode cX2_hear 105 = .ok (.aload_n 0, 1) := by decide +kernel
theorem dX2_hear_106 : decode cX2_hear 106 = .ok (.getfield 56, 3) := by decide +kernel
theorem dX2_hear_109 : decode cX2_hear 109 = .ok (.iastore, 1) := by decide +kernel
theorem dX2_hear_110 : decode cX2_hear 110 = .ok (.aload_n 0, 1) := by decide +kernel
theorem dX2_hear_111 : decode cX2_hear 111 = .ok (.getfield 37, 3) := by decide +kernel
theorem dX2_hear_114 : decode cX2_hear 114 = .ok (.iload_n 1, 1) := by decide +kernel
theorem dX2_hear_115 : decode cX2_hear 115 = .ok (.aload_n 0, 1) := by decide +kernel
theorem dX2_hear_116 : decode cX2_hear 116 = .ok (.getfield 28, 3) := by decide +kernel
theorem dX2_hear_119 : decode cX2_hear 119 = .ok (.iload_n 2, 1) := by decide +kernel
theorem dX2_hear_120 : decode cX2_hear 120 = .ok (.iaload, 1) := by decide +kernel
theorem dX2_hear_121 : decode cX2_hear 121 = .ok (.aload_n 0, 1) := by decide +kernel
theorem dX2_hear_122 : decode cX2_hear 122 = .ok (.getfield 28, 3) := by decide +kernel
theorem dX2_hear_125 : decode cX2_hear 125 = .ok (.iload_n 1, 1) := by decide +kernel
theorem dX2_hear_126 : decode cX2_hear 126 = .ok (.iaload, 1) := by decide +kernel
theorem dX2_hear_127 : decode cX2_hear 127 = .ok (.isub, 1) := by decide +kernel
theorem dX2_hear_128 : decode cX2_hear 128 = .ok (.invokevirtual 128, 3) := by decide +kernel
theorem dX2_hear_131 : decode cX2_hear 131 = .ok (.aload_n 0, 1) := by decide +kernel
theorem dX2_hear_132 : decode cX2_hear 132 = .ok (.getfield 28, 3) := by decide +kernel
theorem dX2_hear_135 : decode cX2_hear 135 = .ok (.iload_n 1, 1) := by decide +kernel
theorem dX2_hear_136 : decode cX2_hear 136 = .ok (.aload_n 0, 1) := by decide +kernel
theorem dX2_hear_137 : decode cX2_hear 137 = .ok (.getfield 28, 3) := by decide +kernel
theorem dX2_hear_140 : decode cX2_hear 140 = .ok (.iload_n 2, 1) := by decide +kernel
theorem dX2_hear_141 : decode cX2_hear 141 = .ok (.iaload, 1) := by decide +kernel
theorem dX2_hear_142 : decode cX2_hear 142 = .ok (.iastore, 1) := by decide +kernel
theorem dX2_hear_143 : decode cX2_hear 143 = .ok (.return_, 1) := by decide +kernel
theorem dX2_isBetterParent_0 : decode cX2_isBetterParent 0 = .ok (.aload_n 0, 1) := by decide +kernel
theorem dX2_isBetterParent_1 : decode cX2_isBetterParent 1 = .ok (.getfield 18, 3) := by decide +kernel
theorem dX2_isBetterParent_4 : decode cX2_isBetterParent 4 = .ok (.iload_n 2, 1) := by decide +kernel
theorem dX2_isBetterParent_5 : decode cX2_isBetterParent 5 = .ok (.iaload, 1) := by decide +kernel
theorem dX2_isBetterParent_6 : decode cX2_isBetterParent 6 = .ok (.iload_n 1, 1) := by decide +kernel
theorem dX2_isBetterParent_7 : decode cX2_isBetterParent 7 = .ok (.if_icmp .eq 34, 3) := by decide +kernel
theorem dX2_isBetterParent_10 : decode cX2_isBetterParent 10 = .ok (.aload_n 0, 1) := by decide +kernel
theorem dX2_isBetterParent_11 : decode cX2_isBetterParent 11 = .ok (.getfield 18, 3) := by decide +kernel
theorem dX2_isBetterParent_14 : decode cX2_isBetterParent 14 = .ok (.iload_n 1, 1) := by decide +kernel
theorem dX2_isBetterParent_15 : decode cX2_isBetterParent 15 = .ok (.iaload, 1) := by decide +kernel
theorem dX2_isBetterParent_16 : decode cX2_isBetterParent 16 = .ok (.iconst (-1), 1) := by decide +kernel
theorem dX2_isBetterParent_17 : decode cX2_isBetterParent 17 = .ok (.if_icmp .eq 20, 3) := by decide +kernel
theorem dX2_isBetterParent_20 : decode cX2_isBetterParent 20 = .ok (.aload_n 0, 1) := by decide +kernel
theorem dX2_isBetterParent_21 : decode cX2_isBetterParent 21 = .ok (.getfield 22, 3) := by decide +kernel
theorem dX2_isBetterParent_24 : decode cX2_isBetterParent 24 = .ok (.iload_n 1, 1) := by decide +kernel
theorem dX2_isBetterParent_25 : decode cX2_isBetterParent 25 = .ok (.iaload, 1) := by decide +kernel
theorem dX2_isBetterParent_26 : decode cX2_isBetterParent 26 = .ok (.aload_n 0, 1) := by decide +kernel
theorem dX2_isBetterParent_27 : decode cX2_isBetterParent 27 = .ok (.getfield 22, 3) := by decide +kernel
theorem dX2_isBetterParent_30 : decode cX2_isBetterParent 30 = .ok (.iload_n 2, 1) := by decide +kernel
theorem dX2_isBetterParent_31 : decode cX2_isBetterParent 31 = .ok (.iaload, 1) := by decide +kernel
theorem dX2_isBetterParent_32 : decode cX2_isBetterParent 32 = .ok (.iconst 1, 1) := by decide +kernel
theorem dX2_isBetterParent_33 : decode cX2_isBetterParent 33 = .ok (.iadd, 1) := by decide +kernel
theorem dX2_isBetterParent_34 : decode cX2_isBetterParent 34 = .ok (.if_icmp .le 7, 3) := by decide +kernel
theorem dX2_isBetterParent_37 : decode cX2_isBetterParent 37 = .ok (.iconst 1, 1) := by decide +kernel
theorem dX2_isBetterParent_38 : decode cX2_isBetterParent 38 = .ok (.goto 4, 3) := by decide +kernel
theorem dX2_isBetterParent_41 : decode cX2_isBetterParent 41 = .ok (.iconst 0, 1) := by decide +kernel
theorem dX2_isBetterParent_42 : decode cX2_isBetterParent 42 = .ok (.ireturn, 1) := by decide +kernel
theorem dX2_dropParent_0 : decode cX2_dropParent 0 = .ok (.aload_n 0, 1) := by decide +kernel
theorem dX2_dropParent_1 : decode cX2_dropParent 1 = .ok (.getfield 18, 3) := by decide +kernel
theorem dX2_dropParent_4 : decode cX2_dropParent 4 = .ok (.iload_n 1, 1) := by decide +kernel
theorem dX2_dropParent_5 : decode cX2_dropParent 5 = .ok (.iconst (-1), 1) := by decide +kernel
theorem dX2_dropParent_6 : decode cX2_dropParent 6 = .ok (.iastore, 1) := by decide +kernel
theorem dX2_dropParent_7 : decode cX2_dropParent 7 = .ok (.aload_n 0, 1) := by decide +kernel
theorem dX2_dropParent_8 : decode cX2_dropParent 8 = .ok (.getfield 22, 3) := by decide +kernel
theorem dX2_dropParent_11 : decode cX2_dropParent 11 = .ok (.iload_n 1, 1) := by decide +kernel
theorem dX2_dropParent_12 : decode cX2_dropParent 12 = .ok (.iconst (-1), 1) := by decide +kernel
theorem dX2_dropParent_13 : decode cX2_dropParent 13 = .ok (.iastore, 1) := by decide +kernel
theorem dX2_dropParent_14 : decode cX2_dropParent 14 = .ok (.aload_n 0, 1) := by decide +kernel
theorem dX2_dropParent_15 : decode cX2_dropParent 15 = .ok (.dup, 1) := by decide +kernel
theorem dX2_dropParent_16 : decode cX2_dropParent 16 = .ok (.getfield 71, 3) := by decide +kernel
theorem dX2_dropParent_19 : decode cX2_dropParent 19 = .ok (.iconst 1, 1) := by decide +kernel
theorem dX2_dropParent_20 : decode cX2_dropParent 20 = .ok (.iadd, 1) := by decide +kernel
theorem dX2_dropParent_21 : decode cX2_dropParent 21 = .ok (.putfield 71, 3) := by decide +kernel
theorem dX2_dropParent_24 : decode cX2_dropParent 24 = .ok (.return_, 1) := by decide +kernel
theorem dX2_send_0 : decode cX2_send 0 = .ok (.aload_n 0, 1) := by decide +kernel
theorem dX2_send_1 : decode cX2_send 1 = .ok (.getfield 18, 3) := by decide +kernel
theorem dX2_send_4 : decode cX2_send 4 = .ok (.iload_n 1, 1) := by decide +kernel
theorem dX2_send_5 : decode cX2_send 5 = .ok (.iaload, 1) := by decide +kernel
theorem dX2_send_6 : decode cX2_send 6 = .ok (.istore_n 2, 1) := by decide +kernel
theorem dX2_send_7 : decode cX2_send 7 = .ok (.aload_n 0, 1) := by decide +kernel
theorem dX2_send_8 : decode cX2_send 8 = .ok (.iload_n 1, 1) := by decide +kernel
theorem dX2_send_9 : decode cX2_send 9 = .ok (.iload_n 2, 1) := by decide +kernel
theorem dX2_send_10 : decode cX2_send 10 = .ok (.invokevirtual 85, 3) := by decide +kernel
theorem dX2_send_13 : decode cX2_send 13 = .ok (.ifCond .eq 14, 3) := by decide +kernel
theorem dX2_send_16 : decode cX2_send 16 = .ok (.aload_n 0, 1) := by decide +kernel
theorem dX2_send_17 : decode cX2_send 17 = .ok (.getfield 37, 3) := by decide +kernel
theorem dX2_send_20 : decode cX2_send 20 = .ok (.iload_n 1, 1) := by decide +kernel
theorem dX2_send_21 : decode cX2_send 21 = .ok (.invokevirtual 99, 3) := by decide +kernel
theorem dX2_send_24 : decode cX2_send 24 = .ok (.ifCond .ne 4, 3) := by decide +kernel
theorem dX2_send_27 : decode cX2_send 27 = .ok (.return_, 1) := by decide +kernel
theorem dX2_send_28 : decode cX2_send 28 = .ok (.aload_n 0, 1) := by decide +kernel
theorem dX2_send_29 : decode cX2_send 29 = .ok (.dup, 1) := by decide +kernel
theorem dX2_send_30 : decode cX2_send 30 = .ok (.getfield 59, 3) := by decide +kernel
theorem dX2_send_33 : decode cX2_send 33 = .ok (.iconst 1, 1) := by decide +kernel
theorem dX2_send_34 : decode cX2_send 34 = .ok (.iadd, 1) := by decide +kernel
theorem dX2_send_35 : decode cX2_send 35 = .ok (.putfield 59, 3) := by decide +kernel
theorem dX2_send_38 : decode cX2_send 38 = .ok (.aload_n 0, 1) := by decide +kernel
theorem dX2_send_39 : decode cX2_send 39 = .ok (.iload_n 1, 1) := by decide +kernel
theorem dX2_send_40 : decode cX2_send 40 = .ok (.iload_n 2, 1) := by decide +kernel
theorem dX2_send_41 : decode cX2_send 41 = .ok (.invokevirtual 131, 3) := by decide +kernel
theorem dX2_send_44 : decode cX2_send 44 = .ok (.ifCond .ne 16, 3) := by decide +kernel
theorem dX2_send_47 : decode cX2_send 47 = .ok (.aload_n 0, 1) := by decide +kernel
theorem dX2_send_48 : decode cX2_send 48 = .ok (.dup, 1) := by decide +kernel
theorem dX2_send_49 : decode cX2_send 49 = .ok (.getfield 65, 3) := by decide +kernel
theorem dX2_send_52 : decode cX2_send 52 = .ok (.iconst 1, 1) := by decide +kernel
theorem dX2_send_53 : decode cX2_send 53 = .ok (.iadd, 1) := by decide +kernel
theorem dX2_send_54 : decode cX2_send 54 = .ok (.putfield 65, 3) := by decide +kernel
theorem dX2_send_57 : decode cX2_send 57 = .ok (.goto 43, 3) := by decide +kernel
theorem dX2_send_60 : decode cX2_send 60 = .ok (.aload_n 0, 1) := by decide +kernel
theorem dX2_send_61 : decode cX2_send 61 = .ok (.getfield 31, 3) := by decide +kernel
theorem dX2_send_64 : decode cX2_send 64 = .ok (.iload_n 1, 1) := by decide +kernel
theorem dX2_send_65 : decode cX2_send 65 = .ok (.iaload, 1) := by decide +kernel
theorem dX2_send_66 : decode cX2_send 66 = .ok (.ifCond .le 26, 3) := by decide +kernel
theorem dX2_send_69 : decode cX2_send 69 = .ok (.aload_n 0, 1) := by decide +kernel
theorem dX2_send_70 : decode cX2_send 70 = .ok (.getfield 31, 3) := by decide +kernel
theorem dX2_send_73 : decode cX2_send 73 = .ok (.iload_n 1, 1) := by decide +kernel
theorem dX2_send_74 : decode cX2_send 74 = .ok (.dup2, 1) := by decide +kernel
theorem dX2_send_75 : decode cX2_send 75 = .ok (.iaload, 1) := by decide +kernel
theorem dX2_send_76 : decode cX2_send 76 = .ok (.iconst 1, 1) := by decide +kernel
theorem dX2_send_77 : decode cX2_send 77 = .ok (.isub, 1) := by decide +kernel
theorem dX2_send_78 : decode cX2_send 78 = .ok (.iastore, 1) := by decide +kernel
theorem dX2_send_79 : decode cX2_send 79 = .ok (.aload_n 0, 1) := by decide +kernel
theorem dX2_send_80 : decode cX2_send 80 = .ok (.dup, 1) := by decide +kernel
theorem dX2_send_81 : decode cX2_send 81 = .ok (.getfield 68, 3) := by decide +kernel
theorem dX2_send_84 : decode cX2_send 84 = .ok (.iconst 1, 1) := by decide +kernel
theorem dX2_send_85 : decode cX2_send 85 = .ok (.iadd, 1) := by decide +kernel
theorem dX2_send_86 : decode cX2_send 86 = .ok (.putfield 68, 3) := by decide +kernel
theorem dX2_send_89 : decode cX2_send 89 = .ok (.goto 11, 3) := by decide +kernel
theorem dX2_send_92 : decode cX2_send 92 = .ok (.aload_n 0, 1) := by decide +kernel
theorem dX2_send_93 : decode cX2_send 93 = .ok (.getfield 37, 3) := by decide +kernel
theorem dX2_send_96 : decode cX2_send 96 = .ok (.iload_n 1, 1) := by decide +kernel
theorem dX2_send_97 : decode cX2_send 97 = .ok (.invokevirtual 134, 3) := by decide +kernel
theorem dX2_send_100 : decode cX2_send 100 = .ok (.return_, 1) := by decide +kernel
theorem dX2_isAccepted_0 : decode cX2_isAccepted 0 = .ok (.aload_n 0, 1) := by decide +kernel
theorem dX2_isAccepted_1 : decode cX2_isAccepted 1 = .ok (.getfield 37, 3) := by decide +kernel
theorem dX2_isAccepted_4 : decode cX2_isAccepted 4 = .ok (.iload_n 1, 1) := by decide +kernel
theorem dX2_isAccepted_5 : decode cX2_isAccepted 5 = .ok (.iconst 0, 1) := by decide +kernel
theorem dX2_isAccepted_6 : decode cX2_isAccepted 6 = .ok (.invokevirtual 137, 3) := by decide +kernel
theorem dX2_isAccepted_9 : decode cX2_isAccepted 9 = .ok (.istore_n 3, 1) := by decide +kernel
theorem dX2_isAccepted_10 : decode cX2_isAccepted 10 = .ok (.aload_n 0, 1) := by decide +kernel
theorem dX2_isAccepted_11 : decode cX2_isAccepted 11 = .ok (.getfield 37, 3) := by decide +kernel
theorem dX2_isAccepted_14 : decode cX2_isAccepted 14 = .ok (.iload_n 2, 1) := by decide +kernel
theorem dX2_isAccepted_15 : decode cX2_isAccepted 15 = .ok (.iload_n 3, 1) := by decide +kernel
theorem dX2_isAccepted_16 : decode cX2_isAccepted 16 = .ok (.invokevirtual 140, 3) := by decide +kernel
theorem dX2_isAccepted_19 : decode cX2_isAccepted 19 = .ok (.ifCond .eq 15, 3) := by decide +kernel
theorem dX2_isAccepted_22 : decode cX2_isAccepted 22 = .ok (.aload_n 0, 1) := by decide +kernel
theorem dX2_isAccepted_23 : decode cX2_isAccepted 23 = .ok (.dup, 1) := by decide +kernel
theorem dX2_isAccepted_24 : decode cX2_isAccepted 24 = .ok (.getfield 62, 3) := by decide +kernel
theorem dX2_isAccepted_27 : decode cX2_isAccepted 27 = .ok (.iconst 1, 1) := by decide +kernel
theorem dX2_isAccepted_28 : decode cX2_isAccepted 28 = .ok (.iadd, 1) := by decide +kernel
theorem dX2_isAccepted_29 : decode cX2_isAccepted 29 = .ok (.putfield 62, 3) := by decide +kernel
theorem dX2_isAccepted_32 : decode cX2_isAccepted 32 = .ok (.iconst 1, 1) := by decide +kernel
theorem dX2_isAccepted_33 : decode cX2_isAccepted 33 = .ok (.ireturn, 1) := by decide +kernel
theorem dX2_isAccepted_34 : decode cX2_isAccepted 34 = .ok (.iload_n 2, 1) := by decide +kernel
theorem dX2_isAccepted_35 : decode cX2_isAccepted 35 = .ok (.invokestatic 74, 3) := by decide +kernel
theorem dX2_isAccepted_38 : decode cX2_isAccepted 38 = .ok (.ifCond .eq 14, 3) := by decide +kernel
theorem dX2_isAccepted_41 : decode cX2_isAccepted 41 = .ok (.aload_n 0, 1) := by decide +kernel
theorem dX2_isAccepted_42 : decode cX2_isAccepted 42 = .ok (.getfield 37, 3) := by decide +kernel
theorem dX2_isAccepted_45 : decode cX2_isAccepted 45 = .ok (.iload_n 2, 1) := by decide +kernel
theorem dX2_isAccepted_46 : decode cX2_isAccepted 46 = .ok (.invokevirtual 92, 3) := by decide +kernel
theorem dX2_isAccepted_49 : decode cX2_isAccepted 49 = .ok (.ifCond .eq 5, 3) := by decide +kernel
theorem dX2_isAccepted_52 : decode cX2_isAccepted 52 = .ok (.iconst 0, 1) := by decide +kernel
theorem dX2_isAccepted_53 : decode cX2_isAccepted 53 = .ok (.ireturn, 1) := by decide +kernel
theorem dX2_isAccepted_54 : decode cX2_isAccepted 54 = .ok (.aload_n 0, 1) := by decide +kernel
theorem dX2_isAccepted_55 : decode cX2_isAccepted 55 = .ok (.getfield 37, 3) := by decide +kernel
theorem dX2_isAccepted_58 : decode cX2_isAccepted 58 = .ok (.iload_n 2, 1) := by decide +kernel
theorem dX2_isAccepted_59 : decode cX2_isAccepted 59 = .ok (.iload_n 3, 1) := by decide +kernel
theorem dX2_isAccepted_60 : decode cX2_isAccepted 60 = .ok (.aload_n 0, 1) := by decide +kernel
theorem dX2_isAccepted_61 : decode cX2_isAccepted 61 = .ok (.getfield 37, 3) := by decide +kernel
theorem dX2_isAccepted_64 : decode cX2_isAccepted 64 = .ok (.iload_n 1, 1) := by decide +kernel
theorem dX2_isAccepted_65 : decode cX2_isAccepted 65 = .ok (.iconst 0, 1) := by decide +kernel
theorem dX2_isAccepted_66 : decode cX2_isAccepted 66 = .ok (.invokevirtual 143, 3) := by decide +kernel
theorem dX2_isAccepted_69 : decode cX2_isAccepted 69 = .ok (.aload_n 0, 1) := by decide +kernel
theorem dX2_isAccepted_70 : decode cX2_isAccepted 70 = .ok (.getfield 28, 3) := by decide +kernel
theorem dX2_isAccepted_73 : decode cX2_isAccepted 73 = .ok (.iload_n 2, 1) := by decide +kernel
theorem dX2_isAccepted_74 : decode cX2_isAccepted 74 = .ok (.iaload, 1) := by decide +kernel
theorem dX2_isAccepted_75 : decode cX2_isAccepted 75 = .ok (.iadd, 1) := by decide +kernel
theorem dX2_isAccepted_76 : decode cX2_isAccepted 76 = .ok (.aload_n 0, 1) := by decide +kernel
theorem dX2_isAccepted_77 : decode cX2_isAccepted 77 = .ok (.getfield 28, 3) := by decide +kernel
theorem dX2_isAccepted_80 : decode cX2_isAccepted 80 = .ok (.iload_n 1, 1) := by decide +kernel
theorem dX2_isAccepted_81 : decode cX2_isAccepted 81 = .ok (.iaload, 1) := by decide +kernel
theorem dX2_isAccepted_82 : decode cX2_isAccepted 82 = .ok (.isub, 1) := by decide +kernel
theorem dX2_isAccepted_83 : decode cX2_isAccepted 83 = .ok (.invokevirtual 146, 3) := by decide +kernel
theorem dX2_isAccepted_86 : decode cX2_isAccepted 86 = .ok (.iconst 1, 1) := by decide +kernel
theorem dX2_isAccepted_87 : decode cX2_isAccepted 87 = .ok (.ireturn, 1) := by decide +kernel
theorem dX3_init_0 : decode cX3_init 0 = .ok (.aload_n 0, 1) := by decide +kernel
theorem dX3_init_1 : decode cX3_init 1 = .ok (.invokespecial 3, 3) := by decide +kernel
theorem dX3_init_4 : decode cX3_init 4 = .ok (.aload_n 0, 1) := by decide +kernel
theorem dX3_init_5 : decode cX3_init 5 = .ok (.bipush 80, 2) := by decide +kernel
theorem dX3_init_7 : decode cX3_init 7 = .ok (.newarray .char, 2) := by decide +kernel
theorem dX3_init_9 : decode cX3_init 9 = .ok (.putfield 9, 3) := by decide +kernel
theorem dX3_init_12 : decode cX3_init 12 = .ok (.return_, 1) := by decide +kernel
theorem dX4_init_0 : decode cX4_init 0 = .ok (.aload_n 0, 1) := by decide +kernel
theorem dX4_init_1 : decode cX4_init 1 = .ok (.invokespecial 1, 3) := by decide +kernel
theorem dX4_init_4 : decode cX4_init 4 = .ok (.aload_n 0, 1) := by decide +kernel
theorem dX4_init_5 : decode cX4_init 5 = .ok (.new 7, 3) := by decide +kernel
theorem dX4_init_8 : decode cX4_init 8 = .ok (.dup, 1) := by decide +kernel
theorem dX4_init_9 : decode cX4_init 9 = .ok (.invokespecial 9, 3) := by decide +kernel
theorem dX4_init_12 : decode cX4_init 12 = .ok (.putfield 10, 3) := by decide +kernel
theorem dX4_init_15 : decode cX4_init 15 = .ok (.aload_n 0, 1) := by decide +kernel
theorem dX4_init_16 : decode cX4_init 16 = .ok (.new 7, 3) := by decide +kernel
theorem dX4_init_19 : decode cX4_init 19 = .ok (.dup, 1) := by decide +kernel
theorem dX4_init_20 : decode cX4_init 20 = .ok (.invokespecial 9, 3) := by decide +kernel
theorem dX4_init_23 : decode cX4_init 23 = .ok (.putfield 16, 3) := by decide +kernel
theorem dX4_init_26 : decode cX4_init 26 = .ok (.aload_n 0, 1) := by decide +kernel
theorem dX4_init_27 : decode cX4_init 27 = .ok (.new 19, 3) := by decide +kernel
theorem dX4_init_30 : decode cX4_init 30 = .ok (.dup, 1) := by decide +kernel
theorem dX4_init_31 : decode cX4_init 31 = .ok (.invokespecial 21, 3) := by decide +kernel
theorem dX4_init_34 : decode cX4_init 34 = .ok (.putfield 22, 3) := by decide +kernel
theorem dX4_init_37 : decode cX4_init 37 = .ok (.aload_n 0, 1) := by decide +kernel
theorem dX4_init_38 : decode cX4_init 38 = .ok (.new 26, 3) := by decide +kernel
theorem dX4_init_41 : decode cX4_init 41 = .ok (.dup, 1) := by decide +kernel
theorem dX4_init_42 : decode cX4_init 42 = .ok (.invokespecial 28, 3) := by decide +kernel
theorem dX4_init_45 : decode cX4_init 45 = .ok (.putfield 29, 3) := by decide +kernel
theorem dX4_init_48 : decode cX4_init 48 = .ok (.return_, 1) := by decide +kernel
theorem dX4_link_0 : decode cX4_link 0 = .ok (.iload_n 1, 1) := by decide +kernel
theorem dX4_link_1 : decode cX4_link 1 = .ok (.invokestatic 33, 3) := by decide +kernel
theorem dX4_link_4 : decode cX4_link 4 = .ok (.iload_n 2, 1) := by decide +kernel
theorem dX4_link_5 : decode cX4_link 5 = .ok (.invokestatic 33, 3) := by decide +kernel
theorem dX4_link_8 : decode cX4_link 8 = .ok (.iload_n 1, 1) := by decide +kernel
theorem dX4_link_9 : decode cX4_link 9 = .ok (.iload_n 2, 1) := by decide +kernel
theorem dX4_link_10 : decode cX4_link 10 = .ok (.if_icmp .ne 13, 3) := by decide +kernel
theorem dX4_link_13 : decode cX4_link 13 = .ok (.new 37, 3) := by decide +kernel
theorem dX4_link_16 : decode cX4_link 16 = .ok (.dup, 1) := by decide +kernel
theorem dX4_link_17 : decode cX4_link 17 = .ok (.ldc 39, 2) := by decide +kernel
theorem dX4_link_19 : decode cX4_link 19 = .ok (.invokespecial 41, 3) := by decide +kernel
theorem dX4_link_22 : decode cX4_link 22 = .ok (.athrow, 1) := by decide +kernel
theorem dX4_link_23 : decode cX4_link 23 = .ok (.aload_n 0, 1) := by decide +kernel
theorem dX4_link_24 : decode cX4_link 24 = .ok (.getfield 22, 3) := by decide +kernel
theorem dX4_link_27 : decode cX4_link 27 = .ok (.aload_n 0, 1) := by decide +kernel
theorem dX4_link_28 : decode cX4_link 28 = .ok (.getfield 10, 3) := by decide +kernel
theorem dX4_link_31 : decode cX4_link 31 = .ok (.invokevirtual 44, 3) := by decide +kernel
theorem dX4_link_34 : decode cX4_link 34 = .ok (.aload_n 0, 1) := by decide +kernel
theorem dX4_link_35 : decode cX4_link 35 = .ok (.getfield 10, 3) := by decide +kernel
theorem dX4_link_38 : decode cX4_link 38 = .ok (.iload_n 1, 1) := by decide +kernel
theorem dX4_link_39 : decode cX4_link 39 = .ok (.iload_n 2, 1) := by decide +kernel
theorem dX4_link_40 : decode cX4_link 40 = .ok (.iload_n 3, 1) := by decide +kernel
theorem dX4_link_41 : decode cX4_link 41 = .ok (.invokevirtual 48, 3) := by decide +kernel
theorem dX4_link_44 : decode cX4_link 44 = .ok (.aload_n 0, 1) := by decide +kernel
theorem dX4_link_45 : decode cX4_link 45 = .ok (.getfield 10, 3) := by decide +kernel
theorem dX4_link_48 : decode cX4_link 48 = .ok (.invokevirtual 52, 3) := by decide +kernel
theorem dX4_link_51 : decode cX4_link 51 = .ok (.ireturn, 1) := by decide +kernel
theorem dX4_power_0 : decode cX4_power 0 = .ok (.iload_n 1, 1) := by decide +kernel
theorem dX4_power_1 : decode cX4_power 1 = .ok (.invokestatic 33, 3) := by decide +kernel
theorem dX4_power_4 : decode cX4_power 4 = .ok (.aload_n 0, 1) := by decide +kernel
theorem dX4_power_5 : decode cX4_power 5 = .ok (.getfield 22, 3) := by decide +kernel
theorem dX4_power_8 : decode cX4_power 8 = .ok (.aload_n 0, 1) := by decide +kernel
theorem dX4_power_9 : decode cX4_power 9 = .ok (.getfield 10, 3) := by decide +kernel
theorem dX4_power_12 : decode cX4_power 12 = .ok (.invokevirtual 44, 3) := by decide +kernel
theorem dX4_power_15 : decode cX4_power 15 = .ok (.aload_n 0, 1) := by decide +kernel
theorem dX4_power_16 : decode cX4_power 16 = .ok (.getfield 10, 3) := by decide +kernel
theorem dX4_power_19 : decode cX4_power 19 = .ok (.iload_n 1, 1) := by decide +kernel
theorem dX4_power_20 : decode cX4_power 20 = .ok (.iload_n 2, 1) := by decide +kernel
theorem dX4_power_21 : decode cX4_power 21 = .ok (.invokevirtual 56, 3) := by decide +kernel
theorem dX4_power_24 : decode cX4_power 24 = .ok (.aload_n 0, 1) := by decide +kernel
theorem dX4_power_25 : decode cX4_power 25 = .ok (.getfield 10, 3) := by decide +kernel
theorem dX4_power_28 : decode cX4_power 28 = .ok (.invokevirtual 60, 3) := by decide +kernel
theorem dX4_power_31 : decode cX4_power 31 = .ok (.ireturn, 1) := by decide +kernel
theorem dX4_jump_0 : decode cX4_jump 0 = .ok (.iload_n 1, 1) := by decide +kernel
theorem dX4_jump_1 : decode cX4_jump 1 = .ok (.invokestatic 63, 3) := by decide +kernel
theorem dX4_jump_4 : decode cX4_jump 4 = .ok (.iload_n 2, 1) := by decide +kernel
theorem dX4_jump_5 : decode cX4_jump 5 = .ok (.bipush (-100), 2) := by decide +kernel
theorem dX4_jump_7 : decode cX4_jump 7 = .ok (.bipush 100, 2) := by decide +kernel
theorem dX4_jump_9 : decode cX4_jump 9 = .ok (.invokestatic 66, 3) := by decide +kernel
theorem dX4_jump_12 : decode cX4_jump 12 = .ok (.aload_n 0, 1) := by decide +kernel
theorem dX4_jump_13 : decode cX4_jump 13 = .ok (.getfield 22, 3) := by decide +kernel
theorem dX4_jump_16 : decode cX4_jump 16 = .ok (.aload_n 0, 1) := by decide +kernel
theorem dX4_jump_17 : decode cX4_jump 17 = .ok (.getfield 10, 3) := by decide +kernel
theorem dX4_jump_20 : decode cX4_jump 20 = .ok (.invokevirtual 44, 3) := by decide +kernel
theorem dX4_jump_23 : decode cX4_jump 23 = .ok (.aload_n 0, 1) := by decide +kernel
theorem dX4_jump_24 : decode cX4_jump 24 = .ok (.getfield 10, 3) := by decide +kernel
theorem dX4_jump_27 : decode cX4_jump 27 = .ok (.getfield 70, 3) := by decide +kernel
theorem dX4_jump_30 : decode cX4_jump 30 = .ok (.iload_n 1, 1) := by decide +kernel
theorem dX4_jump_31 : decode cX4_jump 31 = .ok (.dup2, 1) := by decide +kernel
theorem dX4_jump_32 : decode cX4_jump 32 = .ok (.iaload, 1) := by decide +kernel
theorem dX4_jump_33 : decode cX4_jump 33 = .ok (.iload_n 2, 1) := by decide +kernel
theorem dX4_jump_34 : decode cX4_jump 34 = .ok (.iadd, 1) := by decide +kernel
theorem dX4_jump_35 : decode cX4_jump 35 = .ok (.iastore, 1) := by decide +kernel
theorem dX4_jump_36 : decode cX4_jump 36 = .ok (.aload_n 0, 1) := by decide +kernel
theorem dX4_jump_37 : decode cX4_jump 37 = .ok (.getfield 10, 3) := by decide +kernel
theorem dX4_jump_40 : decode cX4_jump 40 = .ok (.getfield 70, 3) := by decide +kernel
theorem dX4_jump_43 : decode cX4_jump 43 = .ok (.iload_n 1, 1) := by decide +kernel
theorem dX4_jump_44 : decode cX4_jump 44 = .ok (.iaload, 1) := by decide +kernel
theorem dX4_jump_45 : decode cX4_jump 45 = .ok (.ireturn, 1) := by decide +kernel
theorem dX4_setFaults_0 : decode cX4_setFaults 0 = .ok (.iload_n 1, 1) := by decide +kernel
theorem dX4_setFaults_1 : decode cX4_setFaults 1 = .ok (.invokestatic 63, 3) := by decide +kernel
theorem dX4_setFaults_4 : decode cX4_setFaults 4 = .ok (.iload_n 2, 1) := by decide +kernel
theorem dX4_setFaults_5 : decode cX4_setFaults 5 = .ok (.iconst 0, 1) := by decide +kernel
theorem dX4_setFaults_6 : decode cX4_setFaults 6 = .ok (.bipush 9, 2) := by decide +kernel
theorem dX4_setFaults_8 : decode cX4_setFaults 8 = .ok (.invokestatic 66, 3) := by decide +kernel
theorem dX4_setFaults_11 : decode cX4_setFaults 11 = .ok (.aload_n 0, 1) := by decide +kernel
theorem dX4_setFaults_12 : decode cX4_setFaults 12 = .ok (.getfield 22, 3) := by decide +kernel
theorem dX4_setFaults_15 : decode cX4_setFaults 15 = .ok (.aload_n 0, 1) := by decide +kernel
theorem dX4_setFaults_16 : decode cX4_setFaults 16 = .ok (.getfield 10, 3) := by decide +kernel
theorem dX4_setFaults_19 : decode cX4_setFaults 19 = .ok (.invokevirtual 44, 3) := by decide +kernel
theorem dX4_setFaults_22 : decode cX4_setFaults 22 = .ok (.aload_n 0, 1) := by decide +kernel
theorem dX4_setFaults_23 : decode cX4_setFaults 23 = .ok (.getfield 10, 3) := by decide +kernel
theorem dX4_setFaults_26 : decode cX4_setFaults 26 = .ok (.getfield 74, 3) := by decide +kernel
theorem dX4_setFaults_29 : decode cX4_setFaults 29 = .ok (.iload_n 1, 1) := by decide +kernel
theorem dX4_setFaults_30 : decode cX4_setFaults 30 = .ok (.iaload, 1) := by decide +kernel
theorem dX4_setFaults_31 : decode cX4_setFaults 31 = .ok (.istore_n 3, 1) := by decide +kernel
theorem dX4_setFaults_32 : decode cX4_setFaults 32 = .ok (.aload_n 0, 1) := by decide +kernel
theorem dX4_setFaults_33 : decode cX4_setFaults 33 = .ok (.getfield 10, 3) := by decide +kernel
theorem dX4_setFaults_36 : decode cX4_setFaults 36 = .ok (.getfield 74, 3) := by decide +kernel
theorem dX4_setFaults_39 : decode cX4_setFaults 39 = .ok (.iload_n 1, 1) := by decide +kernel
theorem dX4_setFaults_40 : decode cX4_setFaults 40 = .ok (.iload_n 2, 1) := by decide +kernel
theorem dX4_setFaults_41 : decode cX4_setFaults 41 = .ok (.iastore, 1) := by decide +kernel
theorem dX4_setFaults_42 : decode cX4_setFaults 42 = .ok (.iload_n 3, 1) := by decide +kernel
theorem dX4_setFaults_43 : decode cX4_setFaults 43 = .ok (.ireturn, 1) := by decide +kernel
theorem dX4_setPatience_0 : decode cX4_setPatience 0 = .ok (.iload_n 1, 1) := by decide +kernel
theorem dX4_setPatience_1 : decode cX4_setPatience 1 = .ok (.iconst 1, 1) := by decide +kernel
theorem dX4_setPatience_2 : decode cX4_setPatience 2 = .ok (.iconst 5, 1) := by decide +kernel
theorem dX4_setPatience_3 : decode cX4_setPatience 3 = .ok (.invokestatic 66, 3) := by decide +kernel
theorem dX4_setPatience_6 : decode cX4_setPatience 6 = .ok (.aload_n 0, 1) := by decide +kernel
theorem dX4_setPatience_7 : decode cX4_setPatience 7 = .ok (.getfield 22, 3) := by decide +kernel
theorem dX4_setPatience_10 : decode cX4_setPatience 10 = .ok (.aload_n 0, 1) := by decide +kernel
theorem dX4_setPatience_11 : decode cX4_setPatience 11 = .ok (.getfield 10, 3) := by decide +kernel
theorem dX4_setPatience_14 : decode cX4_setPatience 14 = .ok (.invokevirtual 44, 3) := by decide +kernel
theorem dX4_setPatience_17 : decode cX4_setPatience 17 = .ok (.aload_n 0, 1) := by decide +kernel
theorem dX4_setPatience_18 : decode cX4_setPatience 18 = .ok (.getfield 10, 3) := by decide +kernel
theorem dX4_setPatience_21 : decode cX4_setPatience 21 = .ok (.getfield 77, 3) := by decide +kernel
theorem dX4_setPatience_24 : decode cX4_setPatience 24 = .ok (.istore_n 2, 1) := by decide +kernel
theorem dX4_setPatience_25 : decode cX4_setPatience 25 = .ok (.aload_n 0, 1) := by decide +kernel
theorem dX4_setPatience_26 : decode cX4_setPatience 26 = .ok (.getfield 10, 3) := by decide +kernel
theorem dX4_setPatience_29 : decode cX4_setPatience 29 = .ok (.iload_n 1, 1) := by decide +kernel
theorem dX4_setPatience_30 : decode cX4_setPatience 30 = .ok (.putfield 77, 3) := by decide +kernel
theorem dX4_setPatience_33 : decode cX4_setPatience 33 = .ok (.iload_n 2, 1) := by decide +kernel
theorem dX4_setPatience_34 : decode cX4_setPatience 34 = .ok (.ireturn, 1) := by decide +kernel
theorem dX4_take_0 : decode cX4_take 0 = .ok (.iload_n 1, 1) := by decide +kernel
theorem dX4_take_1 : decode cX4_take 1 = .ok (.invokestatic 63, 3) := by decide +kernel
theorem dX4_take_4 : decode cX4_take 4 = .ok (.iload_n 2, 1) := by decide +kernel
theorem dX4_take_5 : decode cX4_take 5 = .ok (.iconst 0, 1) := by decide +kernel
theorem dX4_take_6 : decode cX4_take 6 = .ok (.sipush 999, 3) := by decide +kernel
theorem dX4_take_9 : decode cX4_take 9 = .ok (.invokestatic 66, 3) := by decide +kernel
theorem dX4_take_12 : decode cX4_take 12 = .ok (.aload_n 0, 1) := by decide +kernel
theorem dX4_take_13 : decode cX4_take 13 = .ok (.getfield 10, 3) := by decide +kernel
theorem dX4_take_16 : decode cX4_take 16 = .ok (.iload_n 1, 1) := by decide +kernel
theorem dX4_take_17 : decode cX4_take 17 = .ok (.invokevirtual 81, 3) := by decide +kernel
theorem dX4_take_20 : decode cX4_take 20 = .ok (.ifCond .ne 13, 3) := by decide +kernel
theorem dX4_take_23 : decode cX4_take 23 = .ok (.new 85, 3) := by decide +kernel
theorem dX4_take_26 : decode cX4_take 26 = .ok (.dup, 1) := by decide +kernel
theorem dX4_take_27 : decode cX4_take 27 = .ok (.ldc 87, 2) := by decide +kernel
theorem dX4_take_29 : decode cX4_take 29 = .ok (.invokespecial 89, 3) := by decide +kernel
theorem dX4_take_32 : decode cX4_take 32 = .ok (.athrow, 1) := by decide +kernel
theorem dX4_take_33 : decode cX4_take 33 = .ok (.aload_n 0, 1) := by decide +kernel
theorem dX4_take_34 : decode cX4_take 34 = .ok (.getfield 22, 3) := by decide +kernel
theorem dX4_take_37 : decode cX4_take 37 = .ok (.aload_n 0, 1) := by decide +kernel
theorem dX4_take_38 : decode cX4_take 38 = .ok (.getfield 10, 3) := by decide +kernel
theorem dX4_take_41 : decode cX4_take 41 = .ok (.invokevirtual 44, 3) := by decide +kernel
theorem dX4_take_44 : decode cX4_take 44 = .ok (.aload_n 0, 1) := by decide +kernel
theorem dX4_take_45 : decode cX4_take 45 = .ok (.getfield 10, 3) := by decide +kernel
theorem dX4_take_48 : decode cX4_take 48 = .ok (.iload_n 1, 1) := by decide +kernel
theorem dX4_take_49 : decode cX4_take 49 = .ok (.iload_n 2, 1) := by decide +kernel
theorem dX4_take_50 : decode cX4_take 50 = .ok (.invokevirtual 90, 3) := by decide +kernel
theorem dX4_take_53 : decode cX4_take 53 = .ok (.ireturn, 1) := by decide +kernel
theorem dX4_run_0 : decode cX4_run 0 = .ok (.iload_n 1, 1) := by decide +kernel
theorem dX4_run_1 : decode cX4_run 1 = .ok (.iconst 1, 1) := by decide +kernel
theorem dX4_run_2 : decode cX4_run 2 = .ok (.bipush 100, 2) := by decide +kernel
theorem dX4_run_4 : decode cX4_run 4 = .ok (.invokestatic 66, 3) := by decide +kernel
theorem dX4_run_7 : decode cX4_run 7 = .ok (.aload_n 0, 1) := by decide +kernel
theorem dX4_run_8 : decode cX4_run 8 = .ok (.getfield 22, 3) := by decide +kernel
theorem dX4_run_11 : decode cX4_run 11 = .ok (.aload_n 0, 1) := by decide +kernel
theorem dX4_run_12 : decode cX4_run 12 = .ok (.getfield 10, 3) := by decide +kernel
theorem dX4_run_15 : decode cX4_run 15 = .ok (.invokevirtual 44, 3) := by decide +kernel
theorem dX4_run_18 : decode cX4_run 18 = .ok (.aload_n 0, 1) := by decide +kernel
theorem dX4_run_19 : decode cX4_run 19 = .ok (.getfield 10, 3) := by decide +kernel
theorem dX4_run_22 : decode cX4_run 22 = .ok (.iload_n 1, 1) := by decide +kernel
theorem dX4_run_23 : decode cX4_run 23 = .ok (.invokevirtual 94, 3) := by decide +kernel
theorem dX4_run_26 : decode cX4_run 26 = .ok (.ireturn, 1) := by decide +kernel
theorem dX4_undo_0 : decode cX4_undo 0 = .ok (.aload_n 0, 1) := by decide +kernel
theorem dX4_undo_1 : decode cX4_undo 1 = .ok (.getfield 22, 3) := by decide +kernel
theorem dX4_undo_4 : decode cX4_undo 4 = .ok (.invokevirtual 145, 3) := by decide +kernel
theorem dX4_undo_7 : decode cX4_undo 7 = .ok (.astore_n 1, 1) := by decide +kernel
theorem dX4_undo_8 : decode cX4_undo 8 = .ok (.aload_n 1, 1) := by decide +kernel
theorem dX4_undo_9 : decode cX4_undo 9 = .ok (.ifnonnull 13, 3) := by decide +kernel
theorem dX4_undo_12 : decode cX4_undo 12 = .ok (.new 85, 3) := by decide +kernel
theorem dX4_undo_15 : decode cX4_undo 15 = .ok (.dup, 1) := by decide +kernel
theorem dX4_undo_16 : decode cX4_undo 16 = .ok (.ldc 149, 2) := by decide +kernel
theorem dX4_undo_18 : decode cX4_undo 18 = .ok (.invokespecial 89, 3) := by decide +kernel
theorem dX4_undo_21 : decode cX4_undo 21 = .ok (.athrow, 1) := by decide +kernel
theorem dX4_undo_22 : decode cX4_undo 22 = .ok (.aload_n 0, 1) := by decide +kernel
theorem dX4_undo_23 : decode cX4_undo 23 = .ok (.getfield 10, 3) := by decide +kernel
theorem dX4_undo_26 : decode cX4_undo 26 = .ok (.aload_n 1, 1) := by decide +kernel
theorem dX4_undo_27 : decode cX4_undo 27 = .ok (.invokevirtual 151, 3) := by decide +kernel
theorem dX4_undo_30 : decode cX4_undo 30 = .ok (.aload_n 0, 1) := by decide +kernel
theorem dX4_undo_31 : decode cX4_undo 31 = .ok (.getfield 22, 3) := by decide +kernel
theorem dX4_undo_34 : decode cX4_undo 34 = .ok (.invokevirtual 154, 3) := by decide +kernel
theorem dX4_undo_37 : decode cX4_undo 37 = .ok (.aload_n 0, 1) := by decide +kernel
theorem dX4_undo_38 : decode cX4_undo 38 = .ok (.getfield 22, 3) := by decide +kernel
theorem dX4_undo_41 : decode cX4_undo 41 = .ok (.getfield 157, 3) := by decide +kernel
theorem dX4_undo_44 : decode cX4_undo 44 = .ok (.ireturn, 1) := by decide +kernel
theorem dX4_isConnected_0 : decode cX4_isConnected 0 = .ok (.iload_n 1, 1) := by decide +kernel
theorem dX4_isConnected_1 : decode cX4_isConnected 1 = .ok (.invokestatic 33, 3) := by decide +kernel
theorem dX4_isConnected_4 : decode cX4_isConnected 4 = .ok (.iload_n 2, 1) := by decide +kernel
theorem dX4_isConnected_5 : decode cX4_isConnected 5 = .ok (.invokestatic 33, 3) := by decide +kernel
theorem dX4_isConnected_8 : decode cX4_isConnected 8 = .ok (.aload_n 0, 1) := by decide +kernel
theorem dX4_isConnected_9 : decode cX4_isConnected 9 = .ok (.getfield 10, 3) := by decide +kernel
theorem dX4_isConnected_12 : decode cX4_isConnected 12 = .ok (.iload_n 1, 1) := by decide +kernel
theorem dX4_isConnected_13 : decode cX4_isConnected 13 = .ok (.iload_n 2, 1) := by decide +kernel
theorem dX4_isConnected_14 : decode cX4_isConnected 14 = .ok (.invokevirtual 160, 3) := by decide +kernel
theorem dX4_isConnected_17 : decode cX4_isConnected 17 = .ok (.ireturn, 1) := by decide +kernel
theorem dX4_parent_0 : decode cX4_parent 0 = .ok (.iload_n 1, 1) := by decide +kernel
theorem dX4_parent_1 : decode cX4_parent 1 = .ok (.invokestatic 33, 3) := by decide +kernel
theorem dX4_parent_4 : decode cX4_parent 4 = .ok (.aload_n 0, 1) := by decide +kernel
theorem dX4_parent_5 : decode cX4_parent 5 = .ok (.getfield 10, 3) := by decide +kernel
theorem dX4_parent_8 : decode cX4_parent 8 = .ok (.getfield 164, 3) := by decide +kernel
theorem dX4_parent_11 : decode cX4_parent 11 = .ok (.iload_n 1, 1) := by decide +kernel
theorem dX4_parent_12 : decode cX4_parent 12 = .ok (.iaload, 1) := by decide +kernel
theorem dX4_parent_13 : decode cX4_parent 13 = .ok (.ireturn, 1) := by decide +kernel
theorem dX4_depth_0 : decode cX4_depth 0 = .ok (.iload_n 1, 1) := by decide +kernel
theorem dX4_depth_1 : decode cX4_depth 1 = .ok (.invokestatic 33, 3) := by decide +kernel
theorem dX4_depth_4 : decode cX4_depth 4 = .ok (.aload_n 0, 1) := by decide +kernel
theorem dX4_depth_5 : decode cX4_depth 5 = .ok (.getfield 10, 3) := by decide +kernel
theorem dX4_depth_8 : decode cX4_depth 8 = .ok (.getfield 167, 3) := by decide +kernel
theorem dX4_depth_11 : decode cX4_depth 11 = .ok (.iload_n 1, 1) := by decide +kernel
theorem dX4_depth_12 : decode cX4_depth 12 = .ok (.iaload, 1) := by decide +kernel
theorem dX4_depth_13 : decode cX4_depth 13 = .ok (.ireturn, 1) := by decide +kernel
theorem dX4_clock_0 : decode cX4_clock 0 = .ok (.iload_n 1, 1) := by decide +kernel
theorem dX4_clock_1 : decode cX4_clock 1 = .ok (.invokestatic 33, 3) := by decide +kernel
theorem dX4_clock_4 : decode cX4_clock 4 = .ok (.aload_n 0, 1) := by decide +kernel
theorem dX4_clock_5 : decode cX4_clock 5 = .ok (.getfield 10, 3) := by decide +kernel
theorem dX4_clock_8 : decode cX4_clock 8 = .ok (.getfield 170, 3) := by decide +kernel
theorem dX4_clock_11 : decode cX4_clock 11 = .ok (.aload_n 0, 1) := by decide +kernel
theorem dX4_clock_12 : decode cX4_clock 12 = .ok (.getfield 10, 3) := by decide +kernel
theorem dX4_clock_15 : decode cX4_clock 15 = .ok (.getfield 70, 3) := by decide +kernel
theorem dX4_clock_18 : decode cX4_clock 18 = .ok (.iload_n 1, 1) := by decide +kernel
theorem dX4_clock_19 : decode cX4_clock 19 = .ok (.iaload, 1) := by decide +kernel
theorem dX4_clock_20 : decode cX4_clock 20 = .ok (.iadd, 1) := by decide +kernel
theorem dX4_clock_21 : decode cX4_clock 21 = .ok (.ireturn, 1) := by decide +kernel
theorem dX4_silence_0 : decode cX4_silence 0 = .ok (.iload_n 1, 1) := by decide +kernel
theorem dX4_silence_1 : decode cX4_silence 1 = .ok (.invokestatic 63, 3) := by decide +kernel
theorem dX4_silence_4 : decode cX4_silence 4 = .ok (.aload_n 0, 1) := by decide +kernel
theorem dX4_silence_5 : decode cX4_silence 5 = .ok (.getfield 10, 3) := by decide +kernel
theorem dX4_silence_8 : decode cX4_silence 8 = .ok (.getfield 164, 3) := by decide +kernel
theorem dX4_silence_11 : decode cX4_silence 11 = .ok (.iload_n 1, 1) := by decide +kernel
theorem dX4_silence_12 : decode cX4_silence 12 = .ok (.iaload, 1) := by decide +kernel
theorem dX4_silence_13 : decode cX4_silence 13 = .ok (.iconst (-1), 1) := by decide +kernel
theorem dX4_silence_14 : decode cX4_silence 14 = .ok (.if_icmp .ne 7, 3) := by decide +kernel
theorem dX4_silence_17 : decode cX4_silence 17 = .ok (.iconst (-1), 1) := by decide +kernel
theorem dX4_silence_18 : decode cX4_silence 18 = .ok (.goto 20, 3) := by decide +kernel
theorem dX4_silence_21 : decode cX4_silence 21 = .ok (.aload_n 0, 1) := by decide +kernel
theorem dX4_silence_22 : decode cX4_silence 22 = .ok (.getfield 10, 3) := by decide +kernel
theorem dX4_silence_25 : decode cX4_silence 25 = .ok (.getfield 170, 3) := by decide +kernel
theorem dX4_silence_28 : decode cX4_silence 28 = .ok (.aload_n 0, 1) := by decide +kernel
theorem dX4_silence_29 : decode cX4_silence 29 = .ok (.getfield 10, 3) := by decide +kernel
theorem dX4_silence_32 : decode cX4_silence 32 = .ok (.getfield 173, 3) := by decide +kernel
theorem dX4_silence_35 : decode cX4_silence 35 = .ok (.iload_n 1, 1) := by decide +kernel
theorem dX4_silence_36 : decode cX4_silence 36 = .ok (.iaload, 1) := by decide +kernel
theorem dX4_silence_37 : decode cX4_silence 37 = .ok (.isub, 1) := by decide +kernel
theorem dX4_silence_38 : decode cX4_silence 38 = .ok (.ireturn, 1) := by decide +kernel
theorem dX4_faults_0 : decode cX4_faults 0 = .ok (.iload_n 1, 1) := by decide +kernel
theorem dX4_faults_1 : decode cX4_faults 1 = .ok (.invokestatic 63, 3) := by decide +kernel
theorem dX4_faults_4 : decode cX4_faults 4 = .ok (.aload_n 0, 1) := by decide +kernel
theorem dX4_faults_5 : decode cX4_faults 5 = .ok (.getfield 10, 3) := by decide +kernel
theorem dX4_faults_8 : decode cX4_faults 8 = .ok (.getfield 74, 3) := by decide +kernel
theorem dX4_faults_11 : decode cX4_faults 11 = .ok (.iload_n 1, 1) := by decide +kernel
theorem dX4_faults_12 : decode cX4_faults 12 = .ok (.iaload, 1) := by decide +kernel
theorem dX4_faults_13 : decode cX4_faults 13 = .ok (.ireturn, 1) := by decide +kernel
theorem dX4_hops_0 : decode cX4_hops 0 = .ok (.iload_n 1, 1) := by decide +kernel
theorem dX4_hops_1 : decode cX4_hops 1 = .ok (.invokestatic 33, 3) := by decide +kernel
theorem dX4_hops_4 : decode cX4_hops 4 = .ok (.aload_n 0, 1) := by decide +kernel
theorem dX4_hops_5 : decode cX4_hops 5 = .ok (.getfield 10, 3) := by decide +kernel
theorem dX4_hops_8 : decode cX4_hops 8 = .ok (.iload_n 1, 1) := by decide +kernel
theorem dX4_hops_9 : decode cX4_hops 9 = .ok (.invokevirtual 176, 3) := by decide +kernel
theorem dX4_hops_12 : decode cX4_hops 12 = .ok (.ireturn, 1) := by decide +kernel
theorem dX4_stored_0 : decode cX4_stored 0 = .ok (.iload_n 1, 1) := by decide +kernel
theorem dX4_stored_1 : decode cX4_stored 1 = .ok (.invokestatic 63, 3) := by decide +kernel
theorem dX4_stored_4 : decode cX4_stored 4 = .ok (.aload_n 0, 1) := by decide +kernel
theorem dX4_stored_5 : decode cX4_stored 5 = .ok (.getfield 10, 3) := by decide +kernel
theorem dX4_stored_8 : decode cX4_stored 8 = .ok (.getfield 179, 3) := by decide +kernel
theorem dX4_stored_11 : decode cX4_stored 11 = .ok (.iload_n 1, 1) := by decide +kernel
theorem dX4_stored_12 : decode cX4_stored 12 = .ok (.invokevirtual 183, 3) := by decide +kernel
theorem dX4_stored_15 : decode cX4_stored 15 = .ok (.ireturn, 1) := by decide +kernel
theorem dX4_storedReading_0 : decode cX4_storedReading 0 = .ok (.iload_n 1, 1) := by decide +kernel
theorem dX4_storedReading_1 : decode cX4_storedReading 1 = .ok (.invokestatic 63, 3) := by decide +kernel
theorem dX4_storedReading_4 : decode cX4_storedReading 4 = .ok (.iload_n 2, 1) := by decide +kernel
theorem dX4_storedReading_5 : decode cX4_storedReading 5 = .ok (.invokestatic 188, 3) := by decide +kernel
theorem dX4_storedReading_8 : decode cX4_storedReading 8 = .ok (.iload_n 3, 1) := by decide +kernel
theorem dX4_storedReading_9 : decode cX4_storedReading 9 = .ok (.iconst 0, 1) := by decide +kernel
theorem dX4_storedReading_10 : decode cX4_storedReading 10 = .ok (.iconst 4, 1) := by decide +kernel
theorem dX4_storedReading_11 : decode cX4_storedReading 11 = .ok (.invokestatic 66, 3) := by decide +kernel
theorem dX4_storedReading_14 : decode cX4_storedReading 14 = .ok (.aload_n 0, 1) := by decide +kernel
theorem dX4_storedReading_15 : decode cX4_storedReading 15 = .ok (.getfield 10, 3) := by decide +kernel
theorem dX4_storedReading_18 : decode cX4_storedReading 18 = .ok (.getfield 179, 3) := by decide +kernel
theorem dX4_storedReading_21 : decode cX4_storedReading 21 = .ok (.iload_n 1, 1) := by decide +kernel
theorem dX4_storedReading_22 : decode cX4_storedReading 22 = .ok (.iload_n 2, 1) := by decide +kernel
theorem dX4_storedReading_23 : decode cX4_storedReading 23 = .ok (.iload_n 3, 1) := by decide +kernel
theorem dX4_storedReading_24 : decode cX4_storedReading 24 = .ok (.invokevirtual 191, 3) := by decide +kernel
theorem dX4_storedReading_27 : decode cX4_storedReading 27 = .ok (.ireturn, 1) := by decide +kernel
theorem dX4_collected_0 : decode cX4_collected 0 = .ok (.aload_n 0, 1) := by decide +kernel
theorem dX4_collected_1 : decode cX4_collected 1 = .ok (.getfield 10, 3) := by decide +kernel
theorem dX4_collected_4 : decode cX4_collected 4 = .ok (.getfield 179, 3) := by decide +kernel
theorem dX4_collected_7 : decode cX4_collected 7 = .ok (.iconst 0, 1) := by decide +kernel
theorem dX4_collected_8 : decode cX4_collected 8 = .ok (.invokevirtual 183, 3) := by decide +kernel
theorem dX4_collected_11 : decode cX4_collected 11 = .ok (.ireturn, 1) := by decide +kernel
theorem dX4_collectedReading_0 : decode cX4_collectedReading 0 = .ok (.iload_n 1, 1) := by decide +kernel
theorem dX4_collectedReading_1 : decode cX4_collectedReading 1 = .ok (.invokestatic 188, 3) := by decide +kernel
theorem dX4_collectedReading_4 : decode cX4_collectedReading 4 = .ok (.iload_n 2, 1) := by decide +kernel
theorem dX4_collectedReading_5 : decode cX4_collectedReading 5 = .ok (.iconst 0, 1) := by decide +kernel
theorem dX4_collectedReading_6 : decode cX4_collectedReading 6 = .ok (.iconst 4, 1) := by decide +kernel
theorem dX4_collectedReading_7 : decode cX4_collectedReading 7 = .ok (.invokestatic 66, 3) := by decide +kernel
theorem dX4_collectedReading_10 : decode cX4_collectedReading 10 = .ok (.aload_n 0, 1) := by decide +kernel
theorem dX4_collectedReading_11 : decode cX4_collectedReading 11 = .ok (.getfield 10, 3) := by decide +kernel
theorem dX4_collectedReading_14 : decode cX4_collectedReading 14 = .ok (.getfield 179, 3) := by decide +kernel
theorem dX4_collectedReading_17 : decode cX4_collectedReading 17 = .ok (.iconst 0, 1) := by decide +kernel
theorem dX4_collectedReading_18 : decode cX4_collectedReading 18 = .ok (.iload_n 1, 1) := by decide +kernel
theorem dX4_collectedReading_19 : decode cX4_collectedReading 19 = .ok (.iload_n 2, 1) := by decide +kernel
theorem dX4_collectedReading_20 : decode cX4_collectedReading 20 = .ok (.invokevirtual 191, 3) := by decide +kernel
theorem dX4_collectedReading_23 : decode cX4_collectedReading 23 = .ok (.ireturn, 1) := by decide +kernel
theorem dX4_copies_0 : decode cX4_copies 0 = .ok (.iload_n 1, 1) := by decide +kernel
theorem dX4_copies_1 : decode cX4_copies 1 = .ok (.invokestatic 63, 3) := by decide +kernel
theorem dX4_copies_4 : decode cX4_copies 4 = .ok (.aload_n 0, 1) := by decide +kernel
theorem dX4_copies_5 : decode cX4_copies 5 = .ok (.getfield 10, 3) := by decide +kernel
theorem dX4_copies_8 : decode cX4_copies 8 = .ok (.getfield 179, 3) := by decide +kernel
theorem dX4_copies_11 : decode cX4_copies 11 = .ok (.iload_n 1, 1) := by decide +kernel
theorem dX4_copies_12 : decode cX4_copies 12 = .ok (.iload_n 2, 1) := by decide +kernel
theorem dX4_copies_13 : decode cX4_copies 13 = .ok (.invokevirtual 195, 3) := by decide +kernel
theorem dX4_copies_16 : decode cX4_copies 16 = .ok (.istore_n 3, 1) := by decide +kernel
theorem dX4_copies_17 : decode cX4_copies 17 = .ok (.iload_n 3, 1) := by decide +kernel
theorem dX4_copies_18 : decode cX4_copies 18 = .ok (.iconst (-1), 1) := by decide +kernel
theorem dX4_copies_19 : decode cX4_copies 19 = .ok (.if_icmp .ne 7, 3) := by decide +kernel
theorem dX4_copies_22 : decode cX4_copies 22 = .ok (.iconst (-1), 1) := by decide +kernel
theorem dX4_copies_23 : decode cX4_copies 23 = .ok (.goto 14, 3) := by decide +kernel
theorem dX4_copies_26 : decode cX4_copies 26 = .ok (.aload_n 0, 1) := by decide +kernel
theorem dX4_copies_27 : decode cX4_copies 27 = .ok (.getfield 10, 3) := by decide +kernel
theorem dX4_copies_30 : decode cX4_copies 30 = .ok (.getfield 179, 3) := by decide +kernel
theorem dX4_copies_33 : decode cX4_copies 33 = .ok (.iload_n 3, 1) := by decide +kernel
theorem dX4_copies_34 : decode cX4_copies 34 = .ok (.invokevirtual 198, 3) := by decide +kernel
theorem dX4_copies_37 : decode cX4_copies 37 = .ok (.ireturn, 1) := by decide +kernel
theorem dX4_missing_0 : decode cX4_missing 0 = .ok (.aload_n 0, 1) := by decide +kernel
theorem dX4_missing_1 : decode cX4_missing 1 = .ok (.getfield 10, 3) := by decide +kernel
theorem dX4_missing_4 : decode cX4_missing 4 = .ok (.getfield 179, 3) := by decide +kernel
theorem dX4_missing_7 : decode cX4_missing 7 = .ok (.invokevirtual 201, 3) := by decide +kernel
theorem dX4_missing_10 : decode cX4_missing 10 = .ok (.ireturn, 1) := by decide +kernel
theorem dX4_wrongStamps_0 : decode cX4_wrongStamps 0 = .ok (.aload_n 0, 1) := by decide +kernel
theorem dX4_wrongStamps_1 : decode cX4_wrongStamps 1 = .ok (.getfield 10, 3) := by decide +kernel
theorem dX4_wrongStamps_4 : decode cX4_wrongStamps 4 = .ok (.getfield 179, 3) := by decide +kernel
theorem dX4_wrongStamps_7 : decode cX4_wrongStamps 7 = .ok (.invokevirtual 204, 3) := by decide +kernel
theorem dX4_wrongStamps_10 : decode cX4_wrongStamps 10 = .ok (.ireturn, 1) := by decide +kernel
theorem dX4_slotsToCollect_0 : decode cX4_slotsToCollect 0 = .ok (.aload_n 0, 1) := by decide +kernel
theorem dX4_slotsToCollect_1 : decode cX4_slotsToCollect 1 = .ok (.getfield 16, 3) := by decide +kernel
theorem dX4_slotsToCollect_4 : decode cX4_slotsToCollect 4 = .ok (.aload_n 0, 1) := by decide +kernel
theorem dX4_slotsToCollect_5 : decode cX4_slotsToCollect 5 = .ok (.getfield 10, 3) := by decide +kernel
theorem dX4_slotsToCollect_8 : decode cX4_slotsToCollect 8 = .ok (.invokevirtual 151, 3) := by decide +kernel
theorem dX4_slotsToCollect_11 : decode cX4_slotsToCollect 11 = .ok (.iconst 0, 1) := by decide +kernel
theorem dX4_slotsToCollect_12 : decode cX4_slotsToCollect 12 = .ok (.istore_n 1, 1) := by decide +kernel
theorem dX4_slotsToCollect_13 : decode cX4_slotsToCollect 13 = .ok (.iload_n 1, 1) := by decide +kernel
theorem dX4_slotsToCollect_14 : decode cX4_slotsToCollect 14 = .ok (.sipush 400, 3) := by decide +kernel
theorem dX4_slotsToCollect_17 : decode cX4_slotsToCollect 17 = .ok (.if_icmp .gt 33, 3) := by decide +kernel
theorem dX4_slotsToCollect_20 : decode cX4_slotsToCollect 20 = .ok (.aload_n 0, 1) := by decide +kernel
theorem dX4_slotsToCollect_21 : decode cX4_slotsToCollect 21 = .ok (.getfield 16, 3) := by decide +kernel
theorem dX4_slotsToCollect_24 : decode cX4_slotsToCollect 24 = .ok (.getfield 179, 3) := by decide +kernel
theorem dX4_slotsToCollect_27 : decode cX4_slotsToCollect 27 = .ok (.invokevirtual 201, 3) := by decide +kernel
theorem dX4_slotsToCollect_30 : decode cX4_slotsToCollect 30 = .ok (.ifCond .ne 5, 3) := by decide +kernel
theorem dX4_slotsToCollect_33 : decode cX4_slotsToCollect 33 = .ok (.iload_n 1, 1) := by decide +kernel
theorem dX4_slotsToCollect_34 : decode cX4_slotsToCollect 34 = .ok (.ireturn, 1) := by decide +kernel
theorem dX4_slotsToCollect_35 : decode cX4_slotsToCollect 35 = .ok (.aload_n 0, 1) := by decide +kernel
theorem dX4_slotsToCollect_36 : decode cX4_slotsToCollect 36 = .ok (.getfield 16, 3) := by decide +kernel
theorem dX4_slotsToCollect_39 : decode cX4_slotsToCollect 39 = .ok (.iconst 1, 1) := by decide +kernel
theorem dX4_slotsToCollect_40 : decode cX4_slotsToCollect 40 = .ok (.invokevirtual 94, 3) := by decide +kernel
theorem dX4_slotsToCollect_43 : decode cX4_slotsToCollect 43 = .ok (.pop, 1) := by decide +kernel
theorem dX4_slotsToCollect_44 : decode cX4_slotsToCollect 44 = .ok (.iinc 1 1, 3) := by decide +kernel
theorem dX4_slotsToCollect_47 : decode cX4_slotsToCollect 47 = .ok (.goto (-34), 3) := by decide +kernel
theorem dX4_slotsToCollect_50 : decode cX4_slotsToCollect 50 = .ok (.iconst (-1), 1) := by decide +kernel
theorem dX4_slotsToCollect_51 : decode cX4_slotsToCollect 51 = .ok (.ireturn, 1) := by decide +kernel
theorem dX4_ifRun_0 : decode cX4_ifRun 0 = .ok (.iload_n 1, 1) := by decide +kernel
theorem dX4_ifRun_1 : decode cX4_ifRun 1 = .ok (.iconst 1, 1) := by decide +kernel
theorem dX4_ifRun_2 : decode cX4_ifRun 2 = .ok (.bipush 100, 2) := by decide +kernel
theorem dX4_ifRun_4 : decode cX4_ifRun 4 = .ok (.invokestatic 66, 3) := by decide +kernel
theorem dX4_ifRun_7 : decode cX4_ifRun 7 = .ok (.aload_n 0, 1) := by decide +kernel
theorem dX4_ifRun_8 : decode cX4_ifRun 8 = .ok (.getfield 16, 3) := by decide +kernel
theorem dX4_ifRun_11 : decode cX4_ifRun 11 = .ok (.aload_n 0, 1) := by decide +kernel
theorem dX4_ifRun_12 : decode cX4_ifRun 12 = .ok (.getfield 10, 3) := by decide +kernel
theorem dX4_ifRun_15 : decode cX4_ifRun 15 = .ok (.invokevirtual 151, 3) := by decide +kernel
theorem dX4_ifRun_18 : decode cX4_ifRun 18 = .ok (.aload_n 0, 1) := by decide +kernel
theorem dX4_ifRun_19 : decode cX4_ifRun 19 = .ok (.getfield 16, 3) := by decide +kernel
theorem dX4_ifRun_22 : decode cX4_ifRun 22 = .ok (.iload_n 1, 1) := by decide +kernel
theorem dX4_ifRun_23 : decode cX4_ifRun 23 = .ok (.invokevirtual 94, 3) := by decide +kernel
theorem dX4_ifRun_26 : decode cX4_ifRun 26 = .ok (.ireturn, 1) := by decide +kernel
theorem dX4_time_0 : decode cX4_time 0 = .ok (.aload_n 0, 1) := by decide +kernel
theorem dX4_time_1 : decode cX4_time 1 = .ok (.getfield 10, 3) := by decide +kernel
theorem dX4_time_4 : decode cX4_time 4 = .ok (.getfield 170, 3) := by decide +kernel
theorem dX4_time_7 : decode cX4_time 7 = .ok (.ireturn, 1) := by decide +kernel
theorem dX4_count_0 : decode cX4_count 0 = .ok (.iload_n 1, 1) := by decide +kernel
theorem dX4_count_1 : decode cX4_count 1 = .ok (.tableswitch 90 0 5 #[39, 50, 58, 66, 74, 82], 39) := by decide +kernel
theorem dX4_count_40 : decode cX4_count 40 = .ok (.aload_n 0, 1) := by decide +kernel
theorem dX4_count_41 : decode cX4_count 41 = .ok (.getfield 10, 3) := by decide +kernel
theorem dX4_count_44 : decode cX4_count 44 = .ok (.getfield 179, 3) := by decide +kernel
theorem dX4_count_47 : decode cX4_count 47 = .ok (.getfield 207, 3) := by decide +kernel
theorem dX4_count_50 : decode cX4_count 50 = .ok (.ireturn, 1) := by decide +kernel
theorem dX4_count_51 : decode cX4_count 51 = .ok (.aload_n 0, 1) := by decide +kernel
theorem dX4_count_52 : decode cX4_count 52 = .ok (.getfield 10, 3) := by decide +kernel
theorem dX4_count_55 : decode cX4_count 55 = .ok (.getfield 210, 3) := by decide +kernel
theorem dX4_count_58 : decode cX4_count 58 = .ok (.ireturn, 1) := by decide +kernel
theorem dX4_count_59 : decode cX4_count 59 = .ok (.aload_n 0, 1) := by decide +kernel
theorem dX4_count_60 : decode cX4_count 60 = .ok (.getfield 10, 3) := by decide +kernel
theorem dX4_count_63 : decode cX4_count 63 = .ok (.getfield 213, 3) := by decide +kernel
theorem dX4_count_66 : decode cX4_count 66 = .ok (.ireturn, 1) := by decide +kernel
theorem dX4_count_67 : decode cX4_count 67 = .ok (.aload_n 0, 1) := by decide +kernel
theorem dX4_count_68 : decode cX4_count 68 = .ok (.getfield 10, 3) := by decide +kernel
theorem dX4_count_71 : decode cX4_count 71 = .ok (.getfield 216, 3) := by decide +kernel
theorem dX4_count_74 : decode cX4_count 74 = .ok (.ireturn, 1) := by decide +kernel
theorem dX4_count_75 : decode cX4_count 75 = .ok (.aload_n 0, 1) := by decide +kernel
theorem dX4_count_76 : decode cX4_count 76 = .ok (.getfield 10, 3) := by decide +kernel
theorem dX4_count_79 : decode cX4_count 79 = .ok (.getfield 219, 3) := by decide +kernel
theorem dX4_count_82 : decode cX4_count 82 = .ok (.ireturn, 1) := by decide +kernel
theorem dX4_count_83 : decode cX4_count 83 = .ok (.aload_n 0, 1) := by decide +kernel
theorem dX4_count_84 : decode cX4_count 84 = .ok (.getfield 10, 3) := by decide +kernel
theorem dX4_count_87 : decode cX4_count 87 = .ok (.getfield 222, 3) := by decide +kernel
theorem dX4_count_90 : decode cX4_count 90 = .ok (.ireturn, 1) := by decide +kernel
theorem dX4_count_91 : decode cX4_count 91 = .ok (.new 37, 3) := by decide +kernel
theorem dX4_count_94 : decode cX4_count 94 = .ok (.dup, 1) := by decide +kernel
theorem dX4_count_95 : decode cX4_count 95 = .ok (.ldc 225, 2) := by decide +kernel
theorem dX4_count_97 : decode cX4_count 97 = .ok (.invokespecial 41, 3) := by decide +kernel
theorem dX4_count_100 : decode cX4_count 100 = .ok (.athrow, 1) := by decide +kernel
theorem dX4_joined_0 : decode cX4_joined 0 = .ok (.aload_n 0, 1) := by decide +kernel
theorem dX4_joined_1 : decode cX4_joined 1 = .ok (.getfield 10, 3) := by decide +kernel
theorem dX4_joined_4 : decode cX4_joined 4 = .ok (.invokevirtual 227, 3) := by decide +kernel
theorem dX4_joined_7 : decode cX4_joined 7 = .ok (.i2d, 1) := by decide +kernel
theorem dX4_joined_8 : decode cX4_joined 8 = .ok (.ldc2_w 230, 3) := by decide +kernel
theorem dX4_joined_11 : decode cX4_joined 11 = .ok (.ddiv, 1) := by decide +kernel
theorem dX4_joined_12 : decode cX4_joined 12 = .ok (.dreturn, 1) := by decide +kernel
theorem dX4_savedStates_0 : decode cX4_savedStates 0 = .ok (.aload_n 0, 1) := by decide +kernel
theorem dX4_savedStates_1 : decode cX4_savedStates 1 = .ok (.getfield 22, 3) := by decide +kernel
theorem dX4_savedStates_4 : decode cX4_savedStates 4 = .ok (.getfield 157, 3) := by decide +kernel
theorem dX4_savedStates_7 : decode cX4_savedStates 7 = .ok (.ireturn, 1) := by decide +kernel
theorem dX4_isNode_0 : decode cX4_isNode 0 = .ok (.iload_n 0, 1) := by decide +kernel
theorem dX4_isNode_1 : decode cX4_isNode 1 = .ok (.ifCond .lt 13, 3) := by decide +kernel
theorem dX4_isNode_4 : decode cX4_isNode 4 = .ok (.iload_n 0, 1) := by decide +kernel
theorem dX4_isNode_5 : decode cX4_isNode 5 = .ok (.bipush 10, 2) := by decide +kernel
theorem dX4_isNode_7 : decode cX4_isNode 7 = .ok (.if_icmp .ge 7, 3) := by decide +kernel
theorem dX4_isNode_10 : decode cX4_isNode 10 = .ok (.iconst 1, 1) := by decide +kernel
theorem dX4_isNode_11 : decode cX4_isNode 11 = .ok (.goto 4, 3) := by decide +kernel
theorem dX4_isNode_14 : decode cX4_isNode 14 = .ok (.iconst 0, 1) := by decide +kernel
theorem dX4_isNode_15 : decode cX4_isNode 15 = .ok (.ireturn, 1) := by decide +kernel
theorem dX4_checkNode_0 : decode cX4_checkNode 0 = .ok (.iload_n 0, 1) := by decide +kernel
theorem dX4_checkNode_1 : decode cX4_checkNode 1 = .ok (.invokestatic 232, 3) := by decide +kernel
theorem dX4_checkNode_4 : decode cX4_checkNode 4 = .ok (.ifCond .ne 13, 3) := by decide +kernel
theorem dX4_checkNode_7 : decode cX4_checkNode 7 = .ok (.new 235, 3) := by decide +kernel
theorem dX4_checkNode_10 : decode cX4_checkNode 10 = .ok (.dup, 1) := by decide +kernel
theorem dX4_checkNode_11 : decode cX4_checkNode 11 = .ok (.ldc 237, 2) := by decide +kernel
theorem dX4_checkNode_13 : decode cX4_checkNode 13 = .ok (.invokespecial 239, 3) := by decide +kernel
theorem dX4_checkNode_16 : decode cX4_checkNode 16 = .ok (.athrow, 1) := by decide +kernel
theorem dX4_checkNode_17 : decode cX4_checkNode 17 = .ok (.return_, 1) := by decide +kernel
theorem dX4_checkMeter_0 : decode cX4_checkMeter 0 = .ok (.iload_n 0, 1) := by decide +kernel
theorem dX4_checkMeter_1 : decode cX4_checkMeter 1 = .ok (.invokestatic 232, 3) := by decide +kernel
theorem dX4_checkMeter_4 : decode cX4_checkMeter 4 = .ok (.ifCond .eq 7, 3) := by decide +kernel
theorem dX4_checkMeter_7 : decode cX4_checkMeter 7 = .ok (.iload_n 0, 1) := by decide +kernel
theorem dX4_checkMeter_8 : decode cX4_checkMeter 8 = .ok (.ifCond .ne 13, 3) := by decide +kernel
theorem dX4_checkMeter_11 : decode cX4_checkMeter 11 = .ok (.new 235, 3) := by decide +kernel
theorem dX4_checkMeter_14 : decode cX4_checkMeter 14 = .ok (.dup, 1) := by decide +kernel
theorem dX4_checkMeter_15 : decode cX4_checkMeter 15 = .ok (.ldc 240, 2) := by decide +kernel
theorem dX4_checkMeter_17 : decode cX4_checkMeter 17 = .ok (.invokespecial 239, 3) := by decide +kernel
theorem dX4_checkMeter_20 : decode cX4_checkMeter 20 = .ok (.athrow, 1) := by decide +kernel
theorem dX4_checkMeter_21 : decode cX4_checkMeter 21 = .ok (.return_, 1) := by decide +kernel
theorem dX4_checkIndex_0 : decode cX4_checkIndex 0 = .ok (.iload_n 0, 1) := by decide +kernel
theorem dX4_checkIndex_1 : decode cX4_checkIndex 1 = .ok (.ifCond .ge 13, 3) := by decide +kernel
theorem dX4_checkIndex_4 : decode cX4_checkIndex 4 = .ok (.new 235, 3) := by decide +kernel
theorem dX4_checkIndex_7 : decode cX4_checkIndex 7 = .ok (.dup, 1) := by decide +kernel
theorem dX4_checkIndex_8 : decode cX4_checkIndex 8 = .ok (.ldc 242, 2) := by decide +kernel
theorem dX4_checkIndex_10 : decode cX4_checkIndex 10 = .ok (.invokespecial 239, 3) := by decide +kernel
theorem dX4_checkIndex_13 : decode cX4_checkIndex 13 = .ok (.athrow, 1) := by decide +kernel
theorem dX4_checkIndex_14 : decode cX4_checkIndex 14 = .ok (.return_, 1) := by decide +kernel
theorem dX4_checkRange_0 : decode cX4_checkRange 0 = .ok (.iload_n 0, 1) := by decide +kernel
theorem dX4_checkRange_1 : decode cX4_checkRange 1 = .ok (.iload_n 1, 1) := by decide +kernel
theorem dX4_checkRange_2 : decode cX4_checkRange 2 = .ok (.if_icmp .lt 8, 3) := by decide +kernel
theorem dX4_checkRange_5 : decode cX4_checkRange 5 = .ok (.iload_n 0, 1) := by decide +kernel
theorem dX4_checkRange_6 : decode cX4_checkRange 6 = .ok (.iload_n 2, 1) := by decide +kernel
theorem dX4_checkRange_7 : decode cX4_checkRange 7 = .ok (.if_icmp .le 13, 3) := by decide +kernel
theorem dX4_checkRange_10 : decode cX4_checkRange 10 = .ok (.new 37, 3) := by decide +kernel
theorem dX4_checkRange_13 : decode cX4_checkRange 13 = .ok (.dup, 1) := by decide +kernel
theorem dX4_checkRange_14 : decode cX4_checkRange 14 = .ok (.ldc 244, 2) := by decide +kernel
theorem dX4_checkRange_16 : decode cX4_checkRange 16 = .ok (.invokespecial 41, 3) := by decide +kernel
theorem dX4_checkRange_19 : decode cX4_checkRange 19 = .ok (.athrow, 1) := by decide +kernel
theorem dX4_checkRange_20 : decode cX4_checkRange 20 = .ok (.return_, 1) := by decide +kernel
theorem dX4_copyRow_0 : decode cX4_copyRow 0 = .ok (.aload_n 0, 1) := by decide +kernel
theorem dX4_copyRow_1 : decode cX4_copyRow 1 = .ok (.iconst 0, 1) := by decide +kernel
theorem dX4_copyRow_2 : decode cX4_copyRow 2 = .ok (.aload_n 1, 1) := by decide +kernel
theorem dX4_copyRow_3 : decode cX4_copyRow 3 = .ok (.iconst 0, 1) := by decide +kernel
theorem dX4_copyRow_4 : decode cX4_copyRow 4 = .ok (.aload_n 0, 1) := by decide +kernel
theorem dX4_copyRow_5 : decode cX4_copyRow 5 = .ok (.arraylength, 1) := by decide +kernel
theorem dX4_copyRow_6 : decode cX4_copyRow 6 = .ok (.aload_n 1, 1) := by decide +kernel
theorem dX4_copyRow_7 : decode cX4_copyRow 7 = .ok (.arraylength, 1) := by decide +kernel
theorem dX4_copyRow_8 : decode cX4_copyRow 8 = .ok (.invokestatic 246, 3) := by decide +kernel
theorem dX4_copyRow_11 : decode cX4_copyRow 11 = .ok (.invokestatic 251, 3) := by decide +kernel
theorem dX4_copyRow_14 : decode cX4_copyRow 14 = .ok (.return_, 1) := by decide +kernel
theorem dX4_copyRow__0 : decode cX4_copyRow_ 0 = .ok (.aload_n 0, 1) := by decide +kernel
theorem dX4_copyRow__1 : decode cX4_copyRow_ 1 = .ok (.iconst 0, 1) := by decide +kernel
theorem dX4_copyRow__2 : decode cX4_copyRow_ 2 = .ok (.aload_n 1, 1) := by decide +kernel
theorem dX4_copyRow__3 : decode cX4_copyRow_ 3 = .ok (.iconst 0, 1) := by decide +kernel
theorem dX4_copyRow__4 : decode cX4_copyRow_ 4 = .ok (.aload_n 0, 1) := by decide +kernel
theorem dX4_copyRow__5 : decode cX4_copyRow_ 5 = .ok (.arraylength, 1) := by decide +kernel
theorem dX4_copyRow__6 : decode cX4_copyRow_ 6 = .ok (.aload_n 1, 1) := by decide +kernel
theorem dX4_copyRow__7 : decode cX4_copyRow_ 7 = .ok (.arraylength, 1) := by decide +kernel
theorem dX4_copyRow__8 : decode cX4_copyRow_ 8 = .ok (.invokestatic 246, 3) := by decide +kernel
theorem dX4_copyRow__11 : decode cX4_copyRow_ 11 = .ok (.invokestatic 251, 3) := by decide +kernel
theorem dX4_copyRow__14 : decode cX4_copyRow_ 14 = .ok (.return_, 1) := by decide +kernel
