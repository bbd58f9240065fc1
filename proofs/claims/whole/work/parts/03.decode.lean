theorem dX0_init_0 : decode cX0_init 0 = .ok (.aload_n 0, 1) := by decide +kernel
theorem dX0_init_1 : decode cX0_init 1 = .ok (.invokespecial 1, 3) := by decide +kernel
theorem dX0_init_4 : decode cX0_init 4 = .ok (.aload_n 0, 1) := by decide +kernel
theorem dX0_init_5 : decode cX0_init 5 = .ok (.aload_n 1, 1) := by decide +kernel
theorem dX0_init_6 : decode cX0_init 6 = .ok (.putfield 7, 3) := by decide +kernel
theorem dX0_init_9 : decode cX0_init 9 = .ok (.aload_n 0, 1) := by decide +kernel
theorem dX0_init_10 : decode cX0_init 10 = .ok (.aload_n 2, 1) := by decide +kernel
theorem dX0_init_11 : decode cX0_init 11 = .ok (.putfield 13, 3) := by decide +kernel
theorem dX0_init_14 : decode cX0_init 14 = .ok (.aload_n 0, 1) := by decide +kernel
theorem dX0_init_15 : decode cX0_init 15 = .ok (.aload_n 3, 1) := by decide +kernel
theorem dX0_init_16 : decode cX0_init 16 = .ok (.putfield 17, 3) := by decide +kernel
theorem dX0_init_19 : decode cX0_init 19 = .ok (.return_, 1) := by decide +kernel
theorem dX1_init_0 : decode cX1_init 0 = .ok (.aload_n 0, 1) := by decide +kernel
theorem dX1_init_1 : decode cX1_init 1 = .ok (.invokespecial 1, 3) := by decide +kernel
theorem dX1_init_4 : decode cX1_init 4 = .ok (.aload_n 0, 1) := by decide +kernel
theorem dX1_init_5 : decode cX1_init 5 = .ok (.new 7, 3) := by decide +kernel
theorem dX1_init_8 : decode cX1_init 8 = .ok (.dup, 1) := by decide +kernel
theorem dX1_init_9 : decode cX1_init 9 = .ok (.invokespecial 9, 3) := by decide +kernel
theorem dX1_init_12 : decode cX1_init 12 = .ok (.putfield 10, 3) := by decide +kernel
theorem dX1_init_15 : decode cX1_init 15 = .ok (.return_, 1) := by decide +kernel
theorem dX1_take_0 : decode cX1_take 0 = .ok (.iconst 0, 1) := by decide +kernel
theorem dX1_take_1 : decode cX1_take 1 = .ok (.istore_n 2, 1) := by decide +kernel
theorem dX1_take_2 : decode cX1_take 2 = .ok (.iload_n 2, 1) := by decide +kernel
theorem dX1_take_3 : decode cX1_take 3 = .ok (.aload_n 0, 1) := by decide +kernel
theorem dX1_take_4 : decode cX1_take 4 = .ok (.getfield 10, 3) := by decide +kernel
theorem dX1_take_7 : decode cX1_take 7 = .ok (.invokevirtual 16, 3) := by decide +kernel
theorem dX1_take_10 : decode cX1_take 10 = .ok (.if_icmp .ge 36, 3) := by decide +kernel
theorem dX1_take_13 : decode cX1_take 13 = .ok (.aload_n 0, 1) := by decide +kernel
theorem dX1_take_14 : decode cX1_take 14 = .ok (.getfield 10, 3) := by decide +kernel
theorem dX1_take_17 : decode cX1_take 17 = .ok (.iload_n 2, 1) := by decide +kernel
theorem dX1_take_18 : decode cX1_take 18 = .ok (.invokevirtual 20, 3) := by decide +kernel
theorem dX1_take_21 : decode cX1_take 21 = .ok (.checkcast 24, 3) := by decide +kernel
theorem dX1_take_24 : decode cX1_take 24 = .ok (.getfield 26, 3) := by decide +kernel
theorem dX1_take_27 : decode cX1_take 27 = .ok (.getfield 30, 3) := by decide +kernel
theorem dX1_take_30 : decode cX1_take 30 = .ok (.aload_n 1, 1) := by decide +kernel
theorem dX1_take_31 : decode cX1_take 31 = .ok (.getfield 26, 3) := by decide +kernel
theorem dX1_take_34 : decode cX1_take 34 = .ok (.getfield 30, 3) := by decide +kernel
theorem dX1_take_37 : decode cX1_take 37 = .ok (.if_icmp .ge 9, 3) := by decide +kernel
theorem dX1_take_40 : decode cX1_take 40 = .ok (.iinc 2 1, 3) := by decide +kernel
theorem dX1_take_43 : decode cX1_take 43 = .ok (.goto (-41), 3) := by decide +kernel
theorem dX1_take_46 : decode cX1_take 46 = .ok (.aload_n 0, 1) := by decide +kernel
theorem dX1_take_47 : decode cX1_take 47 = .ok (.getfield 10, 3) := by decide +kernel
theorem dX1_take_50 : decode cX1_take 50 = .ok (.iload_n 2, 1) := by decide +kernel
theorem dX1_take_51 : decode cX1_take 51 = .ok (.aload_n 1, 1) := by decide +kernel
theorem dX1_take_52 : decode cX1_take 52 = .ok (.invokevirtual 36, 3) := by decide +kernel
theorem dX1_take_55 : decode cX1_take 55 = .ok (.return_, 1) := by decide +kernel
theorem dX1_drop_0 : decode cX1_drop 0 = .ok (.iconst 0, 1) := by decide +kernel
theorem dX1_drop_1 : decode cX1_drop 1 = .ok (.istore_n 2, 1) := by decide +kernel
theorem dX1_drop_2 : decode cX1_drop 2 = .ok (.iload_n 2, 1) := by decide +kernel
theorem dX1_drop_3 : decode cX1_drop 3 = .ok (.aload_n 0, 1) := by decide +kernel
theorem dX1_drop_4 : decode cX1_drop 4 = .ok (.getfield 10, 3) := by decide +kernel
theorem dX1_drop_7 : decode cX1_drop 7 = .ok (.invokevirtual 16, 3) := by decide +kernel
theorem dX1_drop_10 : decode cX1_drop 10 = .ok (.if_icmp .ge 31, 3) := by decide +kernel
theorem dX1_drop_13 : decode cX1_drop 13 = .ok (.aload_n 0, 1) := by decide +kernel
theorem dX1_drop_14 : decode cX1_drop 14 = .ok (.getfield 10, 3) := by decide +kernel
theorem dX1_drop_17 : decode cX1_drop 17 = .ok (.iload_n 2, 1) := by decide +kernel
theorem dX1_drop_18 : decode cX1_drop 18 = .ok (.invokevirtual 20, 3) := by decide +kernel
theorem dX1_drop_21 : decode cX1_drop 21 = .ok (.aload_n 1, 1) := by decide +kernel
theorem dX1_drop_22 : decode cX1_drop 22 = .ok (.if_acmp .ne 13, 3) := by decide +kernel
theorem dX1_drop_25 : decode cX1_drop 25 = .ok (.aload_n 0, 1) := by decide +kernel
theorem dX1_drop_26 : decode cX1_drop 26 = .ok (.getfield 10, 3) := by decide +kernel
theorem dX1_drop_29 : decode cX1_drop 29 = .ok (.iload_n 2, 1) := by decide +kernel
theorem dX1_drop_30 : decode cX1_drop 30 = .ok (.invokevirtual 40, 3) := by decide +kernel
theorem dX1_drop_33 : decode cX1_drop 33 = .ok (.pop, 1) := by decide +kernel
theorem dX1_drop_34 : decode cX1_drop 34 = .ok (.return_, 1) := by decide +kernel
theorem dX1_drop_35 : decode cX1_drop 35 = .ok (.iinc 2 1, 3) := by decide +kernel
theorem dX1_drop_38 : decode cX1_drop 38 = .ok (.goto (-36), 3) := by decide +kernel
theorem dX1_drop_41 : decode cX1_drop 41 = .ok (.return_, 1) := by decide +kernel
theorem dX2_init_0 : decode cX2_init 0 = .ok (.aload_n 0, 1) := by decide +kernel
theorem dX2_init_1 : decode cX2_init 1 = .ok (.invokespecial 3, 3) := by decide +kernel
theorem dX2_init_4 : decode cX2_init 4 = .ok (.aload_n 0, 1) := by decide +kernel
theorem dX2_init_5 : decode cX2_init 5 = .ok (.iload_n 1, 1) := by decide +kernel
theorem dX2_init_6 : decode cX2_init 6 = .ok (.putfield 9, 3) := by decide +kernel
theorem dX2_init_9 : decode cX2_init 9 = .ok (.aload_n 0, 1) := by decide +kernel
theorem dX2_init_10 : decode cX2_init 10 = .ok (.iload_n 2, 1) := by decide +kernel
theorem dX2_init_11 : decode cX2_init 11 = .ok (.putfield 15, 3) := by decide +kernel
theorem dX2_init_14 : decode cX2_init 14 = .ok (.aload_n 0, 1) := by decide +kernel
theorem dX2_init_15 : decode cX2_init 15 = .ok (.iload_n 3, 1) := by decide +kernel
theorem dX2_init_16 : decode cX2_init 16 = .ok (.putfield 18, 3) := by decide +kernel
theorem dX2_init_19 : decode cX2_init 19 = .ok (.aload_n 0, 1) := by decide +kernel
theorem dX2_init_20 : decode cX2_init 20 = .ok (.new 21, 3) := by decide +kernel
theorem dX2_init_23 : decode cX2_init 23 = .ok (.dup, 1) := by decide +kernel
theorem dX2_init_24 : decode cX2_init 24 = .ok (.invokespecial 23, 3) := by decide +kernel
theorem dX2_init_27 : decode cX2_init 27 = .ok (.putfield 24, 3) := by decide +kernel
theorem dX2_init_30 : decode cX2_init 30 = .ok (.return_, 1) := by decide +kernel
theorem dX2_expectedPeople_0 : decode cX2_expectedPeople 0 = .ok (.aload_n 0, 1) := by decide +kernel
theorem dX2_expectedPeople_1 : decode cX2_expectedPeople 1 = .ok (.getfield 15, 3) := by decide +kernel
theorem dX2_expectedPeople_4 : decode cX2_expectedPeople 4 = .ok (.invokestatic 28, 3) := by decide +kernel
theorem dX2_expectedPeople_7 : decode cX2_expectedPeople 7 = .ok (.aload_n 0, 1) := by decide +kernel
theorem dX2_expectedPeople_8 : decode cX2_expectedPeople 8 = .ok (.getfield 18, 3) := by decide +kernel
theorem dX2_expectedPeople_11 : decode cX2_expectedPeople 11 = .ok (.aload_n 0, 1) := by decide +kernel
theorem dX2_expectedPeople_12 : decode cX2_expectedPeople 12 = .ok (.getfield 32, 3) := by decide +kernel
theorem dX2_expectedPeople_15 : decode cX2_expectedPeople 15 = .ok (.iconst (-1), 1) := by decide +kernel
theorem dX2_expectedPeople_16 : decode cX2_expectedPeople 16 = .ok (.ixor, 1) := by decide +kernel
theorem dX2_expectedPeople_17 : decode cX2_expectedPeople 17 = .ok (.iand, 1) := by decide +kernel
theorem dX2_expectedPeople_18 : decode cX2_expectedPeople 18 = .ok (.ior, 1) := by decide +kernel
theorem dX2_expectedPeople_19 : decode cX2_expectedPeople 19 = .ok (.ireturn, 1) := by decide +kernel
theorem dX2_expectedCount_0 : decode cX2_expectedCount 0 = .ok (.aload_n 0, 1) := by decide +kernel
theorem dX2_expectedCount_1 : decode cX2_expectedCount 1 = .ok (.invokevirtual 35, 3) := by decide +kernel
theorem dX2_expectedCount_4 : decode cX2_expectedCount 4 = .ok (.invokestatic 39, 3) := by decide +kernel
theorem dX2_expectedCount_7 : decode cX2_expectedCount 7 = .ok (.ireturn, 1) := by decide +kernel
theorem dX2_expects_0 : decode cX2_expects 0 = .ok (.aload_n 0, 1) := by decide +kernel
theorem dX2_expects_1 : decode cX2_expects 1 = .ok (.invokevirtual 35, 3) := by decide +kernel
theorem dX2_expects_4 : decode cX2_expects 4 = .ok (.iload_n 1, 1) := by decide +kernel
theorem dX2_expects_5 : decode cX2_expects 5 = .ok (.invokestatic 44, 3) := by decide +kernel
theorem dX2_expects_8 : decode cX2_expects 8 = .ok (.ireturn, 1) := by decide +kernel
theorem dX2_answerFrom_0 : decode cX2_answerFrom 0 = .ok (.iload_n 1, 1) := by decide +kernel
theorem dX2_answerFrom_1 : decode cX2_answerFrom 1 = .ok (.aload_n 0, 1) := by decide +kernel
theorem dX2_answerFrom_2 : decode cX2_answerFrom 2 = .ok (.getfield 15, 3) := by decide +kernel
theorem dX2_answerFrom_5 : decode cX2_answerFrom 5 = .ok (.if_icmp .ne 6, 3) := by decide +kernel
theorem dX2_answerFrom_8 : decode cX2_answerFrom 8 = .ok (.bipush 104, 2) := by decide +kernel
theorem dX2_answerFrom_10 : decode cX2_answerFrom 10 = .ok (.ireturn, 1) := by decide +kernel
theorem dX2_answerFrom_11 : decode cX2_answerFrom 11 = .ok (.aload_n 0, 1) := by decide +kernel
theorem dX2_answerFrom_12 : decode cX2_answerFrom 12 = .ok (.getfield 18, 3) := by decide +kernel
theorem dX2_answerFrom_15 : decode cX2_answerFrom 15 = .ok (.iload_n 1, 1) := by decide +kernel
theorem dX2_answerFrom_16 : decode cX2_answerFrom 16 = .ok (.invokestatic 44, 3) := by decide +kernel
theorem dX2_answerFrom_19 : decode cX2_answerFrom 19 = .ok (.ifCond .ne 6, 3) := by decide +kernel
theorem dX2_answerFrom_22 : decode cX2_answerFrom 22 = .ok (.bipush 45, 2) := by decide +kernel
theorem dX2_answerFrom_24 : decode cX2_answerFrom 24 = .ok (.ireturn, 1) := by decide +kernel
theorem dX2_answerFrom_25 : decode cX2_answerFrom 25 = .ok (.aload_n 0, 1) := by decide +kernel
theorem dX2_answerFrom_26 : decode cX2_answerFrom 26 = .ok (.getfield 48, 3) := by decide +kernel
theorem dX2_answerFrom_29 : decode cX2_answerFrom 29 = .ok (.iload_n 1, 1) := by decide +kernel
theorem dX2_answerFrom_30 : decode cX2_answerFrom 30 = .ok (.invokestatic 44, 3) := by decide +kernel
theorem dX2_answerFrom_33 : decode cX2_answerFrom 33 = .ok (.ifCond .eq 6, 3) := by decide +kernel
theorem dX2_answerFrom_36 : decode cX2_answerFrom 36 = .ok (.bipush 121, 2) := by decide +kernel
theorem dX2_answerFrom_38 : decode cX2_answerFrom 38 = .ok (.ireturn, 1) := by decide +kernel
theorem dX2_answerFrom_39 : decode cX2_answerFrom 39 = .ok (.aload_n 0, 1) := by decide +kernel
theorem dX2_answerFrom_40 : decode cX2_answerFrom 40 = .ok (.getfield 32, 3) := by decide +kernel
theorem dX2_answerFrom_43 : decode cX2_answerFrom 43 = .ok (.iload_n 1, 1) := by decide +kernel
theorem dX2_answerFrom_44 : decode cX2_answerFrom 44 = .ok (.invokestatic 44, 3) := by decide +kernel
theorem dX2_answerFrom_47 : decode cX2_answerFrom 47 = .ok (.ifCond .eq 8, 3) := by decide +kernel
theorem dX2_answerFrom_50 : decode cX2_answerFrom 50 = .ok (.bipush 110, 2) := by decide +kernel
theorem dX2_answerFrom_52 : decode cX2_answerFrom 52 = .ok (.goto 5, 3) := by decide +kernel
theorem dX2_answerFrom_55 : decode cX2_answerFrom 55 = .ok (.bipush 111, 2) := by decide +kernel
theorem dX2_answerFrom_57 : decode cX2_answerFrom 57 = .ok (.ireturn, 1) := by decide +kernel
theorem dX2_note_0 : decode cX2_note 0 = .ok (.iload_n 1, 1) := by decide +kernel
theorem dX2_note_1 : decode cX2_note 1 = .ok (.invokestatic 28, 3) := by decide +kernel
theorem dX2_note_4 : decode cX2_note 4 = .ok (.istore_n 3, 1) := by decide +kernel
theorem dX2_note_5 : decode cX2_note 5 = .ok (.aload_n 0, 1) := by decide +kernel
theorem dX2_note_6 : decode cX2_note 6 = .ok (.iload_n 2, 1) := by decide +kernel
theorem dX2_note_7 : decode cX2_note 7 = .ok (.bipush 121, 2) := by decide +kernel
theorem dX2_note_9 : decode cX2_note 9 = .ok (.if_icmp .ne 12, 3) := by decide +kernel
theorem dX2_note_12 : decode cX2_note 12 = .ok (.aload_n 0, 1) := by decide +kernel
theorem dX2_note_13 : decode cX2_note 13 = .ok (.getfield 48, 3) := by decide +kernel
theorem dX2_note_16 : decode cX2_note 16 = .ok (.iload_n 3, 1) := by decide +kernel
theorem dX2_note_17 : decode cX2_note 17 = .ok (.ior, 1) := by decide +kernel
theorem dX2_note_18 : decode cX2_note 18 = .ok (.goto 11, 3) := by decide +kernel
theorem dX2_note_21 : decode cX2_note 21 = .ok (.aload_n 0, 1) := by decide +kernel
theorem dX2_note_22 : decode cX2_note 22 = .ok (.getfield 48, 3) := by decide +kernel
theorem dX2_note_25 : decode cX2_note 25 = .ok (.iload_n 3, 1) := by decide +kernel
theorem dX2_note_26 : decode cX2_note 26 = .ok (.iconst (-1), 1) := by decide +kernel
theorem dX2_note_27 : decode cX2_note 27 = .ok (.ixor, 1) := by decide +kernel
theorem dX2_note_28 : decode cX2_note 28 = .ok (.iand, 1) := by decide +kernel
theorem dX2_note_29 : decode cX2_note 29 = .ok (.putfield 48, 3) := by decide +kernel
theorem dX2_note_32 : decode cX2_note 32 = .ok (.aload_n 0, 1) := by decide +kernel
theorem dX2_note_33 : decode cX2_note 33 = .ok (.iload_n 2, 1) := by decide +kernel
theorem dX2_note_34 : decode cX2_note 34 = .ok (.bipush 110, 2) := by decide +kernel
theorem dX2_note_36 : decode cX2_note 36 = .ok (.if_icmp .ne 12, 3) := by decide +kernel
theorem dX2_note_39 : decode cX2_note 39 = .ok (.aload_n 0, 1) := by decide +kernel
theorem dX2_note_40 : decode cX2_note 40 = .ok (.getfield 32, 3) := by decide +kernel
theorem dX2_note_43 : decode cX2_note 43 = .ok (.iload_n 3, 1) := by decide +kernel
theorem dX2_note_44 : decode cX2_note 44 = .ok (.ior, 1) := by decide +kernel
theorem dX2_note_45 : decode cX2_note 45 = .ok (.goto 11, 3) := by decide +kernel
theorem dX2_note_48 : decode cX2_note 48 = .ok (.aload_n 0, 1) := by decide +kernel
theorem dX2_note_49 : decode cX2_note 49 = .ok (.getfield 32, 3) := by decide +kernel
theorem dX2_note_52 : decode cX2_note 52 = .ok (.iload_n 3, 1) := by decide +kernel
theorem dX2_note_53 : decode cX2_note 53 = .ok (.iconst (-1), 1) := by decide +kernel
theorem dX2_note_54 : decode cX2_note 54 = .ok (.ixor, 1) := by decide +kernel
theorem dX2_note_55 : decode cX2_note 55 = .ok (.iand, 1) := by decide +kernel
theorem dX2_note_56 : decode cX2_note 56 = .ok (.putfield 32, 3) := by decide +kernel
theorem dX2_note_59 : decode cX2_note 59 = .ok (.return_, 1) := by decide +kernel
theorem dX2_standingDates_0 : decode cX2_standingDates 0 = .ok (.iconst 0, 1) := by decide +kernel
theorem dX2_standingDates_1 : decode cX2_standingDates 1 = .ok (.istore_n 1, 1) := by decide +kernel
theorem dX2_standingDates_2 : decode cX2_standingDates 2 = .ok (.iconst 0, 1) := by decide +kernel
theorem dX2_standingDates_3 : decode cX2_standingDates 3 = .ok (.istore_n 2, 1) := by decide +kernel
theorem dX2_standingDates_4 : decode cX2_standingDates 4 = .ok (.iload_n 2, 1) := by decide +kernel
theorem dX2_standingDates_5 : decode cX2_standingDates 5 = .ok (.aload_n 0, 1) := by decide +kernel
theorem dX2_standingDates_6 : decode cX2_standingDates 6 = .ok (.getfield 24, 3) := by decide +kernel
theorem dX2_standingDates_9 : decode cX2_standingDates 9 = .ok (.invokevirtual 51, 3) := by decide +kernel
theorem dX2_standingDates_12 : decode cX2_standingDates 12 = .ok (.if_icmp .ge 29, 3) := by decide +kernel
theorem dX2_standingDates_15 : decode cX2_standingDates 15 = .ok (.aload_n 0, 1) := by decide +kernel
theorem dX2_standingDates_16 : decode cX2_standingDates 16 = .ok (.getfield 24, 3) := by decide +kernel
theorem dX2_standingDates_19 : decode cX2_standingDates 19 = .ok (.iload_n 2, 1) := by decide +kernel
theorem dX2_standingDates_20 : decode cX2_standingDates 20 = .ok (.invokevirtual 54, 3) := by decide +kernel
theorem dX2_standingDates_23 : decode cX2_standingDates 23 = .ok (.checkcast 58, 3) := by decide +kernel
theorem dX2_standingDates_26 : decode cX2_standingDates 26 = .ok (.getfield 60, 3) := by decide +kernel
theorem dX2_standingDates_29 : decode cX2_standingDates 29 = .ok (.ifCond .ne 6, 3) := by decide +kernel
theorem dX2_standingDates_32 : decode cX2_standingDates 32 = .ok (.iinc 1 1, 3) := by decide +kernel
theorem dX2_standingDates_35 : decode cX2_standingDates 35 = .ok (.iinc 2 1, 3) := by decide +kernel
theorem dX2_standingDates_38 : decode cX2_standingDates 38 = .ok (.goto (-34), 3) := by decide +kernel
theorem dX2_standingDates_41 : decode cX2_standingDates 41 = .ok (.iload_n 1, 1) := by decide +kernel
theorem dX2_standingDates_42 : decode cX2_standingDates 42 = .ok (.ireturn, 1) := by decide +kernel
theorem dX2_standingTimes_0 : decode cX2_standingTimes 0 = .ok (.iconst 0, 1) := by decide +kernel
theorem dX2_standingTimes_1 : decode cX2_standingTimes 1 = .ok (.istore_n 1, 1) := by decide +kernel
theorem dX2_standingTimes_2 : decode cX2_standingTimes 2 = .ok (.iconst 0, 1) := by decide +kernel
theorem dX2_standingTimes_3 : decode cX2_standingTimes 3 = .ok (.istore_n 2, 1) := by decide +kernel
theorem dX2_standingTimes_4 : decode cX2_standingTimes 4 = .ok (.iload_n 2, 1) := by decide +kernel
theorem dX2_standingTimes_5 : decode cX2_standingTimes 5 = .ok (.aload_n 0, 1) := by decide +kernel
theorem dX2_standingTimes_6 : decode cX2_standingTimes 6 = .ok (.getfield 24, 3) := by decide +kernel
theorem dX2_standingTimes_9 : decode cX2_standingTimes 9 = .ok (.invokevirtual 51, 3) := by decide +kernel
theorem dX2_standingTimes_12 : decode cX2_standingTimes 12 = .ok (.if_icmp .ge 38, 3) := by decide +kernel
theorem dX2_standingTimes_15 : decode cX2_standingTimes 15 = .ok (.aload_n 0, 1) := by decide +kernel
theorem dX2_standingTimes_16 : decode cX2_standingTimes 16 = .ok (.getfield 24, 3) := by decide +kernel
theorem dX2_standingTimes_19 : decode cX2_standingTimes 19 = .ok (.iload_n 2, 1) := by decide +kernel
theorem dX2_standingTimes_20 : decode cX2_standingTimes 20 = .ok (.invokevirtual 54, 3) := by decide +kernel
theorem dX2_standingTimes_23 : decode cX2_standingTimes 23 = .ok (.checkcast 58, 3) := by decide +kernel
theorem dX2_standingTimes_26 : decode cX2_standingTimes 26 = .ok (.astore_n 3, 1) := by decide +kernel
theorem dX2_standingTimes_27 : decode cX2_standingTimes 27 = .ok (.aload_n 3, 1) := by decide +kernel
theorem dX2_standingTimes_28 : decode cX2_standingTimes 28 = .ok (.getfield 60, 3) := by decide +kernel
theorem dX2_standingTimes_31 : decode cX2_standingTimes 31 = .ok (.ifCond .ne 13, 3) := by decide +kernel
theorem dX2_standingTimes_34 : decode cX2_standingTimes 34 = .ok (.iload_n 1, 1) := by decide +kernel
theorem dX2_standingTimes_35 : decode cX2_standingTimes 35 = .ok (.aload_n 3, 1) := by decide +kernel
theorem dX2_standingTimes_36 : decode cX2_standingTimes 36 = .ok (.getfield 64, 3) := by decide +kernel
theorem dX2_standingTimes_39 : decode cX2_standingTimes 39 = .ok (.getfield 68, 3) := by decide +kernel
theorem dX2_standingTimes_42 : decode cX2_standingTimes 42 = .ok (.iadd, 1) := by decide +kernel
theorem dX2_standingTimes_43 : decode cX2_standingTimes 43 = .ok (.istore_n 1, 1) := by decide +kernel
theorem dX2_standingTimes_44 : decode cX2_standingTimes 44 = .ok (.iinc 2 1, 3) := by decide +kernel
theorem dX2_standingTimes_47 : decode cX2_standingTimes 47 = .ok (.goto (-43), 3) := by decide +kernel
theorem dX2_standingTimes_50 : decode cX2_standingTimes 50 = .ok (.iload_n 1, 1) := by decide +kernel
theorem dX2_standingTimes_51 : decode cX2_standingTimes 51 = .ok (.ireturn, 1) := by decide +kernel
theorem dX3_init_0 : decode cX3_init 0 = .ok (.aload_n 0, 1) := by decide +kernel
theorem dX3_init_1 : decode cX3_init 1 = .ok (.invokespecial 1, 3) := by decide +kernel
theorem dX3_init_4 : decode cX3_init 4 = .ok (.aload_n 0, 1) := by decide +kernel
theorem dX3_init_5 : decode cX3_init 5 = .ok (.iload_n 1, 1) := by decide +kernel
theorem dX3_init_6 : decode cX3_init 6 = .ok (.putfield 7, 3) := by decide +kernel
theorem dX3_init_9 : decode cX3_init 9 = .ok (.aload_n 0, 1) := by decide +kernel
theorem dX3_init_10 : decode cX3_init 10 = .ok (.iload_n 2, 1) := by decide +kernel
theorem dX3_init_11 : decode cX3_init 11 = .ok (.putfield 13, 3) := by decide +kernel
theorem dX3_init_14 : decode cX3_init 14 = .ok (.aload_n 0, 1) := by decide +kernel
theorem dX3_init_15 : decode cX3_init 15 = .ok (.iload_n 3, 1) := by decide +kernel
theorem dX3_init_16 : decode cX3_init 16 = .ok (.putfield 16, 3) := by decide +kernel
theorem dX3_init_19 : decode cX3_init 19 = .ok (.return_, 1) := by decide +kernel
theorem dX4_init_0 : decode cX4_init 0 = .ok (.aload_n 0, 1) := by decide +kernel
theorem dX4_init_1 : decode cX4_init 1 = .ok (.invokespecial 1, 3) := by decide +kernel
theorem dX4_init_4 : decode cX4_init 4 = .ok (.aload_n 0, 1) := by decide +kernel
theorem dX4_init_5 : decode cX4_init 5 = .ok (.iload_n 1, 1) := by decide +kernel
theorem dX4_init_6 : decode cX4_init 6 = .ok (.putfield 7, 3) := by decide +kernel
theorem dX4_init_9 : decode cX4_init 9 = .ok (.aload_n 0, 1) := by decide +kernel
theorem dX4_init_10 : decode cX4_init 10 = .ok (.iload_n 2, 1) := by decide +kernel
theorem dX4_init_11 : decode cX4_init 11 = .ok (.putfield 13, 3) := by decide +kernel
theorem dX4_init_14 : decode cX4_init 14 = .ok (.aload_n 0, 1) := by decide +kernel
theorem dX4_init_15 : decode cX4_init 15 = .ok (.iload_n 3, 1) := by decide +kernel
theorem dX4_init_16 : decode cX4_init 16 = .ok (.putfield 16, 3) := by decide +kernel
theorem dX4_init_19 : decode cX4_init 19 = .ok (.return_, 1) := by decide +kernel
theorem dX4_end_0 : decode cX4_end 0 = .ok (.aload_n 0, 1) := by decide +kernel
theorem dX4_end_1 : decode cX4_end 1 = .ok (.getfield 13, 3) := by decide +kernel
theorem dX4_end_4 : decode cX4_end 4 = .ok (.aload_n 0, 1) := by decide +kernel
theorem dX4_end_5 : decode cX4_end 5 = .ok (.getfield 16, 3) := by decide +kernel
theorem dX4_end_8 : decode cX4_end 8 = .ok (.iadd, 1) := by decide +kernel
theorem dX4_end_9 : decode cX4_end 9 = .ok (.ireturn, 1) := by decide +kernel
theorem dX4_holds_0 : decode cX4_holds 0 = .ok (.aload_n 0, 1) := by decide +kernel
theorem dX4_holds_1 : decode cX4_holds 1 = .ok (.getfield 13, 3) := by decide +kernel
theorem dX4_holds_4 : decode cX4_holds 4 = .ok (.iload_n 1, 1) := by decide +kernel
theorem dX4_holds_5 : decode cX4_holds 5 = .ok (.if_icmp .gt 15, 3) := by decide +kernel
theorem dX4_holds_8 : decode cX4_holds 8 = .ok (.iload_n 1, 1) := by decide +kernel
theorem dX4_holds_9 : decode cX4_holds 9 = .ok (.aload_n 0, 1) := by decide +kernel
theorem dX4_holds_10 : decode cX4_holds 10 = .ok (.invokevirtual 19, 3) := by decide +kernel
theorem dX4_holds_13 : decode cX4_holds 13 = .ok (.if_icmp .ge 7, 3) := by decide +kernel
theorem dX4_holds_16 : decode cX4_holds 16 = .ok (.iconst 1, 1) := by decide +kernel
theorem dX4_holds_17 : decode cX4_holds 17 = .ok (.goto 4, 3) := by decide +kernel
theorem dX4_holds_20 : decode cX4_holds 20 = .ok (.iconst 0, 1) := by decide +kernel
theorem dX4_holds_21 : decode cX4_holds 21 = .ok (.ireturn, 1) := by decide +kernel
theorem dX4_timesBetween_0 : decode cX4_timesBetween 0 = .ok (.aload_n 0, 1) := by decide +kernel
theorem dX4_timesBetween_1 : decode cX4_timesBetween 1 = .ok (.getfield 13, 3) := by decide +kernel
theorem dX4_timesBetween_4 : decode cX4_timesBetween 4 = .ok (.aload_n 1, 1) := by decide +kernel
theorem dX4_timesBetween_5 : decode cX4_timesBetween 5 = .ok (.invokevirtual 19, 3) := by decide +kernel
theorem dX4_timesBetween_8 : decode cX4_timesBetween 8 = .ok (.isub, 1) := by decide +kernel
theorem dX4_timesBetween_9 : decode cX4_timesBetween 9 = .ok (.aload_n 1, 1) := by decide +kernel
theorem dX4_timesBetween_10 : decode cX4_timesBetween 10 = .ok (.getfield 13, 3) := by decide +kernel
theorem dX4_timesBetween_13 : decode cX4_timesBetween 13 = .ok (.aload_n 0, 1) := by decide +kernel
theorem dX4_timesBetween_14 : decode cX4_timesBetween 14 = .ok (.invokevirtual 19, 3) := by decide +kernel
theorem dX4_timesBetween_17 : decode cX4_timesBetween 17 = .ok (.isub, 1) := by decide +kernel
theorem dX4_timesBetween_18 : decode cX4_timesBetween 18 = .ok (.invokestatic 23, 3) := by decide +kernel
theorem dX4_timesBetween_21 : decode cX4_timesBetween 21 = .ok (.ireturn, 1) := by decide +kernel
theorem dX5_init_0 : decode cX5_init 0 = .ok (.aload_n 0, 1) := by decide +kernel
theorem dX5_init_1 : decode cX5_init 1 = .ok (.invokespecial 1, 3) := by decide +kernel
theorem dX5_init_4 : decode cX5_init 4 = .ok (.aload_n 0, 1) := by decide +kernel
theorem dX5_init_5 : decode cX5_init 5 = .ok (.iconst 4, 1) := by decide +kernel
theorem dX5_init_6 : decode cX5_init 6 = .ok (.anewarray 7, 3) := by decide +kernel
theorem dX5_init_9 : decode cX5_init 9 = .ok (.dup, 1) := by decide +kernel
theorem dX5_init_10 : decode cX5_init 10 = .ok (.iconst 0, 1) := by decide +kernel
theorem dX5_init_11 : decode cX5_init 11 = .ok (.new 7, 3) := by decide +kernel
theorem dX5_init_14 : decode cX5_init 14 = .ok (.dup, 1) := by decide +kernel
theorem dX5_init_15 : decode cX5_init 15 = .ok (.iconst 0, 1) := by decide +kernel
theorem dX5_init_16 : decode cX5_init 16 = .ok (.iconst 2, 1) := by decide +kernel
theorem dX5_init_17 : decode cX5_init 17 = .ok (.iconst 0, 1) := by decide +kernel
theorem dX5_init_18 : decode cX5_init 18 = .ok (.invokespecial 9, 3) := by decide +kernel
theorem dX5_init_21 : decode cX5_init 21 = .ok (.aastore, 1) := by decide +kernel
theorem dX5_init_22 : decode cX5_init 22 = .ok (.dup, 1) := by decide +kernel
theorem dX5_init_23 : decode cX5_init 23 = .ok (.iconst 1, 1) := by decide +kernel
theorem dX5_init_24 : decode cX5_init 24 = .ok (.new 7, 3) := by decide +kernel
theorem dX5_init_27 : decode cX5_init 27 = .ok (.dup, 1) := by decide +kernel
theorem dX5_init_28 : decode cX5_init 28 = .ok (.iconst 1, 1) := by decide +kernel
theorem dX5_init_29 : decode cX5_init 29 = .ok (.iconst 3, 1) := by decide +kernel
theorem dX5_init_30 : decode cX5_init 30 = .ok (.iconst 0, 1) := by decide +kernel
theorem dX5_init_31 : decode cX5_init 31 = .ok (.invokespecial 9, 3) := by decide +kernel
theorem dX5_init_34 : decode cX5_init 34 = .ok (.aastore, 1) := by decide +kernel
theorem dX5_init_35 : decode cX5_init 35 = .ok (.dup, 1) := by decide +kernel
theorem dX5_init_36 : decode cX5_init 36 = .ok (.iconst 2, 1) := by decide +kernel
theorem dX5_init_37 : decode cX5_init 37 = .ok (.new 7, 3) := by decide +kernel
theorem dX5_init_40 : decode cX5_init 40 = .ok (.dup, 1) := by decide +kernel
theorem dX5_init_41 : decode cX5_init 41 = .ok (.iconst 2, 1) := by decide +kernel
theorem dX5_init_42 : decode cX5_init 42 = .ok (.iconst 4, 1) := by decide +kernel
theorem dX5_init_43 : decode cX5_init 43 = .ok (.iconst 1, 1) := by decide +kernel
theorem dX5_init_44 : decode cX5_init 44 = .ok (.invokespecial 9, 3) := by decide +kernel
theorem dX5_init_47 : decode cX5_init 47 = .ok (.aastore, 1) := by decide +kernel
theorem dX5_init_48 : decode cX5_init 48 = .ok (.dup, 1) := by decide +kernel
theorem dX5_init_49 : decode cX5_init 49 = .ok (.iconst 3, 1) := by decide +kernel
theorem dX5_init_50 : decode cX5_init 50 = .ok (.new 7, 3) := by decide +kernel
theorem dX5_init_53 : decode cX5_init 53 = .ok (.dup, 1) := by decide +kernel
theorem dX5_init_54 : decode cX5_init 54 = .ok (.iconst 3, 1) := by decide +kernel
theorem dX5_init_55 : decode cX5_init 55 = .ok (.bipush 6, 2) := by decide +kernel
theorem dX5_init_57 : decode cX5_init 57 = .ok (.iconst 1, 1) := by decide +kernel
theorem dX5_init_58 : decode cX5_init 58 = .ok (.invokespecial 9, 3) := by decide +kernel
theorem dX5_init_61 : decode cX5_init 61 = .ok (.aastore, 1) := by decide +kernel
theorem dX5_init_62 : decode cX5_init 62 = .ok (.putfield 12, 3) := by decide +kernel
theorem dX5_init_65 : decode cX5_init 65 = .ok (.aload_n 0, 1) := by decide +kernel
theorem dX5_init_66 : decode cX5_init 66 = .ok (.bipush 28, 2) := by decide +kernel
theorem dX5_init_68 : decode cX5_init 68 = .ok (.anewarray 18, 3) := by decide +kernel
theorem dX5_init_71 : decode cX5_init 71 = .ok (.putfield 20, 3) := by decide +kernel
theorem dX5_init_74 : decode cX5_init 74 = .ok (.iconst 0, 1) := by decide +kernel
theorem dX5_init_75 : decode cX5_init 75 = .ok (.istore_n 1, 1) := by decide +kernel
theorem dX5_init_76 : decode cX5_init 76 = .ok (.iload_n 1, 1) := by decide +kernel
theorem dX5_init_77 : decode cX5_init 77 = .ok (.aload_n 0, 1) := by decide +kernel
theorem dX5_init_78 : decode cX5_init 78 = .ok (.getfield 20, 3) := by decide +kernel
theorem dX5_init_81 : decode cX5_init 81 = .ok (.arraylength, 1) := by decide +kernel
theorem dX5_init_82 : decode cX5_init 82 = .ok (.if_icmp .ge 22, 3) := by decide +kernel
theorem dX5_init_85 : decode cX5_init 85 = .ok (.aload_n 0, 1) := by decide +kernel
theorem dX5_init_86 : decode cX5_init 86 = .ok (.getfield 20, 3) := by decide +kernel
theorem dX5_init_89 : decode cX5_init 89 = .ok (.iload_n 1, 1) := by decide +kernel
theorem dX5_init_90 : decode cX5_init 90 = .ok (.new 18, 3) := by decide +kernel
theorem dX5_init_93 : decode cX5_init 93 = .ok (.dup, 1) := by decide +kernel
theorem dX5_init_94 : decode cX5_init 94 = .ok (.invokespecial 24, 3) := by decide +kernel
theorem dX5_init_97 : decode cX5_init 97 = .ok (.aastore, 1) := by decide +kernel
theorem dX5_init_98 : decode cX5_init 98 = .ok (.iinc 1 1, 3) := by decide +kernel
theorem dX5_init_101 : decode cX5_init 101 = .ok (.goto (-25), 3) := by decide +kernel
theorem dX5_init_104 : decode cX5_init 104 = .ok (.aload_n 0, 1) := by decide +kernel
theorem dX5_init_105 : decode cX5_init 105 = .ok (.new 25, 3) := by decide +kernel
theorem dX5_init_108 : decode cX5_init 108 = .ok (.dup, 1) := by decide +kernel
theorem dX5_init_109 : decode cX5_init 109 = .ok (.invokespecial 27, 3) := by decide +kernel
theorem dX5_init_112 : decode cX5_init 112 = .ok (.putfield 28, 3) := by decide +kernel
theorem dX5_init_115 : decode cX5_init 115 = .ok (.aload_n 0, 1) := by decide +kernel
theorem dX5_init_116 : decode cX5_init 116 = .ok (.iconst 1, 1) := by decide +kernel
theorem dX5_init_117 : decode cX5_init 117 = .ok (.putfield 32, 3) := by decide +kernel
theorem dX5_init_120 : decode cX5_init 120 = .ok (.aload_n 0, 1) := by decide +kernel
theorem dX5_init_121 : decode cX5_init 121 = .ok (.iconst 0, 1) := by decide +kernel
theorem dX5_init_122 : decode cX5_init 122 = .ok (.putfield 36, 3) := by decide +kernel
theorem dX5_init_125 : decode cX5_init 125 = .ok (.aload_n 0, 1) := by decide +kernel
theorem dX5_init_126 : decode cX5_init 126 = .ok (.iconst 0, 1) := by decide +kernel
theorem dX5_init_127 : decode cX5_init 127 = .ok (.putfield 39, 3) := by decide +kernel
theorem dX5_init_130 : decode cX5_init 130 = .ok (.aload_n 0, 1) := by decide +kernel
theorem dX5_init_131 : decode cX5_init 131 = .ok (.iconst 0, 1) := by decide +kernel
theorem dX5_init_132 : decode cX5_init 132 = .ok (.putfield 42, 3) := by decide +kernel
theorem dX5_init_135 : decode cX5_init 135 = .ok (.return_, 1) := by decide +kernel
theorem dX5_setRoom_0 : decode cX5_setRoom 0 = .ok (.aload_n 0, 1) := by decide +kernel
theorem dX5_setRoom_1 : decode cX5_setRoom 1 = .ok (.iload_n 1, 1) := by decide +kernel
theorem dX5_setRoom_2 : decode cX5_setRoom 2 = .ok (.invokevirtual 45, 3) := by decide +kernel
theorem dX5_setRoom_5 : decode cX5_setRoom 5 = .ok (.astore 4, 2) := by decide +kernel
theorem dX5_setRoom_7 : decode cX5_setRoom 7 = .ok (.iload_n 2, 1) := by decide +kernel
theorem dX5_setRoom_8 : decode cX5_setRoom 8 = .ok (.iconst 0, 1) := by decide +kernel
theorem dX5_setRoom_9 : decode cX5_setRoom 9 = .ok (.bipush 6, 2) := by decide +kernel
theorem dX5_setRoom_11 : decode cX5_setRoom 11 = .ok (.invokestatic 49, 3) := by decide +kernel
theorem dX5_setRoom_14 : decode cX5_setRoom 14 = .ok (.iload_n 3, 1) := by decide +kernel
theorem dX5_setRoom_15 : decode cX5_setRoom 15 = .ok (.iconst 0, 1) := by decide +kernel
theorem dX5_setRoom_16 : decode cX5_setRoom 16 = .ok (.iconst 1, 1) := by decide +kernel
theorem dX5_setRoom_17 : decode cX5_setRoom 17 = .ok (.invokestatic 49, 3) := by decide +kernel
theorem dX5_setRoom_20 : decode cX5_setRoom 20 = .ok (.aload 4, 2) := by decide +kernel
theorem dX5_setRoom_22 : decode cX5_setRoom 22 = .ok (.getfield 52, 3) := by decide +kernel
theorem dX5_setRoom_25 : decode cX5_setRoom 25 = .ok (.istore 5, 2) := by decide +kernel
theorem dX5_setRoom_27 : decode cX5_setRoom 27 = .ok (.aload 4, 2) := by decide +kernel
theorem dX5_setRoom_29 : decode cX5_setRoom 29 = .ok (.iload_n 2, 1) := by decide +kernel
theorem dX5_setRoom_30 : decode cX5_setRoom 30 = .ok (.putfield 52, 3) := by decide +kernel
theorem dX5_setRoom_33 : decode cX5_setRoom 33 = .ok (.aload 4, 2) := by decide +kernel
theorem dX5_setRoom_35 : decode cX5_setRoom 35 = .ok (.iload_n 3, 1) := by decide +kernel
theorem dX5_setRoom_36 : decode cX5_setRoom 36 = .ok (.putfield 55, 3) := by decide +kernel
theorem dX5_setRoom_39 : decode cX5_setRoom 39 = .ok (.iload 5, 2) := by decide +kernel
theorem dX5_setRoom_41 : decode cX5_setRoom 41 = .ok (.ireturn, 1) := by decide +kernel
theorem dX5_setGap_0 : decode cX5_setGap 0 = .ok (.iload_n 1, 1) := by decide +kernel
theorem dX5_setGap_1 : decode cX5_setGap 1 = .ok (.iconst 0, 1) := by decide +kernel
theorem dX5_setGap_2 : decode cX5_setGap 2 = .ok (.iconst 3, 1) := by decide +kernel
theorem dX5_setGap_3 : decode cX5_setGap 3 = .ok (.invokestatic 49, 3) := by decide +kernel
theorem dX5_setGap_6 : decode cX5_setGap 6 = .ok (.aload_n 0, 1) := by decide +kernel
theorem dX5_setGap_7 : decode cX5_setGap 7 = .ok (.getfield 32, 3) := by decide +kernel
theorem dX5_setGap_10 : decode cX5_setGap 10 = .ok (.istore_n 2, 1) := by decide +kernel
theorem dX5_setGap_11 : decode cX5_setGap 11 = .ok (.aload_n 0, 1) := by decide +kernel
theorem dX5_setGap_12 : decode cX5_setGap 12 = .ok (.iload_n 1, 1) := by decide +kernel
theorem dX5_setGap_13 : decode cX5_setGap 13 = .ok (.putfield 32, 3) := by decide +kernel
theorem dX5_setGap_16 : decode cX5_setGap 16 = .ok (.iload_n 2, 1) := by decide +kernel
theorem dX5_setGap_17 : decode cX5_setGap 17 = .ok (.ireturn, 1) := by decide +kernel
theorem dX5_seatsOf_0 : decode cX5_seatsOf 0 = .ok (.aload_n 0, 1) := by decide +kernel
theorem dX5_seatsOf_1 : decode cX5_seatsOf 1 = .ok (.iload_n 1, 1) := by decide +kernel
theorem dX5_seatsOf_2 : decode cX5_seatsOf 2 = .ok (.invokevirtual 45, 3) := by decide +kernel
theorem dX5_seatsOf_5 : decode cX5_seatsOf 5 = .ok (.getfield 52, 3) := by decide +kernel
theorem dX5_seatsOf_8 : decode cX5_seatsOf 8 = .ok (.ireturn, 1) := by decide +kernel
theorem dX5_houseOf_0 : decode cX5_houseOf 0 = .ok (.aload_n 0, 1) := by decide +kernel
theorem dX5_houseOf_1 : decode cX5_houseOf 1 = .ok (.iload_n 1, 1) := by decide +kernel
theorem dX5_houseOf_2 : decode cX5_houseOf 2 = .ok (.invokevirtual 45, 3) := by decide +kernel
theorem dX5_houseOf_5 : decode cX5_houseOf 5 = .ok (.getfield 55, 3) := by decide +kernel
theorem dX5_houseOf_8 : decode cX5_houseOf 8 = .ok (.ireturn, 1) := by decide +kernel
theorem dX5_ask_0 : decode cX5_ask 0 = .ok (.iload_n 1, 1) := by decide +kernel
theorem dX5_ask_1 : decode cX5_ask 1 = .ok (.invokestatic 58, 3) := by decide +kernel
theorem dX5_ask_4 : decode cX5_ask 4 = .ok (.iload_n 2, 1) := by decide +kernel
theorem dX5_ask_5 : decode cX5_ask 5 = .ok (.iconst 0, 1) := by decide +kernel
theorem dX5_ask_6 : decode cX5_ask 6 = .ok (.bipush 63, 2) := by decide +kernel
theorem dX5_ask_8 : decode cX5_ask 8 = .ok (.invokestatic 49, 3) := by decide +kernel
theorem dX5_ask_11 : decode cX5_ask 11 = .ok (.iload_n 3, 1) := by decide +kernel
theorem dX5_ask_12 : decode cX5_ask 12 = .ok (.iload 4, 2) := by decide +kernel
theorem dX5_ask_14 : decode cX5_ask 14 = .ok (.iload 5, 2) := by decide +kernel
theorem dX5_ask_16 : decode cX5_ask 16 = .ok (.invokestatic 62, 3) := by decide +kernel
theorem dX5_ask_19 : decode cX5_ask 19 = .ok (.aload_n 0, 1) := by decide +kernel
theorem dX5_ask_20 : decode cX5_ask 20 = .ok (.getfield 28, 3) := by decide +kernel
theorem dX5_ask_23 : decode cX5_ask 23 = .ok (.invokevirtual 65, 3) := by decide +kernel
theorem dX5_ask_26 : decode cX5_ask 26 = .ok (.bipush 8, 2) := by decide +kernel
theorem dX5_ask_28 : decode cX5_ask 28 = .ok (.if_icmp .lt 13, 3) := by decide +kernel
theorem dX5_ask_31 : decode cX5_ask 31 = .ok (.new 69, 3) := by decide +kernel
theorem dX5_ask_34 : decode cX5_ask 34 = .ok (.dup, 1) := by decide +kernel
theorem dX5_ask_35 : decode cX5_ask 35 = .ok (.ldc 71, 2) := by decide +kernel
theorem dX5_ask_37 : decode cX5_ask 37 = .ok (.invokespecial 73, 3) := by decide +kernel
theorem dX5_ask_40 : decode cX5_ask 40 = .ok (.athrow, 1) := by decide +kernel
theorem dX5_ask_41 : decode cX5_ask 41 = .ok (.new 76, 3) := by decide +kernel
theorem dX5_ask_44 : decode cX5_ask 44 = .ok (.dup, 1) := by decide +kernel
theorem dX5_ask_45 : decode cX5_ask 45 = .ok (.aload_n 0, 1) := by decide +kernel
theorem dX5_ask_46 : decode cX5_ask 46 = .ok (.getfield 36, 3) := by decide +kernel
theorem dX5_ask_49 : decode cX5_ask 49 = .ok (.iload_n 1, 1) := by decide +kernel
theorem dX5_ask_50 : decode cX5_ask 50 = .ok (.iload_n 2, 1) := by decide +kernel
theorem dX5_ask_51 : decode cX5_ask 51 = .ok (.iload_n 1, 1) := by decide +kernel
theorem dX5_ask_52 : decode cX5_ask 52 = .ok (.invokestatic 78, 3) := by decide +kernel
theorem dX5_ask_55 : decode cX5_ask 55 = .ok (.iconst (-1), 1) := by decide +kernel
theorem dX5_ask_56 : decode cX5_ask 56 = .ok (.ixor, 1) := by decide +kernel
theorem dX5_ask_57 : decode cX5_ask 57 = .ok (.iand, 1) := by decide +kernel
theorem dX5_ask_58 : decode cX5_ask 58 = .ok (.invokespecial 82, 3) := by decide +kernel
theorem dX5_ask_61 : decode cX5_ask 61 = .ok (.astore 6, 2) := by decide +kernel
theorem dX5_ask_63 : decode cX5_ask 63 = .ok (.new 25, 3) := by decide +kernel
theorem dX5_ask_66 : decode cX5_ask 66 = .ok (.dup, 1) := by decide +kernel
theorem dX5_ask_67 : decode cX5_ask 67 = .ok (.invokespecial 27, 3) := by decide +kernel
theorem dX5_ask_70 : decode cX5_ask 70 = .ok (.astore 7, 2) := by decide +kernel
theorem dX5_ask_72 : decode cX5_ask 72 = .ok (.aload 7, 2) := by decide +kernel
theorem dX5_ask_74 : decode cX5_ask 74 = .ok (.new 83, 3) := by decide +kernel
theorem dX5_ask_77 : decode cX5_ask 77 = .ok (.dup, 1) := by decide +kernel
theorem dX5_ask_78 : decode cX5_ask 78 = .ok (.iload_n 3, 1) := by decide +kernel
theorem dX5_ask_79 : decode cX5_ask 79 = .ok (.iload 4, 2) := by decide +kernel
theorem dX5_ask_81 : decode cX5_ask 81 = .ok (.iload 5, 2) := by decide +kernel
theorem dX5_ask_83 : decode cX5_ask 83 = .ok (.invokespecial 85, 3) := by decide +kernel
theorem dX5_ask_86 : decode cX5_ask 86 = .ok (.invokevirtual 86, 3) := by decide +kernel
theorem dX5_ask_89 : decode cX5_ask 89 = .ok (.pop, 1) := by decide +kernel
theorem dX5_ask_90 : decode cX5_ask 90 = .ok (.aload_n 0, 1) := by decide +kernel
theorem dX5_ask_91 : decode cX5_ask 91 = .ok (.aload 6, 2) := by decide +kernel
theorem dX5_ask_93 : decode cX5_ask 93 = .ok (.aload 7, 2) := by decide +kernel
theorem dX5_ask_95 : decode cX5_ask 95 = .ok (.invokevirtual 90, 3) := by decide +kernel
theorem dX5_ask_98 : decode cX5_ask 98 = .ok (.aload_n 0, 1) := by decide +kernel
theorem dX5_ask_99 : decode cX5_ask 99 = .ok (.getfield 28, 3) := by decide +kernel
theorem dX5_ask_102 : decode cX5_ask 102 = .ok (.aload 6, 2) := by decide +kernel
theorem dX5_ask_104 : decode cX5_ask 104 = .ok (.invokevirtual 86, 3) := by decide +kernel
theorem dX5_ask_107 : decode cX5_ask 107 = .ok (.pop, 1) := by decide +kernel
theorem dX5_ask_108 : decode cX5_ask 108 = .ok (.aload_n 0, 1) := by decide +kernel
theorem dX5_ask_109 : decode cX5_ask 109 = .ok (.dup, 1) := by decide +kernel
theorem dX5_ask_110 : decode cX5_ask 110 = .ok (.getfield 36, 3) := by decide +kernel
theorem dX5_ask_113 : decode cX5_ask 113 = .ok (.iconst 1, 1) := by decide +kernel
theorem dX5_ask_114 : decode cX5_ask 114 = .ok (.iadd, 1) := by decide +kernel
theorem dX5_ask_115 : decode cX5_ask 115 = .ok (.putfield 36, 3) := by decide +kernel
theorem dX5_ask_118 : decode cX5_ask 118 = .ok (.aload 6, 2) := by decide +kernel
theorem dX5_ask_120 : decode cX5_ask 120 = .ok (.getfield 94, 3) := by decide +kernel
theorem dX5_ask_123 : decode cX5_ask 123 = .ok (.ireturn, 1) := by decide +kernel
theorem dX5_extend_0 : decode cX5_extend 0 = .ok (.aload_n 0, 1) := by decide +kernel
theorem dX5_extend_1 : decode cX5_extend 1 = .ok (.iload_n 1, 1) := by decide +kernel
theorem dX5_extend_2 : decode cX5_extend 2 = .ok (.invokevirtual 97, 3) := by decide +kernel
theorem dX5_extend_5 : decode cX5_extend 5 = .ok (.astore 4, 2) := by decide +kernel
theorem dX5_extend_7 : decode cX5_extend 7 = .ok (.iload_n 2, 1) := by decide +kernel
theorem dX5_extend_8 : decode cX5_extend 8 = .ok (.iconst 1, 1) := by decide +kernel
theorem dX5_extend_9 : decode cX5_extend 9 = .ok (.bipush 14, 2) := by decide +kernel
theorem dX5_extend_11 : decode cX5_extend 11 = .ok (.invokestatic 49, 3) := by decide +kernel
theorem dX5_extend_14 : decode cX5_extend 14 = .ok (.iload_n 3, 1) := by decide +kernel
theorem dX5_extend_15 : decode cX5_extend 15 = .ok (.iconst 1, 1) := by decide +kernel
theorem dX5_extend_16 : decode cX5_extend 16 = .ok (.iconst 5, 1) := by decide +kernel
theorem dX5_extend_17 : decode cX5_extend 17 = .ok (.invokestatic 49, 3) := by decide +kernel
theorem dX5_extend_20 : decode cX5_extend 20 = .ok (.aload 4, 2) := by decide +kernel
theorem dX5_extend_22 : decode cX5_extend 22 = .ok (.aload 4, 2) := by decide +kernel
theorem dX5_extend_24 : decode cX5_extend 24 = .ok (.getfield 101, 3) := by decide +kernel
theorem dX5_extend_27 : decode cX5_extend 27 = .ok (.invokevirtual 65, 3) := by decide +kernel
theorem dX5_extend_30 : decode cX5_extend 30 = .ok (.iconst 1, 1) := by decide +kernel
theorem dX5_extend_31 : decode cX5_extend 31 = .ok (.isub, 1) := by decide +kernel
theorem dX5_extend_32 : decode cX5_extend 32 = .ok (.invokestatic 104, 3) := by decide +kernel
theorem dX5_extend_35 : decode cX5_extend 35 = .ok (.getfield 108, 3) := by decide +kernel
theorem dX5_extend_38 : decode cX5_extend 38 = .ok (.astore 5, 2) := by decide +kernel
theorem dX5_extend_40 : decode cX5_extend 40 = .ok (.aload 5, 2) := by decide +kernel
theorem dX5_extend_42 : decode cX5_extend 42 = .ok (.getfield 114, 3) := by decide +kernel
theorem dX5_extend_45 : decode cX5_extend 45 = .ok (.iload_n 2, 1) := by decide +kernel
theorem dX5_extend_46 : decode cX5_extend 46 = .ok (.iload_n 3, 1) := by decide +kernel
theorem dX5_extend_47 : decode cX5_extend 47 = .ok (.imul, 1) := by decide +kernel
theorem dX5_extend_48 : decode cX5_extend 48 = .ok (.iadd, 1) := by decide +kernel
theorem dX5_extend_49 : decode cX5_extend 49 = .ok (.invokestatic 117, 3) := by decide +kernel
theorem dX5_extend_52 : decode cX5_extend 52 = .ok (.aload 4, 2) := by decide +kernel
theorem dX5_extend_54 : decode cX5_extend 54 = .ok (.getfield 101, 3) := by decide +kernel
theorem dX5_extend_57 : decode cX5_extend 57 = .ok (.invokevirtual 65, 3) := by decide +kernel
theorem dX5_extend_60 : decode cX5_extend 60 = .ok (.iload_n 3, 1) := by decide +kernel
theorem dX5_extend_61 : decode cX5_extend 61 = .ok (.iadd, 1) := by decide +kernel
theorem dX5_extend_62 : decode cX5_extend 62 = .ok (.bipush 6, 2) := by decide +kernel
theorem dX5_extend_64 : decode cX5_extend 64 = .ok (.if_icmp .le 13, 3) := by decide +kernel
theorem dX5_extend_67 : decode cX5_extend 67 = .ok (.new 69, 3) := by decide +kernel
theorem dX5_extend_70 : decode cX5_extend 70 = .ok (.dup, 1) := by decide +kernel
theorem dX5_extend_71 : decode cX5_extend 71 = .ok (.ldc 120, 2) := by decide +kernel
theorem dX5_extend_73 : decode cX5_extend 73 = .ok (.invokespecial 73, 3) := by decide +kernel
theorem dX5_extend_76 : decode cX5_extend 76 = .ok (.athrow, 1) := by decide +kernel
theorem dX5_extend_77 : decode cX5_extend 77 = .ok (.new 25, 3) := by decide +kernel
theorem dX5_extend_80 : decode cX5_extend 80 = .ok (.dup, 1) := by decide +kernel
theorem dX5_extend_81 : decode cX5_extend 81 = .ok (.invokespecial 27, 3) := by decide +kernel
theorem dX5_extend_84 : decode cX5_extend 84 = .ok (.astore 6, 2) := by decide +kernel
theorem dX5_extend_86 : decode cX5_extend 86 = .ok (.iconst 1, 1) := by decide +kernel
theorem dX5_extend_87 : decode cX5_extend 87 = .ok (.istore 7, 2) := by decide +kernel
theorem dX5_extend_89 : decode cX5_extend 89 = .ok (.iload 7, 2) := by decide +kernel
theorem dX5_extend_91 : decode cX5_extend 91 = .ok (.iload_n 3, 1) := by decide +kernel
theorem dX5_extend_92 : decode cX5_extend 92 = .ok (.if_icmp .gt 42, 3) := by decide +kernel
theorem dX5_extend_95 : decode cX5_extend 95 = .ok (.aload 6, 2) := by decide +kernel
theorem dX5_extend_97 : decode cX5_extend 97 = .ok (.new 83, 3) := by decide +kernel
theorem dX5_extend_100 : decode cX5_extend 100 = .ok (.dup, 1) := by decide +kernel
theorem dX5_extend_101 : decode cX5_extend 101 = .ok (.aload 5, 2) := by decide +kernel
theorem dX5_extend_103 : decode cX5_extend 103 = .ok (.getfield 114, 3) := by decide +kernel
theorem dX5_extend_106 : decode cX5_extend 106 = .ok (.iload 7, 2) := by decide +kernel
theorem dX5_extend_108 : decode cX5_extend 108 = .ok (.iload_n 2, 1) := by decide +kernel
theorem dX5_extend_109 : decode cX5_extend 109 = .ok (.imul, 1) := by decide +kernel
theorem dX5_extend_110 : decode cX5_extend 110 = .ok (.iadd, 1) := by decide +kernel
theorem dX5_extend_111 : decode cX5_extend 111 = .ok (.aload 5, 2) := by decide +kernel
theorem dX5_extend_113 : decode cX5_extend 113 = .ok (.getfield 122, 3) := by decide +kernel
theorem dX5_extend_116 : decode cX5_extend 116 = .ok (.aload 5, 2) := by decide +kernel
theorem dX5_extend_118 : decode cX5_extend 118 = .ok (.getfield 125, 3) := by decide +kernel
theorem dX5_extend_121 : decode cX5_extend 121 = .ok (.invokespecial 85, 3) := by decide +kernel
theorem dX5_extend_124 : decode cX5_extend 124 = .ok (.invokevirtual 86, 3) := by decide +kernel
theorem dX5_extend_127 : decode cX5_extend 127 = .ok (.pop, 1) := by decide +kernel
theorem dX5_extend_128 : decode cX5_extend 128 = .ok (.iinc 7 1, 3) := by decide +kernel
theorem dX5_extend_131 : decode cX5_extend 131 = .ok (.goto (-42), 3) := by decide +kernel
theorem dX5_extend_134 : decode cX5_extend 134 = .ok (.aload_n 0, 1) := by decide +kernel
theorem dX5_extend_135 : decode cX5_extend 135 = .ok (.aload 4, 2) := by decide +kernel
theorem dX5_extend_137 : decode cX5_extend 137 = .ok (.aload 6, 2) := by decide +kernel
theorem dX5_extend_139 : decode cX5_extend 139 = .ok (.invokevirtual 90, 3) := by decide +kernel
theorem dX5_extend_142 : decode cX5_extend 142 = .ok (.aload 4, 2) := by decide +kernel
theorem dX5_extend_144 : decode cX5_extend 144 = .ok (.getfield 101, 3) := by decide +kernel
theorem dX5_extend_147 : decode cX5_extend 147 = .ok (.invokevirtual 65, 3) := by decide +kernel
theorem dX5_extend_150 : decode cX5_extend 150 = .ok (.ireturn, 1) := by decide +kernel
theorem dX5_remove_0 : decode cX5_remove 0 = .ok (.aload_n 0, 1) := by decide +kernel
theorem dX5_remove_1 : decode cX5_remove 1 = .ok (.iload_n 1, 1) := by decide +kernel
theorem dX5_remove_2 : decode cX5_remove 2 = .ok (.invokevirtual 128, 3) := by decide +kernel
theorem dX5_remove_5 : decode cX5_remove 5 = .ok (.istore_n 2, 1) := by decide +kernel
theorem dX5_remove_6 : decode cX5_remove 6 = .ok (.aload_n 0, 1) := by decide +kernel
theorem dX5_remove_7 : decode cX5_remove 7 = .ok (.getfield 28, 3) := by decide +kernel
theorem dX5_remove_10 : decode cX5_remove 10 = .ok (.iload_n 2, 1) := by decide +kernel
theorem dX5_remove_11 : decode cX5_remove 11 = .ok (.invokevirtual 131, 3) := by decide +kernel
theorem dX5_remove_14 : decode cX5_remove 14 = .ok (.checkcast 76, 3) := by decide +kernel
theorem dX5_remove_17 : decode cX5_remove 17 = .ok (.astore_n 3, 1) := by decide +kernel
theorem dX5_remove_18 : decode cX5_remove 18 = .ok (.iconst 0, 1) := by decide +kernel
theorem dX5_remove_19 : decode cX5_remove 19 = .ok (.istore 4, 2) := by decide +kernel
theorem dX5_remove_21 : decode cX5_remove 21 = .ok (.iload 4, 2) := by decide +kernel
theorem dX5_remove_23 : decode cX5_remove 23 = .ok (.aload_n 3, 1) := by decide +kernel
theorem dX5_remove_24 : decode cX5_remove 24 = .ok (.getfield 101, 3) := by decide +kernel
theorem dX5_remove_27 : decode cX5_remove 27 = .ok (.invokevirtual 65, 3) := by decide +kernel
theorem dX5_remove_30 : decode cX5_remove 30 = .ok (.if_icmp .ge 25, 3) := by decide +kernel
theorem dX5_remove_33 : decode cX5_remove 33 = .ok (.aload_n 0, 1) := by decide +kernel
theorem dX5_remove_34 : decode cX5_remove 34 = .ok (.aload_n 3, 1) := by decide +kernel
theorem dX5_remove_35 : decode cX5_remove 35 = .ok (.getfield 101, 3) := by decide +kernel
theorem dX5_remove_38 : decode cX5_remove 38 = .ok (.iload 4, 2) := by decide +kernel
theorem dX5_remove_40 : decode cX5_remove 40 = .ok (.invokevirtual 131, 3) := by decide +kernel
theorem dX5_remove_43 : decode cX5_remove 43 = .ok (.checkcast 109, 3) := by decide +kernel
theorem dX5_remove_46 : decode cX5_remove 46 = .ok (.invokevirtual 135, 3) := by decide +kernel
theorem dX5_remove_49 : decode cX5_remove 49 = .ok (.iinc 4 1, 3) := by decide +kernel
theorem dX5_remove_52 : decode cX5_remove 52 = .ok (.goto (-31), 3) := by decide +kernel
theorem dX5_remove_55 : decode cX5_remove 55 = .ok (.aload_n 0, 1) := by decide +kernel
theorem dX5_remove_56 : decode cX5_remove 56 = .ok (.getfield 28, 3) := by decide +kernel
theorem dX5_remove_59 : decode cX5_remove 59 = .ok (.iload_n 2, 1) := by decide +kernel
theorem dX5_remove_60 : decode cX5_remove 60 = .ok (.invokevirtual 139, 3) := by decide +kernel
theorem dX5_remove_63 : decode cX5_remove 63 = .ok (.pop, 1) := by decide +kernel
theorem dX5_remove_64 : decode cX5_remove 64 = .ok (.aload_n 0, 1) := by decide +kernel
theorem dX5_remove_65 : decode cX5_remove 65 = .ok (.getfield 28, 3) := by decide +kernel
theorem dX5_remove_68 : decode cX5_remove 68 = .ok (.invokevirtual 65, 3) := by decide +kernel
theorem dX5_remove_71 : decode cX5_remove 71 = .ok (.ireturn, 1) := by decide +kernel
theorem dX5_answer_0 : decode cX5_answer 0 = .ok (.aload_n 0, 1) := by decide +kernel
theorem dX5_answer_1 : decode cX5_answer 1 = .ok (.iload_n 1, 1) := by decide +kernel
theorem dX5_answer_2 : decode cX5_answer 2 = .ok (.invokevirtual 97, 3) := by decide +kernel
theorem dX5_answer_5 : decode cX5_answer 5 = .ok (.astore 4, 2) := by decide +kernel
theorem dX5_answer_7 : decode cX5_answer 7 = .ok (.iload_n 2, 1) := by decide +kernel
theorem dX5_answer_8 : decode cX5_answer 8 = .ok (.invokestatic 58, 3) := by decide +kernel
theorem dX5_answer_11 : decode cX5_answer 11 = .ok (.iload_n 3, 1) := by decide +kernel
theorem dX5_answer_12 : decode cX5_answer 12 = .ok (.bipush 121, 2) := by decide +kernel
theorem dX5_answer_14 : decode cX5_answer 14 = .ok (.if_icmp .eq 25, 3) := by decide +kernel
theorem dX5_answer_17 : decode cX5_answer 17 = .ok (.iload_n 3, 1) := by decide +kernel
theorem dX5_answer_18 : decode cX5_answer 18 = .ok (.bipush 110, 2) := by decide +kernel
theorem dX5_answer_20 : decode cX5_answer 20 = .ok (.if_icmp .eq 19, 3) := by decide +kernel
theorem dX5_answer_23 : decode cX5_answer 23 = .ok (.iload_n 3, 1) := by decide +kernel
theorem dX5_answer_24 : decode cX5_answer 24 = .ok (.bipush 111, 2) := by decide +kernel
theorem dX5_answer_26 : decode cX5_answer 26 = .ok (.if_icmp .eq 13, 3) := by decide +kernel
theorem dX5_answer_29 : decode cX5_answer 29 = .ok (.new 142, 3) := by decide +kernel
theorem dX5_answer_32 : decode cX5_answer 32 = .ok (.dup, 1) := by decide +kernel
theorem dX5_answer_33 : decode cX5_answer 33 = .ok (.ldc 144, 2) := by decide +kernel
theorem dX5_answer_35 : decode cX5_answer 35 = .ok (.invokespecial 146, 3) := by decide +kernel
theorem dX5_answer_38 : decode cX5_answer 38 = .ok (.athrow, 1) := by decide +kernel
theorem dX5_answer_39 : decode cX5_answer 39 = .ok (.aload 4, 2) := by decide +kernel
theorem dX5_answer_41 : decode cX5_answer 41 = .ok (.getfield 147, 3) := by decide +kernel
theorem dX5_answer_44 : decode cX5_answer 44 = .ok (.iload_n 2, 1) := by decide +kernel
theorem dX5_answer_45 : decode cX5_answer 45 = .ok (.invokestatic 150, 3) := by decide +kernel
theorem dX5_answer_48 : decode cX5_answer 48 = .ok (.ifCond .ne 13, 3) := by decide +kernel
theorem dX5_answer_51 : decode cX5_answer 51 = .ok (.new 69, 3) := by decide +kernel
theorem dX5_answer_54 : decode cX5_answer 54 = .ok (.dup, 1) := by decide +kernel
theorem dX5_answer_55 : decode cX5_answer 55 = .ok (.ldc 154, 2) := by decide +kernel
theorem dX5_answer_57 : decode cX5_answer 57 = .ok (.invokespecial 73, 3) := by decide +kernel
theorem dX5_answer_60 : decode cX5_answer 60 = .ok (.athrow, 1) := by decide +kernel
theorem dX5_answer_61 : decode cX5_answer 61 = .ok (.aload 4, 2) := by decide +kernel
theorem dX5_answer_63 : decode cX5_answer 63 = .ok (.iload_n 2, 1) := by decide +kernel
theorem dX5_answer_64 : decode cX5_answer 64 = .ok (.invokevirtual 156, 3) := by decide +kernel
theorem dX5_answer_67 : decode cX5_answer 67 = .ok (.istore 5, 2) := by decide +kernel
theorem dX5_answer_69 : decode cX5_answer 69 = .ok (.iload 5, 2) := by decide +kernel
theorem dX5_answer_71 : decode cX5_answer 71 = .ok (.bipush 110, 2) := by decide +kernel
theorem dX5_answer_73 : decode cX5_answer 73 = .ok (.if_icmp .ne 22, 3) := by decide +kernel
theorem dX5_answer_76 : decode cX5_answer 76 = .ok (.iload_n 3, 1) := by decide +kernel
theorem dX5_answer_77 : decode cX5_answer 77 = .ok (.bipush 110, 2) := by decide +kernel
theorem dX5_answer_79 : decode cX5_answer 79 = .ok (.if_icmp .eq 16, 3) := by decide +kernel
theorem dX5_answer_82 : decode cX5_answer 82 = .ok (.aload_n 0, 1) := by decide +kernel
theorem dX5_answer_83 : decode cX5_answer 83 = .ok (.aload 4, 2) := by decide +kernel
theorem dX5_answer_85 : decode cX5_answer 85 = .ok (.invokevirtual 160, 3) := by decide +kernel
theorem dX5_answer_88 : decode cX5_answer 88 = .ok (.aload_n 0, 1) := by decide +kernel
theorem dX5_answer_89 : decode cX5_answer 89 = .ok (.iload_n 2, 1) := by decide +kernel
theorem dX5_answer_90 : decode cX5_answer 90 = .ok (.aload 4, 2) := by decide +kernel
theorem dX5_answer_92 : decode cX5_answer 92 = .ok (.invokevirtual 164, 3) := by decide +kernel
theorem dX5_answer_95 : decode cX5_answer 95 = .ok (.aload 4, 2) := by decide +kernel
theorem dX5_answer_97 : decode cX5_answer 97 = .ok (.iload_n 2, 1) := by decide +kernel
theorem dX5_answer_98 : decode cX5_answer 98 = .ok (.iload_n 3, 1) := by decide +kernel
theorem dX5_answer_99 : decode cX5_answer 99 = .ok (.invokevirtual 168, 3) := by decide +kernel
theorem dX5_answer_102 : decode cX5_answer 102 = .ok (.iload 5, 2) := by decide +kernel
theorem dX5_answer_104 : decode cX5_answer 104 = .ok (.ireturn, 1) := by decide +kernel
theorem dX5_cancel_0 : decode cX5_cancel 0 = .ok (.aload_n 0, 1) := by decide +kernel
theorem dX5_cancel_1 : decode cX5_cancel 1 = .ok (.iload_n 1, 1) := by decide +kernel
theorem dX5_cancel_2 : decode cX5_cancel 2 = .ok (.invokevirtual 97, 3) := by decide +kernel
theorem dX5_cancel_5 : decode cX5_cancel 5 = .ok (.astore_n 3, 1) := by decide +kernel
theorem dX5_cancel_6 : decode cX5_cancel 6 = .ok (.aload_n 3, 1) := by decide +kernel
theorem dX5_cancel_7 : decode cX5_cancel 7 = .ok (.iload_n 2, 1) := by decide +kernel
theorem dX5_cancel_8 : decode cX5_cancel 8 = .ok (.invokestatic 172, 3) := by decide +kernel
theorem dX5_cancel_11 : decode cX5_cancel 11 = .ok (.astore 4, 2) := by decide +kernel
theorem dX5_cancel_13 : decode cX5_cancel 13 = .ok (.aload_n 0, 1) := by decide +kernel
theorem dX5_cancel_14 : decode cX5_cancel 14 = .ok (.aload 4, 2) := by decide +kernel
theorem dX5_cancel_16 : decode cX5_cancel 16 = .ok (.invokevirtual 135, 3) := by decide +kernel
theorem dX5_cancel_19 : decode cX5_cancel 19 = .ok (.aload 4, 2) := by decide +kernel
theorem dX5_cancel_21 : decode cX5_cancel 21 = .ok (.iconst 1, 1) := by decide +kernel
theorem dX5_cancel_22 : decode cX5_cancel 22 = .ok (.putfield 175, 3) := by decide +kernel
theorem dX5_cancel_25 : decode cX5_cancel 25 = .ok (.aload_n 3, 1) := by decide +kernel
theorem dX5_cancel_26 : decode cX5_cancel 26 = .ok (.invokevirtual 179, 3) := by decide +kernel
theorem dX5_cancel_29 : decode cX5_cancel 29 = .ok (.ireturn, 1) := by decide +kernel
theorem dX5_move_0 : decode cX5_move 0 = .ok (.aload_n 0, 1) := by decide +kernel
theorem dX5_move_1 : decode cX5_move 1 = .ok (.iload_n 1, 1) := by decide +kernel
theorem dX5_move_2 : decode cX5_move 2 = .ok (.invokevirtual 97, 3) := by decide +kernel
theorem dX5_move_5 : decode cX5_move 5 = .ok (.astore 5, 2) := by decide +kernel
theorem dX5_move_7 : decode cX5_move 7 = .ok (.aload 5, 2) := by decide +kernel
theorem dX5_move_9 : decode cX5_move 9 = .ok (.iload_n 2, 1) := by decide +kernel
theorem dX5_move_10 : decode cX5_move 10 = .ok (.invokestatic 104, 3) := by decide +kernel
theorem dX5_move_13 : decode cX5_move 13 = .ok (.astore 6, 2) := by decide +kernel
theorem dX5_move_15 : decode cX5_move 15 = .ok (.iload_n 3, 1) := by decide +kernel
theorem dX5_move_16 : decode cX5_move 16 = .ok (.iload 4, 2) := by decide +kernel
theorem dX5_move_18 : decode cX5_move 18 = .ok (.aload 6, 2) := by decide +kernel
theorem dX5_move_20 : decode cX5_move 20 = .ok (.getfield 108, 3) := by decide +kernel
theorem dX5_move_23 : decode cX5_move 23 = .ok (.getfield 125, 3) := by decide +kernel
theorem dX5_move_26 : decode cX5_move 26 = .ok (.invokestatic 62, 3) := by decide +kernel
theorem dX5_move_29 : decode cX5_move 29 = .ok (.new 83, 3) := by decide +kernel
theorem dX5_move_32 : decode cX5_move 32 = .ok (.dup, 1) := by decide +kernel
theorem dX5_move_33 : decode cX5_move 33 = .ok (.iload_n 3, 1) := by decide +kernel
theorem dX5_move_34 : decode cX5_move 34 = .ok (.iload 4, 2) := by decide +kernel
theorem dX5_move_36 : decode cX5_move 36 = .ok (.aload 6, 2) := by decide +kernel
theorem dX5_move_38 : decode cX5_move 38 = .ok (.getfield 108, 3) := by decide +kernel
theorem dX5_move_41 : decode cX5_move 41 = .ok (.getfield 125, 3) := by decide +kernel
theorem dX5_move_44 : decode cX5_move 44 = .ok (.invokespecial 85, 3) := by decide +kernel
theorem dX5_move_47 : decode cX5_move 47 = .ok (.astore 7, 2) := by decide +kernel
theorem dX5_move_49 : decode cX5_move 49 = .ok (.aload_n 0, 1) := by decide +kernel
theorem dX5_move_50 : decode cX5_move 50 = .ok (.aload 5, 2) := by decide +kernel
theorem dX5_move_52 : decode cX5_move 52 = .ok (.aload 7, 2) := by decide +kernel
theorem dX5_move_54 : decode cX5_move 54 = .ok (.aload 6, 2) := by decide +kernel
theorem dX5_move_56 : decode cX5_move 56 = .ok (.invokevirtual 182, 3) := by decide +kernel
theorem dX5_move_59 : decode cX5_move 59 = .ok (.aload_n 0, 1) := by decide +kernel
theorem dX5_move_60 : decode cX5_move 60 = .ok (.aload 5, 2) := by decide +kernel
theorem dX5_move_62 : decode cX5_move 62 = .ok (.iload_n 2, 1) := by decide +kernel
theorem dX5_move_63 : decode cX5_move 63 = .ok (.aload 7, 2) := by decide +kernel
theorem dX5_move_65 : decode cX5_move 65 = .ok (.aload 6, 2) := by decide +kernel
theorem dX5_move_67 : decode cX5_move 67 = .ok (.invokevirtual 186, 3) := by decide +kernel
theorem dX5_move_70 : decode cX5_move 70 = .ok (.astore 8, 2) := by decide +kernel
theorem dX5_move_72 : decode cX5_move 72 = .ok (.aload_n 0, 1) := by decide +kernel
theorem dX5_move_73 : decode cX5_move 73 = .ok (.aload 6, 2) := by decide +kernel
theorem dX5_move_75 : decode cX5_move 75 = .ok (.invokevirtual 135, 3) := by decide +kernel
theorem dX5_move_78 : decode cX5_move 78 = .ok (.aload 6, 2) := by decide +kernel
theorem dX5_move_80 : decode cX5_move 80 = .ok (.aload 7, 2) := by decide +kernel
theorem dX5_move_82 : decode cX5_move 82 = .ok (.putfield 108, 3) := by decide +kernel
theorem dX5_move_85 : decode cX5_move 85 = .ok (.aload 6, 2) := by decide +kernel
theorem dX5_move_87 : decode cX5_move 87 = .ok (.aload 8, 2) := by decide +kernel
theorem dX5_move_89 : decode cX5_move 89 = .ok (.putfield 190, 3) := by decide +kernel
theorem dX5_move_92 : decode cX5_move 92 = .ok (.aload 6, 2) := by decide +kernel
theorem dX5_move_94 : decode cX5_move 94 = .ok (.iconst 0, 1) := by decide +kernel
theorem dX5_move_95 : decode cX5_move 95 = .ok (.putfield 175, 3) := by decide +kernel
theorem dX5_move_98 : decode cX5_move 98 = .ok (.aload_n 0, 1) := by decide +kernel
theorem dX5_move_99 : decode cX5_move 99 = .ok (.aload 6, 2) := by decide +kernel
theorem dX5_move_101 : decode cX5_move 101 = .ok (.invokevirtual 194, 3) := by decide +kernel
theorem dX5_move_104 : decode cX5_move 104 = .ok (.aload 8, 2) := by decide +kernel
theorem dX5_move_106 : decode cX5_move 106 = .ok (.getfield 197, 3) := by decide +kernel
theorem dX5_move_109 : decode cX5_move 109 = .ok (.ireturn, 1) := by decide +kernel
theorem dX5_meetingCount_0 : decode cX5_meetingCount 0 = .ok (.aload_n 0, 1) := by decide +kernel
theorem dX5_meetingCount_1 : decode cX5_meetingCount 1 = .ok (.getfield 28, 3) := by decide +kernel
theorem dX5_meetingCount_4 : decode cX5_meetingCount 4 = .ok (.invokevirtual 65, 3) := by decide +kernel
theorem dX5_meetingCount_7 : decode cX5_meetingCount 7 = .ok (.ireturn, 1) := by decide +kernel
theorem dX5_meetingAt_0 : decode cX5_meetingAt 0 = .ok (.iload_n 1, 1) := by decide +kernel
theorem dX5_meetingAt_1 : decode cX5_meetingAt 1 = .ok (.ifCond .lt 14, 3) := by decide +kernel
theorem dX5_meetingAt_4 : decode cX5_meetingAt 4 = .ok (.iload_n 1, 1) := by decide +kernel
theorem dX5_meetingAt_5 : decode cX5_meetingAt 5 = .ok (.aload_n 0, 1) := by decide +kernel
theorem dX5_meetingAt_6 : decode cX5_meetingAt 6 = .ok (.getfield 28, 3) := by decide +kernel
theorem dX5_meetingAt_9 : decode cX5_meetingAt 9 = .ok (.invokevirtual 65, 3) := by decide +kernel
theorem dX5_meetingAt_12 : decode cX5_meetingAt 12 = .ok (.if_icmp .lt 13, 3) := by decide +kernel
theorem dX5_meetingAt_15 : decode cX5_meetingAt 15 = .ok (.new 198, 3) := by decide +kernel
theorem dX5_meetingAt_18 : decode cX5_meetingAt 18 = .ok (.dup, 1) := by decide +kernel
theorem dX5_meetingAt_19 : decode cX5_meetingAt 19 = .ok (.ldc 200, 2) := by decide +kernel
theorem dX5_meetingAt_21 : decode cX5_meetingAt 21 = .ok (.invokespecial 202, 3) := by decide +kernel
theorem dX5_meetingAt_24 : decode cX5_meetingAt 24 = .ok (.athrow, 1) := by decide +kernel
theorem dX5_meetingAt_25 : decode cX5_meetingAt 25 = .ok (.aload_n 0, 1) := by decide +kernel
theorem dX5_meetingAt_26 : decode cX5_meetingAt 26 = .ok (.getfield 28, 3) := by decide +kernel
theorem dX5_meetingAt_29 : decode cX5_meetingAt 29 = .ok (.iload_n 1, 1) := by decide +kernel
theorem dX5_meetingAt_30 : decode cX5_meetingAt 30 = .ok (.invokevirtual 131, 3) := by decide +kernel
theorem dX5_meetingAt_33 : decode cX5_meetingAt 33 = .ok (.checkcast 76, 3) := by decide +kernel
theorem dX5_meetingAt_36 : decode cX5_meetingAt 36 = .ok (.getfield 94, 3) := by decide +kernel
theorem dX5_meetingAt_39 : decode cX5_meetingAt 39 = .ok (.ireturn, 1) := by decide +kernel
theorem dX5_hostOf_0 : decode cX5_hostOf 0 = .ok (.aload_n 0, 1) := by decide +kernel
theorem dX5_hostOf_1 : decode cX5_hostOf 1 = .ok (.iload_n 1, 1) := by decide +kernel
theorem dX5_hostOf_2 : decode cX5_hostOf 2 = .ok (.invokevirtual 97, 3) := by decide +kernel
theorem dX5_hostOf_5 : decode cX5_hostOf 5 = .ok (.getfield 203, 3) := by decide +kernel
theorem dX5_hostOf_8 : decode cX5_hostOf 8 = .ok (.ireturn, 1) := by decide +kernel
theorem dX5_answerOf_0 : decode cX5_answerOf 0 = .ok (.aload_n 0, 1) := by decide +kernel
theorem dX5_answerOf_1 : decode cX5_answerOf 1 = .ok (.iload_n 1, 1) := by decide +kernel
theorem dX5_answerOf_2 : decode cX5_answerOf 2 = .ok (.invokevirtual 97, 3) := by decide +kernel
theorem dX5_answerOf_5 : decode cX5_answerOf 5 = .ok (.astore_n 3, 1) := by decide +kernel
theorem dX5_answerOf_6 : decode cX5_answerOf 6 = .ok (.iload_n 2, 1) := by decide +kernel
theorem dX5_answerOf_7 : decode cX5_answerOf 7 = .ok (.invokestatic 58, 3) := by decide +kernel
theorem dX5_answerOf_10 : decode cX5_answerOf 10 = .ok (.aload_n 3, 1) := by decide +kernel
theorem dX5_answerOf_11 : decode cX5_answerOf 11 = .ok (.iload_n 2, 1) := by decide +kernel
theorem dX5_answerOf_12 : decode cX5_answerOf 12 = .ok (.invokevirtual 156, 3) := by decide +kernel
theorem dX5_answerOf_15 : decode cX5_answerOf 15 = .ok (.ireturn, 1) := by decide +kernel
theorem dX5_expected_0 : decode cX5_expected 0 = .ok (.aload_n 0, 1) := by decide +kernel
theorem dX5_expected_1 : decode cX5_expected 1 = .ok (.iload_n 1, 1) := by decide +kernel
theorem dX5_expected_2 : decode cX5_expected 2 = .ok (.invokevirtual 97, 3) := by decide +kernel
theorem dX5_expected_5 : decode cX5_expected 5 = .ok (.invokevirtual 206, 3) := by decide +kernel
theorem dX5_expected_8 : decode cX5_expected 8 = .ok (.ireturn, 1) := by decide +kernel
theorem dX5_dateCount_0 : decode cX5_dateCount 0 = .ok (.aload_n 0, 1) := by decide +kernel
theorem dX5_dateCount_1 : decode cX5_dateCount 1 = .ok (.iload_n 1, 1) := by decide +kernel
theorem dX5_dateCount_2 : decode cX5_dateCount 2 = .ok (.invokevirtual 97, 3) := by decide +kernel
theorem dX5_dateCount_5 : decode cX5_dateCount 5 = .ok (.getfield 101, 3) := by decide +kernel
theorem dX5_dateCount_8 : decode cX5_dateCount 8 = .ok (.invokevirtual 65, 3) := by decide +kernel
theorem dX5_dateCount_11 : decode cX5_dateCount 11 = .ok (.ireturn, 1) := by decide +kernel
theorem dX5_dayOf_0 : decode cX5_dayOf 0 = .ok (.aload_n 0, 1) := by decide +kernel
theorem dX5_dayOf_1 : decode cX5_dayOf 1 = .ok (.iload_n 1, 1) := by decide +kernel
theorem dX5_dayOf_2 : decode cX5_dayOf 2 = .ok (.invokevirtual 97, 3) := by decide +kernel
theorem dX5_dayOf_5 : decode cX5_dayOf 5 = .ok (.iload_n 2, 1) := by decide +kernel
theorem dX5_dayOf_6 : decode cX5_dayOf 6 = .ok (.invokestatic 104, 3) := by decide +kernel
theorem dX5_dayOf_9 : decode cX5_dayOf 9 = .ok (.getfield 108, 3) := by decide +kernel
theorem dX5_dayOf_12 : decode cX5_dayOf 12 = .ok (.getfield 114, 3) := by decide +kernel
theorem dX5_dayOf_15 : decode cX5_dayOf 15 = .ok (.ireturn, 1) := by decide +kernel
theorem dX5_timeOf_0 : decode cX5_timeOf 0 = .ok (.aload_n 0, 1) := by decide +kernel
theorem dX5_timeOf_1 : decode cX5_timeOf 1 = .ok (.iload_n 1, 1) := by decide +kernel
theorem dX5_timeOf_2 : decode cX5_timeOf 2 = .ok (.invokevirtual 97, 3) := by decide +kernel
theorem dX5_timeOf_5 : decode cX5_timeOf 5 = .ok (.iload_n 2, 1) := by decide +kernel
theorem dX5_timeOf_6 : decode cX5_timeOf 6 = .ok (.invokestatic 104, 3) := by decide +kernel
theorem dX5_timeOf_9 : decode cX5_timeOf 9 = .ok (.getfield 108, 3) := by decide +kernel
theorem dX5_timeOf_12 : decode cX5_timeOf 12 = .ok (.getfield 122, 3) := by decide +kernel
theorem dX5_timeOf_15 : decode cX5_timeOf 15 = .ok (.ireturn, 1) := by decide +kernel
theorem dX5_isCancelled_0 : decode cX5_isCancelled 0 = .ok (.aload_n 0, 1) := by decide +kernel
theorem dX5_isCancelled_1 : decode cX5_isCancelled 1 = .ok (.iload_n 1, 1) := by decide +kernel
theorem dX5_isCancelled_2 : decode cX5_isCancelled 2 = .ok (.invokevirtual 97, 3) := by decide +kernel
theorem dX5_isCancelled_5 : decode cX5_isCancelled 5 = .ok (.iload_n 2, 1) := by decide +kernel
theorem dX5_isCancelled_6 : decode cX5_isCancelled 6 = .ok (.invokestatic 104, 3) := by decide +kernel
theorem dX5_isCancelled_9 : decode cX5_isCancelled 9 = .ok (.getfield 175, 3) := by decide +kernel
theorem dX5_isCancelled_12 : decode cX5_isCancelled 12 = .ok (.ireturn, 1) := by decide +kernel
theorem dX5_roomOf_0 : decode cX5_roomOf 0 = .ok (.aload_n 0, 1) := by decide +kernel
theorem dX5_roomOf_1 : decode cX5_roomOf 1 = .ok (.iload_n 1, 1) := by decide +kernel
theorem dX5_roomOf_2 : decode cX5_roomOf 2 = .ok (.invokevirtual 97, 3) := by decide +kernel
theorem dX5_roomOf_5 : decode cX5_roomOf 5 = .ok (.iload_n 2, 1) := by decide +kernel
theorem dX5_roomOf_6 : decode cX5_roomOf 6 = .ok (.invokestatic 172, 3) := by decide +kernel
theorem dX5_roomOf_9 : decode cX5_roomOf 9 = .ok (.getfield 190, 3) := by decide +kernel
theorem dX5_roomOf_12 : decode cX5_roomOf 12 = .ok (.getfield 197, 3) := by decide +kernel
theorem dX5_roomOf_15 : decode cX5_roomOf 15 = .ok (.ireturn, 1) := by decide +kernel
theorem dX5_refusalReason_0 : decode cX5_refusalReason 0 = .ok (.aload_n 0, 1) := by decide +kernel
theorem dX5_refusalReason_1 : decode cX5_refusalReason 1 = .ok (.invokevirtual 209, 3) := by decide +kernel
theorem dX5_refusalReason_4 : decode cX5_refusalReason 4 = .ok (.aload_n 0, 1) := by decide +kernel
theorem dX5_refusalReason_5 : decode cX5_refusalReason 5 = .ok (.getfield 39, 3) := by decide +kernel
theorem dX5_refusalReason_8 : decode cX5_refusalReason 8 = .ok (.ireturn, 1) := by decide +kernel
theorem dX5_refusalDetail_0 : decode cX5_refusalDetail 0 = .ok (.aload_n 0, 1) := by decide +kernel
theorem dX5_refusalDetail_1 : decode cX5_refusalDetail 1 = .ok (.invokevirtual 209, 3) := by decide +kernel
theorem dX5_refusalDetail_4 : decode cX5_refusalDetail 4 = .ok (.aload_n 0, 1) := by decide +kernel
theorem dX5_refusalDetail_5 : decode cX5_refusalDetail 5 = .ok (.getfield 42, 3) := by decide +kernel
theorem dX5_refusalDetail_8 : decode cX5_refusalDetail 8 = .ok (.ireturn, 1) := by decide +kernel
theorem dX5_isFree_0 : decode cX5_isFree 0 = .ok (.iload_n 1, 1) := by decide +kernel
theorem dX5_isFree_1 : decode cX5_isFree 1 = .ok (.invokestatic 58, 3) := by decide +kernel
theorem dX5_isFree_4 : decode cX5_isFree 4 = .ok (.iload_n 2, 1) := by decide +kernel
theorem dX5_isFree_5 : decode cX5_isFree 5 = .ok (.iload_n 3, 1) := by decide +kernel
theorem dX5_isFree_6 : decode cX5_isFree 6 = .ok (.iconst 1, 1) := by decide +kernel
theorem dX5_isFree_7 : decode cX5_isFree 7 = .ok (.invokestatic 62, 3) := by decide +kernel
theorem dX5_isFree_10 : decode cX5_isFree 10 = .ok (.aload_n 0, 1) := by decide +kernel
theorem dX5_isFree_11 : decode cX5_isFree 11 = .ok (.iload_n 1, 1) := by decide +kernel
theorem dX5_isFree_12 : decode cX5_isFree 12 = .ok (.iload_n 2, 1) := by decide +kernel
theorem dX5_isFree_13 : decode cX5_isFree 13 = .ok (.iload_n 3, 1) := by decide +kernel
theorem dX5_isFree_14 : decode cX5_isFree 14 = .ok (.invokevirtual 212, 3) := by decide +kernel
theorem dX5_isFree_17 : decode cX5_isFree 17 = .ok (.ifnonnull 7, 3) := by decide +kernel
theorem dX5_isFree_20 : decode cX5_isFree 20 = .ok (.iconst 1, 1) := by decide +kernel
theorem dX5_isFree_21 : decode cX5_isFree 21 = .ok (.goto 4, 3) := by decide +kernel
theorem dX5_isFree_24 : decode cX5_isFree 24 = .ok (.iconst 0, 1) := by decide +kernel
theorem dX5_isFree_25 : decode cX5_isFree 25 = .ok (.ireturn, 1) := by decide +kernel
theorem dX5_meetingOf_0 : decode cX5_meetingOf 0 = .ok (.iload_n 1, 1) := by decide +kernel
theorem dX5_meetingOf_1 : decode cX5_meetingOf 1 = .ok (.invokestatic 58, 3) := by decide +kernel
theorem dX5_meetingOf_4 : decode cX5_meetingOf 4 = .ok (.iload_n 2, 1) := by decide +kernel
theorem dX5_meetingOf_5 : decode cX5_meetingOf 5 = .ok (.iload_n 3, 1) := by decide +kernel
theorem dX5_meetingOf_6 : decode cX5_meetingOf 6 = .ok (.iconst 1, 1) := by decide +kernel
theorem dX5_meetingOf_7 : decode cX5_meetingOf 7 = .ok (.invokestatic 62, 3) := by decide +kernel
theorem dX5_meetingOf_10 : decode cX5_meetingOf 10 = .ok (.aload_n 0, 1) := by decide +kernel
theorem dX5_meetingOf_11 : decode cX5_meetingOf 11 = .ok (.iload_n 1, 1) := by decide +kernel
theorem dX5_meetingOf_12 : decode cX5_meetingOf 12 = .ok (.iload_n 2, 1) := by decide +kernel
theorem dX5_meetingOf_13 : decode cX5_meetingOf 13 = .ok (.iload_n 3, 1) := by decide +kernel
theorem dX5_meetingOf_14 : decode cX5_meetingOf 14 = .ok (.invokevirtual 212, 3) := by decide +kernel
theorem dX5_meetingOf_17 : decode cX5_meetingOf 17 = .ok (.astore 4, 2) := by decide +kernel
theorem dX5_meetingOf_19 : decode cX5_meetingOf 19 = .ok (.aload 4, 2) := by decide +kernel
theorem dX5_meetingOf_21 : decode cX5_meetingOf 21 = .ok (.ifnonnull 13, 3) := by decide +kernel
theorem dX5_meetingOf_24 : decode cX5_meetingOf 24 = .ok (.new 198, 3) := by decide +kernel
theorem dX5_meetingOf_27 : decode cX5_meetingOf 27 = .ok (.dup, 1) := by decide +kernel
theorem dX5_meetingOf_28 : decode cX5_meetingOf 28 = .ok (.ldc 216, 2) := by decide +kernel
theorem dX5_meetingOf_30 : decode cX5_meetingOf 30 = .ok (.invokespecial 202, 3) := by decide +kernel
theorem dX5_meetingOf_33 : decode cX5_meetingOf 33 = .ok (.athrow, 1) := by decide +kernel
theorem dX5_meetingOf_34 : decode cX5_meetingOf 34 = .ok (.aload 4, 2) := by decide +kernel
theorem dX5_meetingOf_36 : decode cX5_meetingOf 36 = .ok (.getfield 218, 3) := by decide +kernel
theorem dX5_meetingOf_39 : decode cX5_meetingOf 39 = .ok (.getfield 94, 3) := by decide +kernel
theorem dX5_meetingOf_42 : decode cX5_meetingOf 42 = .ok (.ireturn, 1) := by decide +kernel
theorem dX5_freeTimes_0 : decode cX5_freeTimes 0 = .ok (.iload_n 1, 1) := by decide +kernel
theorem dX5_freeTimes_1 : decode cX5_freeTimes 1 = .ok (.invokestatic 58, 3) := by decide +kernel
theorem dX5_freeTimes_4 : decode cX5_freeTimes 4 = .ok (.iload_n 2, 1) := by decide +kernel
theorem dX5_freeTimes_5 : decode cX5_freeTimes 5 = .ok (.invokestatic 117, 3) := by decide +kernel
theorem dX5_freeTimes_8 : decode cX5_freeTimes 8 = .ok (.aload_n 0, 1) := by decide +kernel
theorem dX5_freeTimes_9 : decode cX5_freeTimes 9 = .ok (.iload_n 1, 1) := by decide +kernel
theorem dX5_freeTimes_10 : decode cX5_freeTimes 10 = .ok (.iload_n 2, 1) := by decide +kernel
theorem dX5_freeTimes_11 : decode cX5_freeTimes 11 = .ok (.invokevirtual 222, 3) := by decide +kernel
theorem dX5_freeTimes_14 : decode cX5_freeTimes 14 = .ok (.ireturn, 1) := by decide +kernel
theorem dX5_freeByTrying_0 : decode cX5_freeByTrying 0 = .ok (.iload_n 1, 1) := by decide +kernel
theorem dX5_freeByTrying_1 : decode cX5_freeByTrying 1 = .ok (.invokestatic 58, 3) := by decide +kernel
theorem dX5_freeByTrying_4 : decode cX5_freeByTrying 4 = .ok (.iload_n 2, 1) := by decide +kernel
theorem dX5_freeByTrying_5 : decode cX5_freeByTrying 5 = .ok (.invokestatic 117, 3) := by decide +kernel
theorem dX5_freeByTrying_8 : decode cX5_freeByTrying 8 = .ok (.aload_n 0, 1) := by decide +kernel
theorem dX5_freeByTrying_9 : decode cX5_freeByTrying 9 = .ok (.iload_n 1, 1) := by decide +kernel
theorem dX5_freeByTrying_10 : decode cX5_freeByTrying 10 = .ok (.iload_n 2, 1) := by decide +kernel
theorem dX5_freeByTrying_11 : decode cX5_freeByTrying 11 = .ok (.invokevirtual 226, 3) := by decide +kernel
theorem dX5_freeByTrying_14 : decode cX5_freeByTrying 14 = .ok (.ireturn, 1) := by decide +kernel
theorem dX5_longestFree_0 : decode cX5_longestFree 0 = .ok (.iload_n 1, 1) := by decide +kernel
theorem dX5_longestFree_1 : decode cX5_longestFree 1 = .ok (.invokestatic 58, 3) := by decide +kernel
theorem dX5_longestFree_4 : decode cX5_longestFree 4 = .ok (.iload_n 2, 1) := by decide +kernel
theorem dX5_longestFree_5 : decode cX5_longestFree 5 = .ok (.invokestatic 117, 3) := by decide +kernel
theorem dX5_longestFree_8 : decode cX5_longestFree 8 = .ok (.iconst 0, 1) := by decide +kernel
theorem dX5_longestFree_9 : decode cX5_longestFree 9 = .ok (.istore_n 3, 1) := by decide +kernel
theorem dX5_longestFree_10 : decode cX5_longestFree 10 = .ok (.iconst 0, 1) := by decide +kernel
theorem dX5_longestFree_11 : decode cX5_longestFree 11 = .ok (.istore 4, 2) := by decide +kernel
theorem dX5_longestFree_13 : decode cX5_longestFree 13 = .ok (.iconst 0, 1) := by decide +kernel
theorem dX5_longestFree_14 : decode cX5_longestFree 14 = .ok (.istore 5, 2) := by decide +kernel
theorem dX5_longestFree_16 : decode cX5_longestFree 16 = .ok (.iload 5, 2) := by decide +kernel
theorem dX5_longestFree_18 : decode cX5_longestFree 18 = .ok (.bipush 16, 2) := by decide +kernel
theorem dX5_longestFree_20 : decode cX5_longestFree 20 = .ok (.if_icmp .ge 37, 3) := by decide +kernel
theorem dX5_longestFree_23 : decode cX5_longestFree 23 = .ok (.aload_n 0, 1) := by decide +kernel
theorem dX5_longestFree_24 : decode cX5_longestFree 24 = .ok (.iload_n 1, 1) := by decide +kernel
theorem dX5_longestFree_25 : decode cX5_longestFree 25 = .ok (.iload_n 2, 1) := by decide +kernel
theorem dX5_longestFree_26 : decode cX5_longestFree 26 = .ok (.iload 5, 2) := by decide +kernel
theorem dX5_longestFree_28 : decode cX5_longestFree 28 = .ok (.invokevirtual 212, 3) := by decide +kernel
theorem dX5_longestFree_31 : decode cX5_longestFree 31 = .ok (.ifnonnull 10, 3) := by decide +kernel
theorem dX5_longestFree_34 : decode cX5_longestFree 34 = .ok (.iload 4, 2) := by decide +kernel
theorem dX5_longestFree_36 : decode cX5_longestFree 36 = .ok (.iconst 1, 1) := by decide +kernel
theorem dX5_longestFree_37 : decode cX5_longestFree 37 = .ok (.iadd, 1) := by decide +kernel
theorem dX5_longestFree_38 : decode cX5_longestFree 38 = .ok (.goto 4, 3) := by decide +kernel
theorem dX5_longestFree_41 : decode cX5_longestFree 41 = .ok (.iconst 0, 1) := by decide +kernel
theorem dX5_longestFree_42 : decode cX5_longestFree 42 = .ok (.istore 4, 2) := by decide +kernel
theorem dX5_longestFree_44 : decode cX5_longestFree 44 = .ok (.iload_n 3, 1) := by decide +kernel
theorem dX5_longestFree_45 : decode cX5_longestFree 45 = .ok (.iload 4, 2) := by decide +kernel
theorem dX5_longestFree_47 : decode cX5_longestFree 47 = .ok (.invokestatic 229, 3) := by decide +kernel
theorem dX5_longestFree_50 : decode cX5_longestFree 50 = .ok (.istore_n 3, 1) := by decide +kernel
theorem dX5_longestFree_51 : decode cX5_longestFree 51 = .ok (.iinc 5 1, 3) := by decide +kernel
theorem dX5_longestFree_54 : decode cX5_longestFree 54 = .ok (.goto (-38), 3) := by decide +kernel
theorem dX5_longestFree_57 : decode cX5_longestFree 57 = .ok (.iload_n 3, 1) := by decide +kernel
theorem dX5_longestFree_58 : decode cX5_longestFree 58 = .ok (.ireturn, 1) := by decide +kernel
theorem dX5_firstCommon_0 : decode cX5_firstCommon 0 = .ok (.iload_n 1, 1) := by decide +kernel
theorem dX5_firstCommon_1 : decode cX5_firstCommon 1 = .ok (.iconst 1, 1) := by decide +kernel
theorem dX5_firstCommon_2 : decode cX5_firstCommon 2 = .ok (.bipush 63, 2) := by decide +kernel
theorem dX5_firstCommon_4 : decode cX5_firstCommon 4 = .ok (.invokestatic 49, 3) := by decide +kernel
theorem dX5_firstCommon_7 : decode cX5_firstCommon 7 = .ok (.iload_n 3, 1) := by decide +kernel
theorem dX5_firstCommon_8 : decode cX5_firstCommon 8 = .ok (.iconst 0, 1) := by decide +kernel
theorem dX5_firstCommon_9 : decode cX5_firstCommon 9 = .ok (.iload_n 2, 1) := by decide +kernel
theorem dX5_firstCommon_10 : decode cX5_firstCommon 10 = .ok (.invokestatic 62, 3) := by decide +kernel
theorem dX5_firstCommon_13 : decode cX5_firstCommon 13 = .ok (.new 83, 3) := by decide +kernel
theorem dX5_firstCommon_16 : decode cX5_firstCommon 16 = .ok (.dup, 1) := by decide +kernel
theorem dX5_firstCommon_17 : decode cX5_firstCommon 17 = .ok (.iload_n 3, 1) := by decide +kernel
theorem dX5_firstCommon_18 : decode cX5_firstCommon 18 = .ok (.iconst 0, 1) := by decide +kernel
theorem dX5_firstCommon_19 : decode cX5_firstCommon 19 = .ok (.iload_n 2, 1) := by decide +kernel
theorem dX5_firstCommon_20 : decode cX5_firstCommon 20 = .ok (.invokespecial 85, 3) := by decide +kernel
theorem dX5_firstCommon_23 : decode cX5_firstCommon 23 = .ok (.astore 4, 2) := by decide +kernel
theorem dX5_firstCommon_25 : decode cX5_firstCommon 25 = .ok (.iload_n 3, 1) := by decide +kernel
theorem dX5_firstCommon_26 : decode cX5_firstCommon 26 = .ok (.istore 5, 2) := by decide +kernel
theorem dX5_firstCommon_28 : decode cX5_firstCommon 28 = .ok (.iload 5, 2) := by decide +kernel
theorem dX5_firstCommon_30 : decode cX5_firstCommon 30 = .ok (.bipush 28, 2) := by decide +kernel
theorem dX5_firstCommon_32 : decode cX5_firstCommon 32 = .ok (.if_icmp .ge 60, 3) := by decide +kernel
theorem dX5_firstCommon_35 : decode cX5_firstCommon 35 = .ok (.aload 4, 2) := by decide +kernel
theorem dX5_firstCommon_37 : decode cX5_firstCommon 37 = .ok (.iload 5, 2) := by decide +kernel
theorem dX5_firstCommon_39 : decode cX5_firstCommon 39 = .ok (.putfield 114, 3) := by decide +kernel
theorem dX5_firstCommon_42 : decode cX5_firstCommon 42 = .ok (.iconst 0, 1) := by decide +kernel
theorem dX5_firstCommon_43 : decode cX5_firstCommon 43 = .ok (.istore 6, 2) := by decide +kernel
theorem dX5_firstCommon_45 : decode cX5_firstCommon 45 = .ok (.iload 6, 2) := by decide +kernel
theorem dX5_firstCommon_47 : decode cX5_firstCommon 47 = .ok (.bipush 16, 2) := by decide +kernel
theorem dX5_firstCommon_49 : decode cX5_firstCommon 49 = .ok (.iload_n 2, 1) := by decide +kernel
theorem dX5_firstCommon_50 : decode cX5_firstCommon 50 = .ok (.isub, 1) := by decide +kernel
theorem dX5_firstCommon_51 : decode cX5_firstCommon 51 = .ok (.if_icmp .gt 35, 3) := by decide +kernel
theorem dX5_firstCommon_54 : decode cX5_firstCommon 54 = .ok (.aload 4, 2) := by decide +kernel
theorem dX5_firstCommon_56 : decode cX5_firstCommon 56 = .ok (.iload 6, 2) := by decide +kernel
theorem dX5_firstCommon_58 : decode cX5_firstCommon 58 = .ok (.putfield 122, 3) := by decide +kernel
theorem dX5_firstCommon_61 : decode cX5_firstCommon 61 = .ok (.aload_n 0, 1) := by decide +kernel
theorem dX5_firstCommon_62 : decode cX5_firstCommon 62 = .ok (.iload_n 1, 1) := by decide +kernel
theorem dX5_firstCommon_63 : decode cX5_firstCommon 63 = .ok (.aload 4, 2) := by decide +kernel
theorem dX5_firstCommon_65 : decode cX5_firstCommon 65 = .ok (.invokevirtual 234, 3) := by decide +kernel
theorem dX5_firstCommon_68 : decode cX5_firstCommon 68 = .ok (.ifnull 12, 3) := by decide +kernel
theorem dX5_firstCommon_71 : decode cX5_firstCommon 71 = .ok (.bipush 16, 2) := by decide +kernel
theorem dX5_firstCommon_73 : decode cX5_firstCommon 73 = .ok (.iload 5, 2) := by decide +kernel
theorem dX5_firstCommon_75 : decode cX5_firstCommon 75 = .ok (.imul, 1) := by decide +kernel
theorem dX5_firstCommon_76 : decode cX5_firstCommon 76 = .ok (.iload 6, 2) := by decide +kernel
theorem dX5_firstCommon_78 : decode cX5_firstCommon 78 = .ok (.iadd, 1) := by decide +kernel
theorem dX5_firstCommon_79 : decode cX5_firstCommon 79 = .ok (.ireturn, 1) := by decide +kernel
theorem dX5_firstCommon_80 : decode cX5_firstCommon 80 = .ok (.iinc 6 1, 3) := by decide +kernel
theorem dX5_firstCommon_83 : decode cX5_firstCommon 83 = .ok (.goto (-38), 3) := by decide +kernel
theorem dX5_firstCommon_86 : decode cX5_firstCommon 86 = .ok (.iinc 5 1, 3) := by decide +kernel
theorem dX5_firstCommon_89 : decode cX5_firstCommon 89 = .ok (.goto (-61), 3) := by decide +kernel
theorem dX5_firstCommon_92 : decode cX5_firstCommon 92 = .ok (.new 198, 3) := by decide +kernel
theorem dX5_firstCommon_95 : decode cX5_firstCommon 95 = .ok (.dup, 1) := by decide +kernel
theorem dX5_firstCommon_96 : decode cX5_firstCommon 96 = .ok (.ldc 238, 2) := by decide +kernel
theorem dX5_firstCommon_98 : decode cX5_firstCommon 98 = .ok (.invokespecial 202, 3) := by decide +kernel
theorem dX5_firstCommon_101 : decode cX5_firstCommon 101 = .ok (.athrow, 1) := by decide +kernel
theorem dX5_commonCount_0 : decode cX5_commonCount 0 = .ok (.iload_n 1, 1) := by decide +kernel
theorem dX5_commonCount_1 : decode cX5_commonCount 1 = .ok (.iconst 1, 1) := by decide +kernel
theorem dX5_commonCount_2 : decode cX5_commonCount 2 = .ok (.bipush 63, 2) := by decide +kernel
theorem dX5_commonCount_4 : decode cX5_commonCount 4 = .ok (.invokestatic 49, 3) := by decide +kernel
theorem dX5_commonCount_7 : decode cX5_commonCount 7 = .ok (.iload_n 3, 1) := by decide +kernel
theorem dX5_commonCount_8 : decode cX5_commonCount 8 = .ok (.iconst 0, 1) := by decide +kernel
theorem dX5_commonCount_9 : decode cX5_commonCount 9 = .ok (.iload_n 2, 1) := by decide +kernel
theorem dX5_commonCount_10 : decode cX5_commonCount 10 = .ok (.invokestatic 62, 3) := by decide +kernel
theorem dX5_commonCount_13 : decode cX5_commonCount 13 = .ok (.new 83, 3) := by decide +kernel
theorem dX5_commonCount_16 : decode cX5_commonCount 16 = .ok (.dup, 1) := by decide +kernel
theorem dX5_commonCount_17 : decode cX5_commonCount 17 = .ok (.iload_n 3, 1) := by decide +kernel
theorem dX5_commonCount_18 : decode cX5_commonCount 18 = .ok (.iconst 0, 1) := by decide +kernel
theorem dX5_commonCount_19 : decode cX5_commonCount 19 = .ok (.iload_n 2, 1) := by decide +kernel
theorem dX5_commonCount_20 : decode cX5_commonCount 20 = .ok (.invokespecial 85, 3) := by decide +kernel
theorem dX5_commonCount_23 : decode cX5_commonCount 23 = .ok (.astore 4, 2) := by decide +kernel
theorem dX5_commonCount_25 : decode cX5_commonCount 25 = .ok (.iconst 0, 1) := by decide +kernel
theorem dX5_commonCount_26 : decode cX5_commonCount 26 = .ok (.istore 5, 2) := by decide +kernel
theorem dX5_commonCount_28 : decode cX5_commonCount 28 = .ok (.iconst 0, 1) := by decide +kernel
theorem dX5_commonCount_29 : decode cX5_commonCount 29 = .ok (.istore 6, 2) := by decide +kernel
theorem dX5_commonCount_31 : decode cX5_commonCount 31 = .ok (.iload 6, 2) := by decide +kernel
theorem dX5_commonCount_33 : decode cX5_commonCount 33 = .ok (.bipush 16, 2) := by decide +kernel
theorem dX5_commonCount_35 : decode cX5_commonCount 35 = .ok (.iload_n 2, 1) := by decide +kernel
theorem dX5_commonCount_36 : decode cX5_commonCount 36 = .ok (.isub, 1) := by decide +kernel
theorem dX5_commonCount_37 : decode cX5_commonCount 37 = .ok (.if_icmp .gt 29, 3) := by decide +kernel
theorem dX5_commonCount_40 : decode cX5_commonCount 40 = .ok (.aload 4, 2) := by decide +kernel
theorem dX5_commonCount_42 : decode cX5_commonCount 42 = .ok (.iload 6, 2) := by decide +kernel
theorem dX5_commonCount_44 : decode cX5_commonCount 44 = .ok (.putfield 122, 3) := by decide +kernel
theorem dX5_commonCount_47 : decode cX5_commonCount 47 = .ok (.aload_n 0, 1) := by decide +kernel
theorem dX5_commonCount_48 : decode cX5_commonCount 48 = .ok (.iload_n 1, 1) := by decide +kernel
theorem dX5_commonCount_49 : decode cX5_commonCount 49 = .ok (.aload 4, 2) := by decide +kernel
theorem dX5_commonCount_51 : decode cX5_commonCount 51 = .ok (.invokevirtual 234, 3) := by decide +kernel
theorem dX5_commonCount_54 : decode cX5_commonCount 54 = .ok (.ifnull 6, 3) := by decide +kernel
theorem dX5_commonCount_57 : decode cX5_commonCount 57 = .ok (.iinc 5 1, 3) := by decide +kernel
theorem dX5_commonCount_60 : decode cX5_commonCount 60 = .ok (.iinc 6 1, 3) := by decide +kernel
theorem dX5_commonCount_63 : decode cX5_commonCount 63 = .ok (.goto (-32), 3) := by decide +kernel
theorem dX5_commonCount_66 : decode cX5_commonCount 66 = .ok (.iload 5, 2) := by decide +kernel
theorem dX5_commonCount_68 : decode cX5_commonCount 68 = .ok (.ireturn, 1) := by decide +kernel
theorem dX5_roomFor_0 : decode cX5_roomFor 0 = .ok (.iload_n 1, 1) := by decide +kernel
theorem dX5_roomFor_1 : decode cX5_roomFor 1 = .ok (.iconst 1, 1) := by decide +kernel
theorem dX5_roomFor_2 : decode cX5_roomFor 2 = .ok (.bipush 63, 2) := by decide +kernel
theorem dX5_roomFor_4 : decode cX5_roomFor 4 = .ok (.invokestatic 49, 3) := by decide +kernel
theorem dX5_roomFor_7 : decode cX5_roomFor 7 = .ok (.iload_n 3, 1) := by decide +kernel
theorem dX5_roomFor_8 : decode cX5_roomFor 8 = .ok (.iload 4, 2) := by decide +kernel
theorem dX5_roomFor_10 : decode cX5_roomFor 10 = .ok (.iload_n 2, 1) := by decide +kernel
theorem dX5_roomFor_11 : decode cX5_roomFor 11 = .ok (.invokestatic 62, 3) := by decide +kernel
theorem dX5_roomFor_14 : decode cX5_roomFor 14 = .ok (.aload_n 0, 1) := by decide +kernel
theorem dX5_roomFor_15 : decode cX5_roomFor 15 = .ok (.iload_n 1, 1) := by decide +kernel
theorem dX5_roomFor_16 : decode cX5_roomFor 16 = .ok (.new 83, 3) := by decide +kernel
theorem dX5_roomFor_19 : decode cX5_roomFor 19 = .ok (.dup, 1) := by decide +kernel
theorem dX5_roomFor_20 : decode cX5_roomFor 20 = .ok (.iload_n 3, 1) := by decide +kernel
theorem dX5_roomFor_21 : decode cX5_roomFor 21 = .ok (.iload 4, 2) := by decide +kernel
theorem dX5_roomFor_23 : decode cX5_roomFor 23 = .ok (.iload_n 2, 1) := by decide +kernel
theorem dX5_roomFor_24 : decode cX5_roomFor 24 = .ok (.invokespecial 85, 3) := by decide +kernel
theorem dX5_roomFor_27 : decode cX5_roomFor 27 = .ok (.invokevirtual 234, 3) := by decide +kernel
theorem dX5_roomFor_30 : decode cX5_roomFor 30 = .ok (.astore 5, 2) := by decide +kernel
theorem dX5_roomFor_32 : decode cX5_roomFor 32 = .ok (.aload 5, 2) := by decide +kernel
theorem dX5_roomFor_34 : decode cX5_roomFor 34 = .ok (.ifnonnull 13, 3) := by decide +kernel
theorem dX5_roomFor_37 : decode cX5_roomFor 37 = .ok (.new 198, 3) := by decide +kernel
theorem dX5_roomFor_40 : decode cX5_roomFor 40 = .ok (.dup, 1) := by decide +kernel
theorem dX5_roomFor_41 : decode cX5_roomFor 41 = .ok (.ldc 240, 2) := by decide +kernel
theorem dX5_roomFor_43 : decode cX5_roomFor 43 = .ok (.invokespecial 202, 3) := by decide +kernel
theorem dX5_roomFor_46 : decode cX5_roomFor 46 = .ok (.athrow, 1) := by decide +kernel
theorem dX5_roomFor_47 : decode cX5_roomFor 47 = .ok (.aload 5, 2) := by decide +kernel
theorem dX5_roomFor_49 : decode cX5_roomFor 49 = .ok (.getfield 197, 3) := by decide +kernel
theorem dX5_roomFor_52 : decode cX5_roomFor 52 = .ok (.ireturn, 1) := by decide +kernel
theorem dX5_usedTimes_0 : decode cX5_usedTimes 0 = .ok (.aload_n 0, 1) := by decide +kernel
theorem dX5_usedTimes_1 : decode cX5_usedTimes 1 = .ok (.iload_n 1, 1) := by decide +kernel
theorem dX5_usedTimes_2 : decode cX5_usedTimes 2 = .ok (.invokevirtual 45, 3) := by decide +kernel
theorem dX5_usedTimes_5 : decode cX5_usedTimes 5 = .ok (.astore_n 3, 1) := by decide +kernel
theorem dX5_usedTimes_6 : decode cX5_usedTimes 6 = .ok (.aload_n 0, 1) := by decide +kernel
theorem dX5_usedTimes_7 : decode cX5_usedTimes 7 = .ok (.iload_n 2, 1) := by decide +kernel
theorem dX5_usedTimes_8 : decode cX5_usedTimes 8 = .ok (.invokevirtual 242, 3) := by decide +kernel
theorem dX5_usedTimes_11 : decode cX5_usedTimes 11 = .ok (.getfield 246, 3) := by decide +kernel
theorem dX5_usedTimes_14 : decode cX5_usedTimes 14 = .ok (.astore 4, 2) := by decide +kernel
theorem dX5_usedTimes_16 : decode cX5_usedTimes 16 = .ok (.iconst 0, 1) := by decide +kernel
theorem dX5_usedTimes_17 : decode cX5_usedTimes 17 = .ok (.istore 5, 2) := by decide +kernel
theorem dX5_usedTimes_19 : decode cX5_usedTimes 19 = .ok (.iconst 0, 1) := by decide +kernel
theorem dX5_usedTimes_20 : decode cX5_usedTimes 20 = .ok (.istore 6, 2) := by decide +kernel
theorem dX5_usedTimes_22 : decode cX5_usedTimes 22 = .ok (.iload 6, 2) := by decide +kernel
theorem dX5_usedTimes_24 : decode cX5_usedTimes 24 = .ok (.aload 4, 2) := by decide +kernel
theorem dX5_usedTimes_26 : decode cX5_usedTimes 26 = .ok (.invokevirtual 65, 3) := by decide +kernel
theorem dX5_usedTimes_29 : decode cX5_usedTimes 29 = .ok (.if_icmp .ge 43, 3) := by decide +kernel
theorem dX5_usedTimes_32 : decode cX5_usedTimes 32 = .ok (.aload 4, 2) := by decide +kernel
theorem dX5_usedTimes_34 : decode cX5_usedTimes 34 = .ok (.iload 6, 2) := by decide +kernel
theorem dX5_usedTimes_36 : decode cX5_usedTimes 36 = .ok (.invokevirtual 131, 3) := by decide +kernel
theorem dX5_usedTimes_39 : decode cX5_usedTimes 39 = .ok (.checkcast 109, 3) := by decide +kernel
theorem dX5_usedTimes_42 : decode cX5_usedTimes 42 = .ok (.astore 7, 2) := by decide +kernel
theorem dX5_usedTimes_44 : decode cX5_usedTimes 44 = .ok (.aload 7, 2) := by decide +kernel
theorem dX5_usedTimes_46 : decode cX5_usedTimes 46 = .ok (.getfield 190, 3) := by decide +kernel
theorem dX5_usedTimes_49 : decode cX5_usedTimes 49 = .ok (.aload_n 3, 1) := by decide +kernel
theorem dX5_usedTimes_50 : decode cX5_usedTimes 50 = .ok (.if_acmp .ne 16, 3) := by decide +kernel
theorem dX5_usedTimes_53 : decode cX5_usedTimes 53 = .ok (.iload 5, 2) := by decide +kernel
theorem dX5_usedTimes_55 : decode cX5_usedTimes 55 = .ok (.aload 7, 2) := by decide +kernel
theorem dX5_usedTimes_57 : decode cX5_usedTimes 57 = .ok (.getfield 108, 3) := by decide +kernel
theorem dX5_usedTimes_60 : decode cX5_usedTimes 60 = .ok (.getfield 125, 3) := by decide +kernel
theorem dX5_usedTimes_63 : decode cX5_usedTimes 63 = .ok (.iadd, 1) := by decide +kernel
theorem dX5_usedTimes_64 : decode cX5_usedTimes 64 = .ok (.istore 5, 2) := by decide +kernel
theorem dX5_usedTimes_66 : decode cX5_usedTimes 66 = .ok (.iinc 6 1, 3) := by decide +kernel
theorem dX5_usedTimes_69 : decode cX5_usedTimes 69 = .ok (.goto (-47), 3) := by decide +kernel
theorem dX5_usedTimes_72 : decode cX5_usedTimes 72 = .ok (.iload 5, 2) := by decide +kernel
theorem dX5_usedTimes_74 : decode cX5_usedTimes 74 = .ok (.ireturn, 1) := by decide +kernel
theorem dX5_walks_0 : decode cX5_walks 0 = .ok (.iload_n 1, 1) := by decide +kernel
theorem dX5_walks_1 : decode cX5_walks 1 = .ok (.invokestatic 58, 3) := by decide +kernel
theorem dX5_walks_4 : decode cX5_walks 4 = .ok (.aload_n 0, 1) := by decide +kernel
theorem dX5_walks_5 : decode cX5_walks 5 = .ok (.iload_n 2, 1) := by decide +kernel
theorem dX5_walks_6 : decode cX5_walks 6 = .ok (.invokevirtual 242, 3) := by decide +kernel
theorem dX5_walks_9 : decode cX5_walks 9 = .ok (.getfield 246, 3) := by decide +kernel
theorem dX5_walks_12 : decode cX5_walks 12 = .ok (.astore_n 3, 1) := by decide +kernel
theorem dX5_walks_13 : decode cX5_walks 13 = .ok (.iconst 0, 1) := by decide +kernel
theorem dX5_walks_14 : decode cX5_walks 14 = .ok (.istore 4, 2) := by decide +kernel
theorem dX5_walks_16 : decode cX5_walks 16 = .ok (.aconst_null, 1) := by decide +kernel
theorem dX5_walks_17 : decode cX5_walks 17 = .ok (.astore 5, 2) := by decide +kernel
theorem dX5_walks_19 : decode cX5_walks 19 = .ok (.iconst 0, 1) := by decide +kernel
theorem dX5_walks_20 : decode cX5_walks 20 = .ok (.istore 6, 2) := by decide +kernel
theorem dX5_walks_22 : decode cX5_walks 22 = .ok (.iload 6, 2) := by decide +kernel
theorem dX5_walks_24 : decode cX5_walks 24 = .ok (.aload_n 3, 1) := by decide +kernel
theorem dX5_walks_25 : decode cX5_walks 25 = .ok (.invokevirtual 65, 3) := by decide +kernel
theorem dX5_walks_28 : decode cX5_walks 28 = .ok (.if_icmp .ge 63, 3) := by decide +kernel
theorem dX5_walks_31 : decode cX5_walks 31 = .ok (.aload_n 3, 1) := by decide +kernel
theorem dX5_walks_32 : decode cX5_walks 32 = .ok (.iload 6, 2) := by decide +kernel
theorem dX5_walks_34 : decode cX5_walks 34 = .ok (.invokevirtual 131, 3) := by decide +kernel
theorem dX5_walks_37 : decode cX5_walks 37 = .ok (.checkcast 109, 3) := by decide +kernel
theorem dX5_walks_40 : decode cX5_walks 40 = .ok (.astore 7, 2) := by decide +kernel
theorem dX5_walks_42 : decode cX5_walks 42 = .ok (.aload 7, 2) := by decide +kernel
theorem dX5_walks_44 : decode cX5_walks 44 = .ok (.getfield 218, 3) := by decide +kernel
theorem dX5_walks_47 : decode cX5_walks 47 = .ok (.iload_n 1, 1) := by decide +kernel
theorem dX5_walks_48 : decode cX5_walks 48 = .ok (.invokevirtual 247, 3) := by decide +kernel
theorem dX5_walks_51 : decode cX5_walks 51 = .ok (.ifCond .eq 34, 3) := by decide +kernel
theorem dX5_walks_54 : decode cX5_walks 54 = .ok (.aload 5, 2) := by decide +kernel
theorem dX5_walks_56 : decode cX5_walks 56 = .ok (.ifnull 25, 3) := by decide +kernel
theorem dX5_walks_59 : decode cX5_walks 59 = .ok (.aload 5, 2) := by decide +kernel
theorem dX5_walks_61 : decode cX5_walks 61 = .ok (.getfield 190, 3) := by decide +kernel
theorem dX5_walks_64 : decode cX5_walks 64 = .ok (.getfield 55, 3) := by decide +kernel
theorem dX5_walks_67 : decode cX5_walks 67 = .ok (.aload 7, 2) := by decide +kernel
theorem dX5_walks_69 : decode cX5_walks 69 = .ok (.getfield 190, 3) := by decide +kernel
theorem dX5_walks_72 : decode cX5_walks 72 = .ok (.getfield 55, 3) := by decide +kernel
theorem dX5_walks_75 : decode cX5_walks 75 = .ok (.if_icmp .eq 6, 3) := by decide +kernel
theorem dX5_walks_78 : decode cX5_walks 78 = .ok (.iinc 4 1, 3) := by decide +kernel
theorem dX5_walks_81 : decode cX5_walks 81 = .ok (.aload 7, 2) := by decide +kernel
theorem dX5_walks_83 : decode cX5_walks 83 = .ok (.astore 5, 2) := by decide +kernel
theorem dX5_walks_85 : decode cX5_walks 85 = .ok (.iinc 6 1, 3) := by decide +kernel
theorem dX5_walks_88 : decode cX5_walks 88 = .ok (.goto (-66), 3) := by decide +kernel
theorem dX5_walks_91 : decode cX5_walks 91 = .ok (.iload 4, 2) := by decide +kernel
theorem dX5_walks_93 : decode cX5_walks 93 = .ok (.ireturn, 1) := by decide +kernel
theorem dX5_sittings_0 : decode cX5_sittings 0 = .ok (.lconst 0, 1) := by decide +kernel
theorem dX5_sittings_1 : decode cX5_sittings 1 = .ok (.lstore_n 1, 1) := by decide +kernel
theorem dX5_sittings_2 : decode cX5_sittings 2 = .ok (.iconst 0, 1) := by decide +kernel
theorem dX5_sittings_3 : decode cX5_sittings 3 = .ok (.istore_n 3, 1) := by decide +kernel
theorem dX5_sittings_4 : decode cX5_sittings 4 = .ok (.iload_n 3, 1) := by decide +kernel
theorem dX5_sittings_5 : decode cX5_sittings 5 = .ok (.aload_n 0, 1) := by decide +kernel
theorem dX5_sittings_6 : decode cX5_sittings 6 = .ok (.getfield 28, 3) := by decide +kernel
theorem dX5_sittings_9 : decode cX5_sittings 9 = .ok (.invokevirtual 65, 3) := by decide +kernel
theorem dX5_sittings_12 : decode cX5_sittings 12 = .ok (.if_icmp .ge 38, 3) := by decide +kernel
theorem dX5_sittings_15 : decode cX5_sittings 15 = .ok (.aload_n 0, 1) := by decide +kernel
theorem dX5_sittings_16 : decode cX5_sittings 16 = .ok (.getfield 28, 3) := by decide +kernel
theorem dX5_sittings_19 : decode cX5_sittings 19 = .ok (.iload_n 3, 1) := by decide +kernel
theorem dX5_sittings_20 : decode cX5_sittings 20 = .ok (.invokevirtual 131, 3) := by decide +kernel
theorem dX5_sittings_23 : decode cX5_sittings 23 = .ok (.checkcast 76, 3) := by decide +kernel
theorem dX5_sittings_26 : decode cX5_sittings 26 = .ok (.astore 4, 2) := by decide +kernel
theorem dX5_sittings_28 : decode cX5_sittings 28 = .ok (.lload_n 1, 1) := by decide +kernel
theorem dX5_sittings_29 : decode cX5_sittings 29 = .ok (.aload 4, 2) := by decide +kernel
theorem dX5_sittings_31 : decode cX5_sittings 31 = .ok (.invokevirtual 251, 3) := by decide +kernel
theorem dX5_sittings_34 : decode cX5_sittings 34 = .ok (.i2l, 1) := by decide +kernel
theorem dX5_sittings_35 : decode cX5_sittings 35 = .ok (.aload 4, 2) := by decide +kernel
theorem dX5_sittings_37 : decode cX5_sittings 37 = .ok (.invokevirtual 206, 3) := by decide +kernel
theorem dX5_sittings_40 : decode cX5_sittings 40 = .ok (.i2l, 1) := by decide +kernel
theorem dX5_sittings_41 : decode cX5_sittings 41 = .ok (.lmul, 1) := by decide +kernel
theorem dX5_sittings_42 : decode cX5_sittings 42 = .ok (.ladd, 1) := by decide +kernel
theorem dX5_sittings_43 : decode cX5_sittings 43 = .ok (.lstore_n 1, 1) := by decide +kernel
theorem dX5_sittings_44 : decode cX5_sittings 44 = .ok (.iinc 3 1, 3) := by decide +kernel
theorem dX5_sittings_47 : decode cX5_sittings 47 = .ok (.goto (-43), 3) := by decide +kernel
theorem dX5_sittings_50 : decode cX5_sittings 50 = .ok (.lload_n 1, 1) := by decide +kernel
theorem dX5_sittings_51 : decode cX5_sittings 51 = .ok (.lreturn, 1) := by decide +kernel
theorem dX5_meanExpected_0 : decode cX5_meanExpected 0 = .ok (.aload_n 0, 1) := by decide +kernel
theorem dX5_meanExpected_1 : decode cX5_meanExpected 1 = .ok (.getfield 28, 3) := by decide +kernel
theorem dX5_meanExpected_4 : decode cX5_meanExpected 4 = .ok (.invokevirtual 65, 3) := by decide +kernel
theorem dX5_meanExpected_7 : decode cX5_meanExpected 7 = .ok (.istore_n 1, 1) := by decide +kernel
theorem dX5_meanExpected_8 : decode cX5_meanExpected 8 = .ok (.iload_n 1, 1) := by decide +kernel
theorem dX5_meanExpected_9 : decode cX5_meanExpected 9 = .ok (.ifCond .ne 14, 3) := by decide +kernel
theorem dX5_meanExpected_12 : decode cX5_meanExpected 12 = .ok (.new 254, 3) := by decide +kernel
theorem dX5_meanExpected_15 : decode cX5_meanExpected 15 = .ok (.dup, 1) := by decide +kernel
theorem dX5_meanExpected_16 : decode cX5_meanExpected 16 = .ok (.ldc_w 256, 3) := by decide +kernel
theorem dX5_meanExpected_19 : decode cX5_meanExpected 19 = .ok (.invokespecial 258, 3) := by decide +kernel
theorem dX5_meanExpected_22 : decode cX5_meanExpected 22 = .ok (.athrow, 1) := by decide +kernel
theorem dX5_meanExpected_23 : decode cX5_meanExpected 23 = .ok (.iconst 0, 1) := by decide +kernel
theorem dX5_meanExpected_24 : decode cX5_meanExpected 24 = .ok (.istore_n 2, 1) := by decide +kernel
theorem dX5_meanExpected_25 : decode cX5_meanExpected 25 = .ok (.iconst 0, 1) := by decide +kernel
theorem dX5_meanExpected_26 : decode cX5_meanExpected 26 = .ok (.istore_n 3, 1) := by decide +kernel
theorem dX5_meanExpected_27 : decode cX5_meanExpected 27 = .ok (.iload_n 3, 1) := by decide +kernel
theorem dX5_meanExpected_28 : decode cX5_meanExpected 28 = .ok (.iload_n 1, 1) := by decide +kernel
theorem dX5_meanExpected_29 : decode cX5_meanExpected 29 = .ok (.if_icmp .ge 26, 3) := by decide +kernel
theorem dX5_meanExpected_32 : decode cX5_meanExpected 32 = .ok (.iload_n 2, 1) := by decide +kernel
theorem dX5_meanExpected_33 : decode cX5_meanExpected 33 = .ok (.aload_n 0, 1) := by decide +kernel
theorem dX5_meanExpected_34 : decode cX5_meanExpected 34 = .ok (.getfield 28, 3) := by decide +kernel
theorem dX5_meanExpected_37 : decode cX5_meanExpected 37 = .ok (.iload_n 3, 1) := by decide +kernel
theorem dX5_meanExpected_38 : decode cX5_meanExpected 38 = .ok (.invokevirtual 131, 3) := by decide +kernel
theorem dX5_meanExpected_41 : decode cX5_meanExpected 41 = .ok (.checkcast 76, 3) := by decide +kernel
theorem dX5_meanExpected_44 : decode cX5_meanExpected 44 = .ok (.invokevirtual 206, 3) := by decide +kernel
theorem dX5_meanExpected_47 : decode cX5_meanExpected 47 = .ok (.iadd, 1) := by decide +kernel
theorem dX5_meanExpected_48 : decode cX5_meanExpected 48 = .ok (.istore_n 2, 1) := by decide +kernel
theorem dX5_meanExpected_49 : decode cX5_meanExpected 49 = .ok (.iinc 3 1, 3) := by decide +kernel
theorem dX5_meanExpected_52 : decode cX5_meanExpected 52 = .ok (.goto (-25), 3) := by decide +kernel
theorem dX5_meanExpected_55 : decode cX5_meanExpected 55 = .ok (.iload_n 2, 1) := by decide +kernel
theorem dX5_meanExpected_56 : decode cX5_meanExpected 56 = .ok (.i2d, 1) := by decide +kernel
theorem dX5_meanExpected_57 : decode cX5_meanExpected 57 = .ok (.iload_n 1, 1) := by decide +kernel
theorem dX5_meanExpected_58 : decode cX5_meanExpected 58 = .ok (.i2d, 1) := by decide +kernel
theorem dX5_meanExpected_59 : decode cX5_meanExpected 59 = .ok (.ddiv, 1) := by decide +kernel
theorem dX5_meanExpected_60 : decode cX5_meanExpected 60 = .ok (.dreturn, 1) := by decide +kernel
theorem dX5_yesShare_0 : decode cX5_yesShare 0 = .ok (.iconst 0, 1) := by decide +kernel
theorem dX5_yesShare_1 : decode cX5_yesShare 1 = .ok (.istore_n 1, 1) := by decide +kernel
theorem dX5_yesShare_2 : decode cX5_yesShare 2 = .ok (.iconst 0, 1) := by decide +kernel
theorem dX5_yesShare_3 : decode cX5_yesShare 3 = .ok (.istore_n 2, 1) := by decide +kernel
theorem dX5_yesShare_4 : decode cX5_yesShare 4 = .ok (.iconst 0, 1) := by decide +kernel
theorem dX5_yesShare_5 : decode cX5_yesShare 5 = .ok (.istore_n 3, 1) := by decide +kernel
theorem dX5_yesShare_6 : decode cX5_yesShare 6 = .ok (.iload_n 3, 1) := by decide +kernel
theorem dX5_yesShare_7 : decode cX5_yesShare 7 = .ok (.aload_n 0, 1) := by decide +kernel
theorem dX5_yesShare_8 : decode cX5_yesShare 8 = .ok (.getfield 28, 3) := by decide +kernel
theorem dX5_yesShare_11 : decode cX5_yesShare 11 = .ok (.invokevirtual 65, 3) := by decide +kernel
theorem dX5_yesShare_14 : decode cX5_yesShare 14 = .ok (.if_icmp .ge 44, 3) := by decide +kernel
theorem dX5_yesShare_17 : decode cX5_yesShare 17 = .ok (.aload_n 0, 1) := by decide +kernel
theorem dX5_yesShare_18 : decode cX5_yesShare 18 = .ok (.getfield 28, 3) := by decide +kernel
theorem dX5_yesShare_21 : decode cX5_yesShare 21 = .ok (.iload_n 3, 1) := by decide +kernel
theorem dX5_yesShare_22 : decode cX5_yesShare 22 = .ok (.invokevirtual 131, 3) := by decide +kernel
theorem dX5_yesShare_25 : decode cX5_yesShare 25 = .ok (.checkcast 76, 3) := by decide +kernel
theorem dX5_yesShare_28 : decode cX5_yesShare 28 = .ok (.astore 4, 2) := by decide +kernel
theorem dX5_yesShare_30 : decode cX5_yesShare 30 = .ok (.iload_n 1, 1) := by decide +kernel
theorem dX5_yesShare_31 : decode cX5_yesShare 31 = .ok (.aload 4, 2) := by decide +kernel
theorem dX5_yesShare_33 : decode cX5_yesShare 33 = .ok (.getfield 259, 3) := by decide +kernel
theorem dX5_yesShare_36 : decode cX5_yesShare 36 = .ok (.invokestatic 262, 3) := by decide +kernel
theorem dX5_yesShare_39 : decode cX5_yesShare 39 = .ok (.iadd, 1) := by decide +kernel
theorem dX5_yesShare_40 : decode cX5_yesShare 40 = .ok (.istore_n 1, 1) := by decide +kernel
theorem dX5_yesShare_41 : decode cX5_yesShare 41 = .ok (.iload_n 2, 1) := by decide +kernel
theorem dX5_yesShare_42 : decode cX5_yesShare 42 = .ok (.aload 4, 2) := by decide +kernel
theorem dX5_yesShare_44 : decode cX5_yesShare 44 = .ok (.getfield 267, 3) := by decide +kernel
theorem dX5_yesShare_47 : decode cX5_yesShare 47 = .ok (.invokestatic 262, 3) := by decide +kernel
theorem dX5_yesShare_50 : decode cX5_yesShare 50 = .ok (.iadd, 1) := by decide +kernel
theorem dX5_yesShare_51 : decode cX5_yesShare 51 = .ok (.istore_n 2, 1) := by decide +kernel
theorem dX5_yesShare_52 : decode cX5_yesShare 52 = .ok (.iinc 3 1, 3) := by decide +kernel
theorem dX5_yesShare_55 : decode cX5_yesShare 55 = .ok (.goto (-49), 3) := by decide +kernel
theorem dX5_yesShare_58 : decode cX5_yesShare 58 = .ok (.iload_n 1, 1) := by decide +kernel
theorem dX5_yesShare_59 : decode cX5_yesShare 59 = .ok (.iload_n 2, 1) := by decide +kernel
theorem dX5_yesShare_60 : decode cX5_yesShare 60 = .ok (.iadd, 1) := by decide +kernel
theorem dX5_yesShare_61 : decode cX5_yesShare 61 = .ok (.ifCond .ne 14, 3) := by decide +kernel
theorem dX5_yesShare_64 : decode cX5_yesShare 64 = .ok (.new 254, 3) := by decide +kernel
theorem dX5_yesShare_67 : decode cX5_yesShare 67 = .ok (.dup, 1) := by decide +kernel
theorem dX5_yesShare_68 : decode cX5_yesShare 68 = .ok (.ldc_w 270, 3) := by decide +kernel
theorem dX5_yesShare_71 : decode cX5_yesShare 71 = .ok (.invokespecial 258, 3) := by decide +kernel
theorem dX5_yesShare_74 : decode cX5_yesShare 74 = .ok (.athrow, 1) := by decide +kernel
theorem dX5_yesShare_75 : decode cX5_yesShare 75 = .ok (.iload_n 1, 1) := by decide +kernel
theorem dX5_yesShare_76 : decode cX5_yesShare 76 = .ok (.i2f, 1) := by decide +kernel
theorem dX5_yesShare_77 : decode cX5_yesShare 77 = .ok (.iload_n 1, 1) := by decide +kernel
theorem dX5_yesShare_78 : decode cX5_yesShare 78 = .ok (.iload_n 2, 1) := by decide +kernel
theorem dX5_yesShare_79 : decode cX5_yesShare 79 = .ok (.iadd, 1) := by decide +kernel
theorem dX5_yesShare_80 : decode cX5_yesShare 80 = .ok (.i2f, 1) := by decide +kernel
theorem dX5_yesShare_81 : decode cX5_yesShare 81 = .ok (.fdiv, 1) := by decide +kernel
theorem dX5_yesShare_82 : decode cX5_yesShare 82 = .ok (.freturn, 1) := by decide +kernel
theorem dX5_isConsistent_0 : decode cX5_isConsistent 0 = .ok (.iconst 0, 1) := by decide +kernel
theorem dX5_isConsistent_1 : decode cX5_isConsistent 1 = .ok (.istore_n 1, 1) := by decide +kernel
theorem dX5_isConsistent_2 : decode cX5_isConsistent 2 = .ok (.iload_n 1, 1) := by decide +kernel
theorem dX5_isConsistent_3 : decode cX5_isConsistent 3 = .ok (.bipush 28, 2) := by decide +kernel
theorem dX5_isConsistent_5 : decode cX5_isConsistent 5 = .ok (.if_icmp .ge 27, 3) := by decide +kernel
theorem dX5_isConsistent_8 : decode cX5_isConsistent 8 = .ok (.aload_n 0, 1) := by decide +kernel
theorem dX5_isConsistent_9 : decode cX5_isConsistent 9 = .ok (.iload_n 1, 1) := by decide +kernel
theorem dX5_isConsistent_10 : decode cX5_isConsistent 10 = .ok (.invokevirtual 272, 3) := by decide +kernel
theorem dX5_isConsistent_13 : decode cX5_isConsistent 13 = .ok (.ifCond .ne 11, 3) := by decide +kernel
theorem dX5_isConsistent_16 : decode cX5_isConsistent 16 = .ok (.aload_n 0, 1) := by decide +kernel
theorem dX5_isConsistent_17 : decode cX5_isConsistent 17 = .ok (.iload_n 1, 1) := by decide +kernel
theorem dX5_isConsistent_18 : decode cX5_isConsistent 18 = .ok (.invokevirtual 275, 3) := by decide +kernel
theorem dX5_isConsistent_21 : decode cX5_isConsistent 21 = .ok (.ifCond .ne 5, 3) := by decide +kernel
theorem dX5_isConsistent_24 : decode cX5_isConsistent 24 = .ok (.iconst 0, 1) := by decide +kernel
theorem dX5_isConsistent_25 : decode cX5_isConsistent 25 = .ok (.ireturn, 1) := by decide +kernel
theorem dX5_isConsistent_26 : decode cX5_isConsistent 26 = .ok (.iinc 1 1, 3) := by decide +kernel
theorem dX5_isConsistent_29 : decode cX5_isConsistent 29 = .ok (.goto (-27), 3) := by decide +kernel
theorem dX5_isConsistent_32 : decode cX5_isConsistent 32 = .ok (.iconst 1, 1) := by decide +kernel
theorem dX5_isConsistent_33 : decode cX5_isConsistent 33 = .ok (.ireturn, 1) := by decide +kernel
theorem dX5_requireWithin_0 : decode cX5_requireWithin 0 = .ok (.iload_n 0, 1) := by decide +kernel
theorem dX5_requireWithin_1 : decode cX5_requireWithin 1 = .ok (.iload_n 1, 1) := by decide +kernel
theorem dX5_requireWithin_2 : decode cX5_requireWithin 2 = .ok (.if_icmp .lt 8, 3) := by decide +kernel
theorem dX5_requireWithin_5 : decode cX5_requireWithin 5 = .ok (.iload_n 0, 1) := by decide +kernel
theorem dX5_requireWithin_6 : decode cX5_requireWithin 6 = .ok (.iload_n 2, 1) := by decide +kernel
theorem dX5_requireWithin_7 : decode cX5_requireWithin 7 = .ok (.if_icmp .le 14, 3) := by decide +kernel
theorem dX5_requireWithin_10 : decode cX5_requireWithin 10 = .ok (.new 142, 3) := by decide +kernel
theorem dX5_requireWithin_13 : decode cX5_requireWithin 13 = .ok (.dup, 1) := by decide +kernel
theorem dX5_requireWithin_14 : decode cX5_requireWithin 14 = .ok (.ldc_w 278, 3) := by decide +kernel
theorem dX5_requireWithin_17 : decode cX5_requireWithin 17 = .ok (.invokespecial 146, 3) := by decide +kernel
theorem dX5_requireWithin_20 : decode cX5_requireWithin 20 = .ok (.athrow, 1) := by decide +kernel
theorem dX5_requireWithin_21 : decode cX5_requireWithin 21 = .ok (.return_, 1) := by decide +kernel
theorem dX5_requirePerson_0 : decode cX5_requirePerson 0 = .ok (.iload_n 0, 1) := by decide +kernel
theorem dX5_requirePerson_1 : decode cX5_requirePerson 1 = .ok (.iconst 0, 1) := by decide +kernel
theorem dX5_requirePerson_2 : decode cX5_requirePerson 2 = .ok (.iconst 5, 1) := by decide +kernel
theorem dX5_requirePerson_3 : decode cX5_requirePerson 3 = .ok (.invokestatic 49, 3) := by decide +kernel
theorem dX5_requirePerson_6 : decode cX5_requirePerson 6 = .ok (.return_, 1) := by decide +kernel
theorem dX5_requireDay_0 : decode cX5_requireDay 0 = .ok (.iload_n 0, 1) := by decide +kernel
theorem dX5_requireDay_1 : decode cX5_requireDay 1 = .ok (.iconst 0, 1) := by decide +kernel
theorem dX5_requireDay_2 : decode cX5_requireDay 2 = .ok (.bipush 27, 2) := by decide +kernel
theorem dX5_requireDay_4 : decode cX5_requireDay 4 = .ok (.invokestatic 49, 3) := by decide +kernel
theorem dX5_requireDay_7 : decode cX5_requireDay 7 = .ok (.return_, 1) := by decide +kernel
theorem dX5_requireSlot_0 : decode cX5_requireSlot 0 = .ok (.iload_n 0, 1) := by decide +kernel
theorem dX5_requireSlot_1 : decode cX5_requireSlot 1 = .ok (.invokestatic 117, 3) := by decide +kernel
theorem dX5_requireSlot_4 : decode cX5_requireSlot 4 = .ok (.iload_n 1, 1) := by decide +kernel
theorem dX5_requireSlot_5 : decode cX5_requireSlot 5 = .ok (.iconst 0, 1) := by decide +kernel
theorem dX5_requireSlot_6 : decode cX5_requireSlot 6 = .ok (.bipush 15, 2) := by decide +kernel
theorem dX5_requireSlot_8 : decode cX5_requireSlot 8 = .ok (.invokestatic 49, 3) := by decide +kernel
theorem dX5_requireSlot_11 : decode cX5_requireSlot 11 = .ok (.iload_n 2, 1) := by decide +kernel
theorem dX5_requireSlot_12 : decode cX5_requireSlot 12 = .ok (.iconst 1, 1) := by decide +kernel
theorem dX5_requireSlot_13 : decode cX5_requireSlot 13 = .ok (.bipush 6, 2) := by decide +kernel
theorem dX5_requireSlot_15 : decode cX5_requireSlot 15 = .ok (.invokestatic 49, 3) := by decide +kernel
theorem dX5_requireSlot_18 : decode cX5_requireSlot 18 = .ok (.iload_n 1, 1) := by decide +kernel
theorem dX5_requireSlot_19 : decode cX5_requireSlot 19 = .ok (.iload_n 2, 1) := by decide +kernel
theorem dX5_requireSlot_20 : decode cX5_requireSlot 20 = .ok (.iadd, 1) := by decide +kernel
theorem dX5_requireSlot_21 : decode cX5_requireSlot 21 = .ok (.iconst 1, 1) := by decide +kernel
theorem dX5_requireSlot_22 : decode cX5_requireSlot 22 = .ok (.bipush 16, 2) := by decide +kernel
theorem dX5_requireSlot_24 : decode cX5_requireSlot 24 = .ok (.invokestatic 49, 3) := by decide +kernel
theorem dX5_requireSlot_27 : decode cX5_requireSlot 27 = .ok (.return_, 1) := by decide +kernel
theorem dX5_requireRefusal_0 : decode cX5_requireRefusal 0 = .ok (.aload_n 0, 1) := by decide +kernel
theorem dX5_requireRefusal_1 : decode cX5_requireRefusal 1 = .ok (.getfield 39, 3) := by decide +kernel
theorem dX5_requireRefusal_4 : decode cX5_requireRefusal 4 = .ok (.ifCond .ne 14, 3) := by decide +kernel
theorem dX5_requireRefusal_7 : decode cX5_requireRefusal 7 = .ok (.new 198, 3) := by decide +kernel
theorem dX5_requireRefusal_10 : decode cX5_requireRefusal 10 = .ok (.dup, 1) := by decide +kernel
theorem dX5_requireRefusal_11 : decode cX5_requireRefusal 11 = .ok (.ldc_w 280, 3) := by decide +kernel
theorem dX5_requireRefusal_14 : decode cX5_requireRefusal 14 = .ok (.invokespecial 202, 3) := by decide +kernel
theorem dX5_requireRefusal_17 : decode cX5_requireRefusal 17 = .ok (.athrow, 1) := by decide +kernel
theorem dX5_requireRefusal_18 : decode cX5_requireRefusal 18 = .ok (.return_, 1) := by decide +kernel
theorem dX5_roomWith_0 : decode cX5_roomWith 0 = .ok (.iload_n 1, 1) := by decide +kernel
theorem dX5_roomWith_1 : decode cX5_roomWith 1 = .ok (.ifCond .lt 12, 3) := by decide +kernel
theorem dX5_roomWith_4 : decode cX5_roomWith 4 = .ok (.iload_n 1, 1) := by decide +kernel
theorem dX5_roomWith_5 : decode cX5_roomWith 5 = .ok (.aload_n 0, 1) := by decide +kernel
theorem dX5_roomWith_6 : decode cX5_roomWith 6 = .ok (.getfield 12, 3) := by decide +kernel
theorem dX5_roomWith_9 : decode cX5_roomWith 9 = .ok (.arraylength, 1) := by decide +kernel
theorem dX5_roomWith_10 : decode cX5_roomWith 10 = .ok (.if_icmp .lt 14, 3) := by decide +kernel
theorem dX5_roomWith_13 : decode cX5_roomWith 13 = .ok (.new 142, 3) := by decide +kernel
theorem dX5_roomWith_16 : decode cX5_roomWith 16 = .ok (.dup, 1) := by decide +kernel
theorem dX5_roomWith_17 : decode cX5_roomWith 17 = .ok (.ldc_w 282, 3) := by decide +kernel
theorem dX5_roomWith_20 : decode cX5_roomWith 20 = .ok (.invokespecial 146, 3) := by decide +kernel
theorem dX5_roomWith_23 : decode cX5_roomWith 23 = .ok (.athrow, 1) := by decide +kernel
theorem dX5_roomWith_24 : decode cX5_roomWith 24 = .ok (.aload_n 0, 1) := by decide +kernel
theorem dX5_roomWith_25 : decode cX5_roomWith 25 = .ok (.getfield 12, 3) := by decide +kernel
theorem dX5_roomWith_28 : decode cX5_roomWith 28 = .ok (.iload_n 1, 1) := by decide +kernel
theorem dX5_roomWith_29 : decode cX5_roomWith 29 = .ok (.aaload, 1) := by decide +kernel
theorem dX5_roomWith_30 : decode cX5_roomWith 30 = .ok (.areturn, 1) := by decide +kernel
theorem dX5_dayWith_0 : decode cX5_dayWith 0 = .ok (.iload_n 1, 1) := by decide +kernel
theorem dX5_dayWith_1 : decode cX5_dayWith 1 = .ok (.ifCond .lt 12, 3) := by decide +kernel
theorem dX5_dayWith_4 : decode cX5_dayWith 4 = .ok (.iload_n 1, 1) := by decide +kernel
theorem dX5_dayWith_5 : decode cX5_dayWith 5 = .ok (.aload_n 0, 1) := by decide +kernel
theorem dX5_dayWith_6 : decode cX5_dayWith 6 = .ok (.getfield 20, 3) := by decide +kernel
theorem dX5_dayWith_9 : decode cX5_dayWith 9 = .ok (.arraylength, 1) := by decide +kernel
theorem dX5_dayWith_10 : decode cX5_dayWith 10 = .ok (.if_icmp .lt 14, 3) := by decide +kernel
theorem dX5_dayWith_13 : decode cX5_dayWith 13 = .ok (.new 142, 3) := by decide +kernel
theorem dX5_dayWith_16 : decode cX5_dayWith 16 = .ok (.dup, 1) := by decide +kernel
theorem dX5_dayWith_17 : decode cX5_dayWith 17 = .ok (.ldc_w 284, 3) := by decide +kernel
theorem dX5_dayWith_20 : decode cX5_dayWith 20 = .ok (.invokespecial 146, 3) := by decide +kernel
theorem dX5_dayWith_23 : decode cX5_dayWith 23 = .ok (.athrow, 1) := by decide +kernel
theorem dX5_dayWith_24 : decode cX5_dayWith 24 = .ok (.aload_n 0, 1) := by decide +kernel
theorem dX5_dayWith_25 : decode cX5_dayWith 25 = .ok (.getfield 20, 3) := by decide +kernel
theorem dX5_dayWith_28 : decode cX5_dayWith 28 = .ok (.iload_n 1, 1) := by decide +kernel
theorem dX5_dayWith_29 : decode cX5_dayWith 29 = .ok (.aaload, 1) := by decide +kernel
theorem dX5_dayWith_30 : decode cX5_dayWith 30 = .ok (.areturn, 1) := by decide +kernel
theorem dX5_rankOf_0 : decode cX5_rankOf 0 = .ok (.iconst 0, 1) := by decide +kernel
theorem dX5_rankOf_1 : decode cX5_rankOf 1 = .ok (.istore_n 2, 1) := by decide +kernel
theorem dX5_rankOf_2 : decode cX5_rankOf 2 = .ok (.iload_n 2, 1) := by decide +kernel
theorem dX5_rankOf_3 : decode cX5_rankOf 3 = .ok (.aload_n 0, 1) := by decide +kernel
theorem dX5_rankOf_4 : decode cX5_rankOf 4 = .ok (.getfield 28, 3) := by decide +kernel
theorem dX5_rankOf_7 : decode cX5_rankOf 7 = .ok (.invokevirtual 65, 3) := by decide +kernel
theorem dX5_rankOf_10 : decode cX5_rankOf 10 = .ok (.if_icmp .ge 29, 3) := by decide +kernel
theorem dX5_rankOf_13 : decode cX5_rankOf 13 = .ok (.aload_n 0, 1) := by decide +kernel
theorem dX5_rankOf_14 : decode cX5_rankOf 14 = .ok (.getfield 28, 3) := by decide +kernel
theorem dX5_rankOf_17 : decode cX5_rankOf 17 = .ok (.iload_n 2, 1) := by decide +kernel
theorem dX5_rankOf_18 : decode cX5_rankOf 18 = .ok (.invokevirtual 131, 3) := by decide +kernel
theorem dX5_rankOf_21 : decode cX5_rankOf 21 = .ok (.checkcast 76, 3) := by decide +kernel
theorem dX5_rankOf_24 : decode cX5_rankOf 24 = .ok (.getfield 94, 3) := by decide +kernel
theorem dX5_rankOf_27 : decode cX5_rankOf 27 = .ok (.iload_n 1, 1) := by decide +kernel
theorem dX5_rankOf_28 : decode cX5_rankOf 28 = .ok (.if_icmp .ne 5, 3) := by decide +kernel
theorem dX5_rankOf_31 : decode cX5_rankOf 31 = .ok (.iload_n 2, 1) := by decide +kernel
theorem dX5_rankOf_32 : decode cX5_rankOf 32 = .ok (.ireturn, 1) := by decide +kernel
theorem dX5_rankOf_33 : decode cX5_rankOf 33 = .ok (.iinc 2 1, 3) := by decide +kernel
theorem dX5_rankOf_36 : decode cX5_rankOf 36 = .ok (.goto (-34), 3) := by decide +kernel
theorem dX5_rankOf_39 : decode cX5_rankOf 39 = .ok (.new 198, 3) := by decide +kernel
theorem dX5_rankOf_42 : decode cX5_rankOf 42 = .ok (.dup, 1) := by decide +kernel
theorem dX5_rankOf_43 : decode cX5_rankOf 43 = .ok (.ldc_w 286, 3) := by decide +kernel
theorem dX5_rankOf_46 : decode cX5_rankOf 46 = .ok (.invokespecial 202, 3) := by decide +kernel
theorem dX5_rankOf_49 : decode cX5_rankOf 49 = .ok (.athrow, 1) := by decide +kernel
theorem dX5_meetingWith_0 : decode cX5_meetingWith 0 = .ok (.aload_n 0, 1) := by decide +kernel
theorem dX5_meetingWith_1 : decode cX5_meetingWith 1 = .ok (.getfield 28, 3) := by decide +kernel
theorem dX5_meetingWith_4 : decode cX5_meetingWith 4 = .ok (.aload_n 0, 1) := by decide +kernel
theorem dX5_meetingWith_5 : decode cX5_meetingWith 5 = .ok (.iload_n 1, 1) := by decide +kernel
theorem dX5_meetingWith_6 : decode cX5_meetingWith 6 = .ok (.invokevirtual 128, 3) := by decide +kernel
theorem dX5_meetingWith_9 : decode cX5_meetingWith 9 = .ok (.invokevirtual 131, 3) := by decide +kernel
theorem dX5_meetingWith_12 : decode cX5_meetingWith 12 = .ok (.checkcast 76, 3) := by decide +kernel
theorem dX5_meetingWith_15 : decode cX5_meetingWith 15 = .ok (.areturn, 1) := by decide +kernel
theorem dX5_dateWith_0 : decode cX5_dateWith 0 = .ok (.iload_n 1, 1) := by decide +kernel
theorem dX5_dateWith_1 : decode cX5_dateWith 1 = .ok (.ifCond .lt 14, 3) := by decide +kernel
theorem dX5_dateWith_4 : decode cX5_dateWith 4 = .ok (.iload_n 1, 1) := by decide +kernel
theorem dX5_dateWith_5 : decode cX5_dateWith 5 = .ok (.aload_n 0, 1) := by decide +kernel
theorem dX5_dateWith_6 : decode cX5_dateWith 6 = .ok (.getfield 101, 3) := by decide +kernel
theorem dX5_dateWith_9 : decode cX5_dateWith 9 = .ok (.invokevirtual 65, 3) := by decide +kernel
theorem dX5_dateWith_12 : decode cX5_dateWith 12 = .ok (.if_icmp .lt 14, 3) := by decide +kernel
theorem dX5_dateWith_15 : decode cX5_dateWith 15 = .ok (.new 288, 3) := by decide +kernel
theorem dX5_dateWith_18 : decode cX5_dateWith 18 = .ok (.dup, 1) := by decide +kernel
theorem dX5_dateWith_19 : decode cX5_dateWith 19 = .ok (.ldc_w 290, 3) := by decide +kernel
theorem dX5_dateWith_22 : decode cX5_dateWith 22 = .ok (.invokespecial 292, 3) := by decide +kernel
theorem dX5_dateWith_25 : decode cX5_dateWith 25 = .ok (.athrow, 1) := by decide +kernel
theorem dX5_dateWith_26 : decode cX5_dateWith 26 = .ok (.aload_n 0, 1) := by decide +kernel
theorem dX5_dateWith_27 : decode cX5_dateWith 27 = .ok (.getfield 101, 3) := by decide +kernel
theorem dX5_dateWith_30 : decode cX5_dateWith 30 = .ok (.iload_n 1, 1) := by decide +kernel
theorem dX5_dateWith_31 : decode cX5_dateWith 31 = .ok (.invokevirtual 131, 3) := by decide +kernel
theorem dX5_dateWith_34 : decode cX5_dateWith 34 = .ok (.checkcast 109, 3) := by decide +kernel
theorem dX5_dateWith_37 : decode cX5_dateWith 37 = .ok (.areturn, 1) := by decide +kernel
theorem dX5_standingDateWith_0 : decode cX5_standingDateWith 0 = .ok (.aload_n 0, 1) := by decide +kernel
theorem dX5_standingDateWith_1 : decode cX5_standingDateWith 1 = .ok (.iload_n 1, 1) := by decide +kernel
theorem dX5_standingDateWith_2 : decode cX5_standingDateWith 2 = .ok (.invokestatic 104, 3) := by decide +kernel
theorem dX5_standingDateWith_5 : decode cX5_standingDateWith 5 = .ok (.astore_n 2, 1) := by decide +kernel
theorem dX5_standingDateWith_6 : decode cX5_standingDateWith 6 = .ok (.aload_n 2, 1) := by decide +kernel
theorem dX5_standingDateWith_7 : decode cX5_standingDateWith 7 = .ok (.getfield 175, 3) := by decide +kernel
theorem dX5_standingDateWith_10 : decode cX5_standingDateWith 10 = .ok (.ifCond .eq 14, 3) := by decide +kernel
theorem dX5_standingDateWith_13 : decode cX5_standingDateWith 13 = .ok (.new 69, 3) := by decide +kernel
theorem dX5_standingDateWith_16 : decode cX5_standingDateWith 16 = .ok (.dup, 1) := by decide +kernel
theorem dX5_standingDateWith_17 : decode cX5_standingDateWith 17 = .ok (.ldc_w 293, 3) := by decide +kernel
theorem dX5_standingDateWith_20 : decode cX5_standingDateWith 20 = .ok (.invokespecial 73, 3) := by decide +kernel
theorem dX5_standingDateWith_23 : decode cX5_standingDateWith 23 = .ok (.athrow, 1) := by decide +kernel
theorem dX5_standingDateWith_24 : decode cX5_standingDateWith 24 = .ok (.aload_n 2, 1) := by decide +kernel
theorem dX5_standingDateWith_25 : decode cX5_standingDateWith 25 = .ok (.areturn, 1) := by decide +kernel
theorem dX5_bitOf_0 : decode cX5_bitOf 0 = .ok (.iconst 1, 1) := by decide +kernel
theorem dX5_bitOf_1 : decode cX5_bitOf 1 = .ok (.iload_n 0, 1) := by decide +kernel
theorem dX5_bitOf_2 : decode cX5_bitOf 2 = .ok (.ishl, 1) := by decide +kernel
theorem dX5_bitOf_3 : decode cX5_bitOf 3 = .ok (.ireturn, 1) := by decide +kernel
theorem dX5_holdsPerson_0 : decode cX5_holdsPerson 0 = .ok (.iload_n 0, 1) := by decide +kernel
theorem dX5_holdsPerson_1 : decode cX5_holdsPerson 1 = .ok (.iload_n 1, 1) := by decide +kernel
theorem dX5_holdsPerson_2 : decode cX5_holdsPerson 2 = .ok (.invokestatic 78, 3) := by decide +kernel
theorem dX5_holdsPerson_5 : decode cX5_holdsPerson 5 = .ok (.iand, 1) := by decide +kernel
theorem dX5_holdsPerson_6 : decode cX5_holdsPerson 6 = .ok (.ifCond .eq 7, 3) := by decide +kernel
theorem dX5_holdsPerson_9 : decode cX5_holdsPerson 9 = .ok (.iconst 1, 1) := by decide +kernel
theorem dX5_holdsPerson_10 : decode cX5_holdsPerson 10 = .ok (.goto 4, 3) := by decide +kernel
theorem dX5_holdsPerson_13 : decode cX5_holdsPerson 13 = .ok (.iconst 0, 1) := by decide +kernel
theorem dX5_holdsPerson_14 : decode cX5_holdsPerson 14 = .ok (.ireturn, 1) := by decide +kernel
theorem dX5_lowestPerson_0 : decode cX5_lowestPerson 0 = .ok (.iconst 0, 1) := by decide +kernel
theorem dX5_lowestPerson_1 : decode cX5_lowestPerson 1 = .ok (.istore_n 1, 1) := by decide +kernel
theorem dX5_lowestPerson_2 : decode cX5_lowestPerson 2 = .ok (.iload_n 1, 1) := by decide +kernel
theorem dX5_lowestPerson_3 : decode cX5_lowestPerson 3 = .ok (.iconst 5, 1) := by decide +kernel
theorem dX5_lowestPerson_4 : decode cX5_lowestPerson 4 = .ok (.if_icmp .ge 17, 3) := by decide +kernel
theorem dX5_lowestPerson_7 : decode cX5_lowestPerson 7 = .ok (.iload_n 0, 1) := by decide +kernel
theorem dX5_lowestPerson_8 : decode cX5_lowestPerson 8 = .ok (.iload_n 1, 1) := by decide +kernel
theorem dX5_lowestPerson_9 : decode cX5_lowestPerson 9 = .ok (.invokestatic 150, 3) := by decide +kernel
theorem dX5_lowestPerson_12 : decode cX5_lowestPerson 12 = .ok (.ifCond .ne 9, 3) := by decide +kernel
theorem dX5_lowestPerson_15 : decode cX5_lowestPerson 15 = .ok (.iinc 1 1, 3) := by decide +kernel
theorem dX5_lowestPerson_18 : decode cX5_lowestPerson 18 = .ok (.goto (-16), 3) := by decide +kernel
theorem dX5_lowestPerson_21 : decode cX5_lowestPerson 21 = .ok (.iload_n 1, 1) := by decide +kernel
theorem dX5_lowestPerson_22 : decode cX5_lowestPerson 22 = .ok (.ireturn, 1) := by decide +kernel
theorem dX5_planDates_0 : decode cX5_planDates 0 = .ok (.iconst 0, 1) := by decide +kernel
theorem dX5_planDates_1 : decode cX5_planDates 1 = .ok (.istore_n 3, 1) := by decide +kernel
theorem dX5_planDates_2 : decode cX5_planDates 2 = .ok (.iload_n 3, 1) := by decide +kernel
theorem dX5_planDates_3 : decode cX5_planDates 3 = .ok (.aload_n 2, 1) := by decide +kernel
theorem dX5_planDates_4 : decode cX5_planDates 4 = .ok (.invokevirtual 65, 3) := by decide +kernel
theorem dX5_planDates_7 : decode cX5_planDates 7 = .ok (.if_icmp .ge 23, 3) := by decide +kernel
theorem dX5_planDates_10 : decode cX5_planDates 10 = .ok (.aload_n 0, 1) := by decide +kernel
theorem dX5_planDates_11 : decode cX5_planDates 11 = .ok (.aload_n 1, 1) := by decide +kernel
theorem dX5_planDates_12 : decode cX5_planDates 12 = .ok (.aload_n 2, 1) := by decide +kernel
theorem dX5_planDates_13 : decode cX5_planDates 13 = .ok (.iload_n 3, 1) := by decide +kernel
theorem dX5_planDates_14 : decode cX5_planDates 14 = .ok (.invokevirtual 131, 3) := by decide +kernel
theorem dX5_planDates_17 : decode cX5_planDates 17 = .ok (.checkcast 83, 3) := by decide +kernel
theorem dX5_planDates_20 : decode cX5_planDates 20 = .ok (.aconst_null, 1) := by decide +kernel
theorem dX5_planDates_21 : decode cX5_planDates 21 = .ok (.invokevirtual 182, 3) := by decide +kernel
theorem dX5_planDates_24 : decode cX5_planDates 24 = .ok (.iinc 3 1, 3) := by decide +kernel
theorem dX5_planDates_27 : decode cX5_planDates 27 = .ok (.goto (-25), 3) := by decide +kernel
theorem dX5_planDates_30 : decode cX5_planDates 30 = .ok (.new 25, 3) := by decide +kernel
theorem dX5_planDates_33 : decode cX5_planDates 33 = .ok (.dup, 1) := by decide +kernel
theorem dX5_planDates_34 : decode cX5_planDates 34 = .ok (.invokespecial 27, 3) := by decide +kernel
theorem dX5_planDates_37 : decode cX5_planDates 37 = .ok (.astore_n 3, 1) := by decide +kernel
theorem dX5_planDates_38 : decode cX5_planDates 38 = .ok (.iconst 0, 1) := by decide +kernel
theorem dX5_planDates_39 : decode cX5_planDates 39 = .ok (.istore 4, 2) := by decide +kernel
theorem dX5_planDates_41 : decode cX5_planDates 41 = .ok (.iload 4, 2) := by decide +kernel
theorem dX5_planDates_43 : decode cX5_planDates 43 = .ok (.aload_n 2, 1) := by decide +kernel
theorem dX5_planDates_44 : decode cX5_planDates 44 = .ok (.invokevirtual 65, 3) := by decide +kernel
theorem dX5_planDates_47 : decode cX5_planDates 47 = .ok (.if_icmp .ge 57, 3) := by decide +kernel
theorem dX5_planDates_50 : decode cX5_planDates 50 = .ok (.aload_n 2, 1) := by decide +kernel
theorem dX5_planDates_51 : decode cX5_planDates 51 = .ok (.iload 4, 2) := by decide +kernel
theorem dX5_planDates_53 : decode cX5_planDates 53 = .ok (.invokevirtual 131, 3) := by decide +kernel
theorem dX5_planDates_56 : decode cX5_planDates 56 = .ok (.checkcast 83, 3) := by decide +kernel
theorem dX5_planDates_59 : decode cX5_planDates 59 = .ok (.astore 5, 2) := by decide +kernel
theorem dX5_planDates_61 : decode cX5_planDates 61 = .ok (.aload_n 0, 1) := by decide +kernel
theorem dX5_planDates_62 : decode cX5_planDates 62 = .ok (.aload_n 1, 1) := by decide +kernel
theorem dX5_planDates_63 : decode cX5_planDates 63 = .ok (.aload_n 1, 1) := by decide +kernel
theorem dX5_planDates_64 : decode cX5_planDates 64 = .ok (.getfield 101, 3) := by decide +kernel
theorem dX5_planDates_67 : decode cX5_planDates 67 = .ok (.invokevirtual 65, 3) := by decide +kernel
theorem dX5_planDates_70 : decode cX5_planDates 70 = .ok (.iload 4, 2) := by decide +kernel
theorem dX5_planDates_72 : decode cX5_planDates 72 = .ok (.iadd, 1) := by decide +kernel
theorem dX5_planDates_73 : decode cX5_planDates 73 = .ok (.aload 5, 2) := by decide +kernel
theorem dX5_planDates_75 : decode cX5_planDates 75 = .ok (.aconst_null, 1) := by decide +kernel
theorem dX5_planDates_76 : decode cX5_planDates 76 = .ok (.invokevirtual 186, 3) := by decide +kernel
theorem dX5_planDates_79 : decode cX5_planDates 79 = .ok (.astore 6, 2) := by decide +kernel
theorem dX5_planDates_81 : decode cX5_planDates 81 = .ok (.aload_n 3, 1) := by decide +kernel
theorem dX5_planDates_82 : decode cX5_planDates 82 = .ok (.new 109, 3) := by decide +kernel
theorem dX5_planDates_85 : decode cX5_planDates 85 = .ok (.dup, 1) := by decide +kernel
theorem dX5_planDates_86 : decode cX5_planDates 86 = .ok (.aload_n 1, 1) := by decide +kernel
theorem dX5_planDates_87 : decode cX5_planDates 87 = .ok (.aload 5, 2) := by decide +kernel
theorem dX5_planDates_89 : decode cX5_planDates 89 = .ok (.aload 6, 2) := by decide +kernel
theorem dX5_planDates_91 : decode cX5_planDates 91 = .ok (.invokespecial 295, 3) := by decide +kernel
theorem dX5_planDates_94 : decode cX5_planDates 94 = .ok (.invokevirtual 86, 3) := by decide +kernel
theorem dX5_planDates_97 : decode cX5_planDates 97 = .ok (.pop, 1) := by decide +kernel
theorem dX5_planDates_98 : decode cX5_planDates 98 = .ok (.iinc 4 1, 3) := by decide +kernel
theorem dX5_planDates_101 : decode cX5_planDates 101 = .ok (.goto (-60), 3) := by decide +kernel
theorem dX5_planDates_104 : decode cX5_planDates 104 = .ok (.iconst 0, 1) := by decide +kernel
theorem dX5_planDates_105 : decode cX5_planDates 105 = .ok (.istore 4, 2) := by decide +kernel
theorem dX5_planDates_107 : decode cX5_planDates 107 = .ok (.iload 4, 2) := by decide +kernel
theorem dX5_planDates_109 : decode cX5_planDates 109 = .ok (.aload_n 3, 1) := by decide +kernel
theorem dX5_planDates_110 : decode cX5_planDates 110 = .ok (.invokevirtual 65, 3) := by decide +kernel
theorem dX5_planDates_113 : decode cX5_planDates 113 = .ok (.if_icmp .ge 36, 3) := by decide +kernel
theorem dX5_planDates_116 : decode cX5_planDates 116 = .ok (.aload_n 3, 1) := by decide +kernel
theorem dX5_planDates_117 : decode cX5_planDates 117 = .ok (.iload 4, 2) := by decide +kernel
theorem dX5_planDates_119 : decode cX5_planDates 119 = .ok (.invokevirtual 131, 3) := by decide +kernel
theorem dX5_planDates_122 : decode cX5_planDates 122 = .ok (.checkcast 109, 3) := by decide +kernel
theorem dX5_planDates_125 : decode cX5_planDates 125 = .ok (.astore 5, 2) := by decide +kernel
theorem dX5_planDates_127 : decode cX5_planDates 127 = .ok (.aload_n 1, 1) := by decide +kernel
theorem dX5_planDates_128 : decode cX5_planDates 128 = .ok (.getfield 101, 3) := by decide +kernel
theorem dX5_planDates_131 : decode cX5_planDates 131 = .ok (.aload 5, 2) := by decide +kernel
theorem dX5_planDates_133 : decode cX5_planDates 133 = .ok (.invokevirtual 86, 3) := by decide +kernel
theorem dX5_planDates_136 : decode cX5_planDates 136 = .ok (.pop, 1) := by decide +kernel
theorem dX5_planDates_137 : decode cX5_planDates 137 = .ok (.aload_n 0, 1) := by decide +kernel
theorem dX5_planDates_138 : decode cX5_planDates 138 = .ok (.aload 5, 2) := by decide +kernel
theorem dX5_planDates_140 : decode cX5_planDates 140 = .ok (.invokevirtual 194, 3) := by decide +kernel
theorem dX5_planDates_143 : decode cX5_planDates 143 = .ok (.iinc 4 1, 3) := by decide +kernel
theorem dX5_planDates_146 : decode cX5_planDates 146 = .ok (.goto (-39), 3) := by decide +kernel
theorem dX5_planDates_149 : decode cX5_planDates 149 = .ok (.return_, 1) := by decide +kernel
theorem dX5_putOnItsDay_0 : decode cX5_putOnItsDay 0 = .ok (.aload_n 0, 1) := by decide +kernel
theorem dX5_putOnItsDay_1 : decode cX5_putOnItsDay 1 = .ok (.aload_n 1, 1) := by decide +kernel
theorem dX5_putOnItsDay_2 : decode cX5_putOnItsDay 2 = .ok (.getfield 108, 3) := by decide +kernel
theorem dX5_putOnItsDay_5 : decode cX5_putOnItsDay 5 = .ok (.getfield 114, 3) := by decide +kernel
theorem dX5_putOnItsDay_8 : decode cX5_putOnItsDay 8 = .ok (.invokevirtual 242, 3) := by decide +kernel
theorem dX5_putOnItsDay_11 : decode cX5_putOnItsDay 11 = .ok (.aload_n 1, 1) := by decide +kernel
theorem dX5_putOnItsDay_12 : decode cX5_putOnItsDay 12 = .ok (.invokevirtual 298, 3) := by decide +kernel
theorem dX5_putOnItsDay_15 : decode cX5_putOnItsDay 15 = .ok (.return_, 1) := by decide +kernel
theorem dX5_takeOffItsDay_0 : decode cX5_takeOffItsDay 0 = .ok (.aload_n 0, 1) := by decide +kernel
theorem dX5_takeOffItsDay_1 : decode cX5_takeOffItsDay 1 = .ok (.aload_n 1, 1) := by decide +kernel
theorem dX5_takeOffItsDay_2 : decode cX5_takeOffItsDay 2 = .ok (.getfield 108, 3) := by decide +kernel
theorem dX5_takeOffItsDay_5 : decode cX5_takeOffItsDay 5 = .ok (.getfield 114, 3) := by decide +kernel
theorem dX5_takeOffItsDay_8 : decode cX5_takeOffItsDay 8 = .ok (.invokevirtual 242, 3) := by decide +kernel
theorem dX5_takeOffItsDay_11 : decode cX5_takeOffItsDay 11 = .ok (.aload_n 1, 1) := by decide +kernel
theorem dX5_takeOffItsDay_12 : decode cX5_takeOffItsDay 12 = .ok (.invokevirtual 301, 3) := by decide +kernel
theorem dX5_takeOffItsDay_15 : decode cX5_takeOffItsDay 15 = .ok (.return_, 1) := by decide +kernel
theorem dX5_noteRefusal_0 : decode cX5_noteRefusal 0 = .ok (.aload_n 0, 1) := by decide +kernel
theorem dX5_noteRefusal_1 : decode cX5_noteRefusal 1 = .ok (.iload_n 1, 1) := by decide +kernel
theorem dX5_noteRefusal_2 : decode cX5_noteRefusal 2 = .ok (.putfield 39, 3) := by decide +kernel
theorem dX5_noteRefusal_5 : decode cX5_noteRefusal 5 = .ok (.aload_n 0, 1) := by decide +kernel
theorem dX5_noteRefusal_6 : decode cX5_noteRefusal 6 = .ok (.iload_n 2, 1) := by decide +kernel
theorem dX5_noteRefusal_7 : decode cX5_noteRefusal 7 = .ok (.putfield 42, 3) := by decide +kernel
theorem dX5_noteRefusal_10 : decode cX5_noteRefusal 10 = .ok (.return_, 1) := by decide +kernel
theorem dX5_requireNobodyBusy_0 : decode cX5_requireNobodyBusy 0 = .ok (.aload_n 0, 1) := by decide +kernel
theorem dX5_requireNobodyBusy_1 : decode cX5_requireNobodyBusy 1 = .ok (.aload_n 2, 1) := by decide +kernel
theorem dX5_requireNobodyBusy_2 : decode cX5_requireNobodyBusy 2 = .ok (.aload_n 3, 1) := by decide +kernel
theorem dX5_requireNobodyBusy_3 : decode cX5_requireNobodyBusy 3 = .ok (.invokevirtual 304, 3) := by decide +kernel
theorem dX5_requireNobodyBusy_6 : decode cX5_requireNobodyBusy 6 = .ok (.aload_n 1, 1) := by decide +kernel
theorem dX5_requireNobodyBusy_7 : decode cX5_requireNobodyBusy 7 = .ok (.invokevirtual 308, 3) := by decide +kernel
theorem dX5_requireNobodyBusy_10 : decode cX5_requireNobodyBusy 10 = .ok (.iand, 1) := by decide +kernel
theorem dX5_requireNobodyBusy_11 : decode cX5_requireNobodyBusy 11 = .ok (.istore 4, 2) := by decide +kernel
theorem dX5_requireNobodyBusy_13 : decode cX5_requireNobodyBusy 13 = .ok (.iload 4, 2) := by decide +kernel
theorem dX5_requireNobodyBusy_15 : decode cX5_requireNobodyBusy 15 = .ok (.ifCond .eq 24, 3) := by decide +kernel
theorem dX5_requireNobodyBusy_18 : decode cX5_requireNobodyBusy 18 = .ok (.aload_n 0, 1) := by decide +kernel
theorem dX5_requireNobodyBusy_19 : decode cX5_requireNobodyBusy 19 = .ok (.iconst 1, 1) := by decide +kernel
theorem dX5_requireNobodyBusy_20 : decode cX5_requireNobodyBusy 20 = .ok (.iload 4, 2) := by decide +kernel
theorem dX5_requireNobodyBusy_22 : decode cX5_requireNobodyBusy 22 = .ok (.invokestatic 311, 3) := by decide +kernel
theorem dX5_requireNobodyBusy_25 : decode cX5_requireNobodyBusy 25 = .ok (.invokevirtual 314, 3) := by decide +kernel
theorem dX5_requireNobodyBusy_28 : decode cX5_requireNobodyBusy 28 = .ok (.new 318, 3) := by decide +kernel
theorem dX5_requireNobodyBusy_31 : decode cX5_requireNobodyBusy 31 = .ok (.dup, 1) := by decide +kernel
theorem dX5_requireNobodyBusy_32 : decode cX5_requireNobodyBusy 32 = .ok (.ldc_w 320, 3) := by decide +kernel
theorem dX5_requireNobodyBusy_35 : decode cX5_requireNobodyBusy 35 = .ok (.invokespecial 322, 3) := by decide +kernel
theorem dX5_requireNobodyBusy_38 : decode cX5_requireNobodyBusy 38 = .ok (.athrow, 1) := by decide +kernel
theorem dX5_requireNobodyBusy_39 : decode cX5_requireNobodyBusy 39 = .ok (.return_, 1) := by decide +kernel
theorem dX5_requireRoom_0 : decode cX5_requireRoom 0 = .ok (.aload_n 0, 1) := by decide +kernel
theorem dX5_requireRoom_1 : decode cX5_requireRoom 1 = .ok (.aload_n 1, 1) := by decide +kernel
theorem dX5_requireRoom_2 : decode cX5_requireRoom 2 = .ok (.invokevirtual 308, 3) := by decide +kernel
theorem dX5_requireRoom_5 : decode cX5_requireRoom 5 = .ok (.aload_n 3, 1) := by decide +kernel
theorem dX5_requireRoom_6 : decode cX5_requireRoom 6 = .ok (.aload 4, 2) := by decide +kernel
theorem dX5_requireRoom_8 : decode cX5_requireRoom 8 = .ok (.invokevirtual 323, 3) := by decide +kernel
theorem dX5_requireRoom_11 : decode cX5_requireRoom 11 = .ok (.astore 5, 2) := by decide +kernel
theorem dX5_requireRoom_13 : decode cX5_requireRoom 13 = .ok (.aload 5, 2) := by decide +kernel
theorem dX5_requireRoom_15 : decode cX5_requireRoom 15 = .ok (.ifnonnull 20, 3) := by decide +kernel
theorem dX5_requireRoom_18 : decode cX5_requireRoom 18 = .ok (.aload_n 0, 1) := by decide +kernel
theorem dX5_requireRoom_19 : decode cX5_requireRoom 19 = .ok (.iconst 2, 1) := by decide +kernel
theorem dX5_requireRoom_20 : decode cX5_requireRoom 20 = .ok (.iload_n 2, 1) := by decide +kernel
theorem dX5_requireRoom_21 : decode cX5_requireRoom 21 = .ok (.invokevirtual 314, 3) := by decide +kernel
theorem dX5_requireRoom_24 : decode cX5_requireRoom 24 = .ok (.new 318, 3) := by decide +kernel
theorem dX5_requireRoom_27 : decode cX5_requireRoom 27 = .ok (.dup, 1) := by decide +kernel
theorem dX5_requireRoom_28 : decode cX5_requireRoom 28 = .ok (.ldc_w 327, 3) := by decide +kernel
theorem dX5_requireRoom_31 : decode cX5_requireRoom 31 = .ok (.invokespecial 322, 3) := by decide +kernel
theorem dX5_requireRoom_34 : decode cX5_requireRoom 34 = .ok (.athrow, 1) := by decide +kernel
theorem dX5_requireRoom_35 : decode cX5_requireRoom 35 = .ok (.aload 5, 2) := by decide +kernel
theorem dX5_requireRoom_37 : decode cX5_requireRoom 37 = .ok (.areturn, 1) := by decide +kernel
theorem dX5_requireSeatsLeft_0 : decode cX5_requireSeatsLeft 0 = .ok (.aload_n 1, 1) := by decide +kernel
theorem dX5_requireSeatsLeft_1 : decode cX5_requireSeatsLeft 1 = .ok (.invokevirtual 206, 3) := by decide +kernel
theorem dX5_requireSeatsLeft_4 : decode cX5_requireSeatsLeft 4 = .ok (.istore_n 2, 1) := by decide +kernel
theorem dX5_requireSeatsLeft_5 : decode cX5_requireSeatsLeft 5 = .ok (.iconst 0, 1) := by decide +kernel
theorem dX5_requireSeatsLeft_6 : decode cX5_requireSeatsLeft 6 = .ok (.istore_n 3, 1) := by decide +kernel
theorem dX5_requireSeatsLeft_7 : decode cX5_requireSeatsLeft 7 = .ok (.iload_n 3, 1) := by decide +kernel
theorem dX5_requireSeatsLeft_8 : decode cX5_requireSeatsLeft 8 = .ok (.aload_n 1, 1) := by decide +kernel
theorem dX5_requireSeatsLeft_9 : decode cX5_requireSeatsLeft 9 = .ok (.getfield 101, 3) := by decide +kernel
theorem dX5_requireSeatsLeft_12 : decode cX5_requireSeatsLeft 12 = .ok (.invokevirtual 65, 3) := by decide +kernel
theorem dX5_requireSeatsLeft_15 : decode cX5_requireSeatsLeft 15 = .ok (.if_icmp .ge 59, 3) := by decide +kernel
theorem dX5_requireSeatsLeft_18 : decode cX5_requireSeatsLeft 18 = .ok (.aload_n 1, 1) := by decide +kernel
theorem dX5_requireSeatsLeft_19 : decode cX5_requireSeatsLeft 19 = .ok (.getfield 101, 3) := by decide +kernel
theorem dX5_requireSeatsLeft_22 : decode cX5_requireSeatsLeft 22 = .ok (.iload_n 3, 1) := by decide +kernel
theorem dX5_requireSeatsLeft_23 : decode cX5_requireSeatsLeft 23 = .ok (.invokevirtual 131, 3) := by decide +kernel
theorem dX5_requireSeatsLeft_26 : decode cX5_requireSeatsLeft 26 = .ok (.checkcast 109, 3) := by decide +kernel
theorem dX5_requireSeatsLeft_29 : decode cX5_requireSeatsLeft 29 = .ok (.astore 4, 2) := by decide +kernel
theorem dX5_requireSeatsLeft_31 : decode cX5_requireSeatsLeft 31 = .ok (.aload 4, 2) := by decide +kernel
theorem dX5_requireSeatsLeft_33 : decode cX5_requireSeatsLeft 33 = .ok (.getfield 175, 3) := by decide +kernel
theorem dX5_requireSeatsLeft_36 : decode cX5_requireSeatsLeft 36 = .ok (.ifCond .ne 32, 3) := by decide +kernel
theorem dX5_requireSeatsLeft_39 : decode cX5_requireSeatsLeft 39 = .ok (.aload 4, 2) := by decide +kernel
theorem dX5_requireSeatsLeft_41 : decode cX5_requireSeatsLeft 41 = .ok (.getfield 190, 3) := by decide +kernel
theorem dX5_requireSeatsLeft_44 : decode cX5_requireSeatsLeft 44 = .ok (.getfield 52, 3) := by decide +kernel
theorem dX5_requireSeatsLeft_47 : decode cX5_requireSeatsLeft 47 = .ok (.iload_n 2, 1) := by decide +kernel
theorem dX5_requireSeatsLeft_48 : decode cX5_requireSeatsLeft 48 = .ok (.if_icmp .gt 20, 3) := by decide +kernel
theorem dX5_requireSeatsLeft_51 : decode cX5_requireSeatsLeft 51 = .ok (.aload_n 0, 1) := by decide +kernel
theorem dX5_requireSeatsLeft_52 : decode cX5_requireSeatsLeft 52 = .ok (.iconst 3, 1) := by decide +kernel
theorem dX5_requireSeatsLeft_53 : decode cX5_requireSeatsLeft 53 = .ok (.iload_n 3, 1) := by decide +kernel
theorem dX5_requireSeatsLeft_54 : decode cX5_requireSeatsLeft 54 = .ok (.invokevirtual 314, 3) := by decide +kernel
theorem dX5_requireSeatsLeft_57 : decode cX5_requireSeatsLeft 57 = .ok (.new 318, 3) := by decide +kernel
theorem dX5_requireSeatsLeft_60 : decode cX5_requireSeatsLeft 60 = .ok (.dup, 1) := by decide +kernel
theorem dX5_requireSeatsLeft_61 : decode cX5_requireSeatsLeft 61 = .ok (.ldc_w 329, 3) := by decide +kernel
theorem dX5_requireSeatsLeft_64 : decode cX5_requireSeatsLeft 64 = .ok (.invokespecial 322, 3) := by decide +kernel
theorem dX5_requireSeatsLeft_67 : decode cX5_requireSeatsLeft 67 = .ok (.athrow, 1) := by decide +kernel
theorem dX5_requireSeatsLeft_68 : decode cX5_requireSeatsLeft 68 = .ok (.iinc 3 1, 3) := by decide +kernel
theorem dX5_requireSeatsLeft_71 : decode cX5_requireSeatsLeft 71 = .ok (.goto (-64), 3) := by decide +kernel
theorem dX5_requireSeatsLeft_74 : decode cX5_requireSeatsLeft 74 = .ok (.return_, 1) := by decide +kernel
theorem dX5_requireNoClashFor_0 : decode cX5_requireNoClashFor 0 = .ok (.iconst 0, 1) := by decide +kernel
theorem dX5_requireNoClashFor_1 : decode cX5_requireNoClashFor 1 = .ok (.istore_n 3, 1) := by decide +kernel
theorem dX5_requireNoClashFor_2 : decode cX5_requireNoClashFor 2 = .ok (.iload_n 3, 1) := by decide +kernel
theorem dX5_requireNoClashFor_3 : decode cX5_requireNoClashFor 3 = .ok (.aload_n 2, 1) := by decide +kernel
theorem dX5_requireNoClashFor_4 : decode cX5_requireNoClashFor 4 = .ok (.getfield 101, 3) := by decide +kernel
theorem dX5_requireNoClashFor_7 : decode cX5_requireNoClashFor 7 = .ok (.invokevirtual 65, 3) := by decide +kernel
theorem dX5_requireNoClashFor_10 : decode cX5_requireNoClashFor 10 = .ok (.if_icmp .ge 71, 3) := by decide +kernel
theorem dX5_requireNoClashFor_13 : decode cX5_requireNoClashFor 13 = .ok (.aload_n 2, 1) := by decide +kernel
theorem dX5_requireNoClashFor_14 : decode cX5_requireNoClashFor 14 = .ok (.getfield 101, 3) := by decide +kernel
theorem dX5_requireNoClashFor_17 : decode cX5_requireNoClashFor 17 = .ok (.iload_n 3, 1) := by decide +kernel
theorem dX5_requireNoClashFor_18 : decode cX5_requireNoClashFor 18 = .ok (.invokevirtual 131, 3) := by decide +kernel
theorem dX5_requireNoClashFor_21 : decode cX5_requireNoClashFor 21 = .ok (.checkcast 109, 3) := by decide +kernel
theorem dX5_requireNoClashFor_24 : decode cX5_requireNoClashFor 24 = .ok (.astore 4, 2) := by decide +kernel
theorem dX5_requireNoClashFor_26 : decode cX5_requireNoClashFor 26 = .ok (.aload 4, 2) := by decide +kernel
theorem dX5_requireNoClashFor_28 : decode cX5_requireNoClashFor 28 = .ok (.getfield 175, 3) := by decide +kernel
theorem dX5_requireNoClashFor_31 : decode cX5_requireNoClashFor 31 = .ok (.ifCond .ne 44, 3) := by decide +kernel
theorem dX5_requireNoClashFor_34 : decode cX5_requireNoClashFor 34 = .ok (.aload_n 0, 1) := by decide +kernel
theorem dX5_requireNoClashFor_35 : decode cX5_requireNoClashFor 35 = .ok (.iload_n 1, 1) := by decide +kernel
theorem dX5_requireNoClashFor_36 : decode cX5_requireNoClashFor 36 = .ok (.invokestatic 78, 3) := by decide +kernel
theorem dX5_requireNoClashFor_39 : decode cX5_requireNoClashFor 39 = .ok (.aload_n 2, 1) := by decide +kernel
theorem dX5_requireNoClashFor_40 : decode cX5_requireNoClashFor 40 = .ok (.aload 4, 2) := by decide +kernel
theorem dX5_requireNoClashFor_42 : decode cX5_requireNoClashFor 42 = .ok (.getfield 108, 3) := by decide +kernel
theorem dX5_requireNoClashFor_45 : decode cX5_requireNoClashFor 45 = .ok (.aload 4, 2) := by decide +kernel
theorem dX5_requireNoClashFor_47 : decode cX5_requireNoClashFor 47 = .ok (.getfield 190, 3) := by decide +kernel
theorem dX5_requireNoClashFor_50 : decode cX5_requireNoClashFor 50 = .ok (.aload 4, 2) := by decide +kernel
theorem dX5_requireNoClashFor_52 : decode cX5_requireNoClashFor 52 = .ok (.invokevirtual 331, 3) := by decide +kernel
theorem dX5_requireNoClashFor_55 : decode cX5_requireNoClashFor 55 = .ok (.ifCond .eq 20, 3) := by decide +kernel
theorem dX5_requireNoClashFor_58 : decode cX5_requireNoClashFor 58 = .ok (.aload_n 0, 1) := by decide +kernel
theorem dX5_requireNoClashFor_59 : decode cX5_requireNoClashFor 59 = .ok (.iconst 4, 1) := by decide +kernel
theorem dX5_requireNoClashFor_60 : decode cX5_requireNoClashFor 60 = .ok (.iload_n 3, 1) := by decide +kernel
theorem dX5_requireNoClashFor_61 : decode cX5_requireNoClashFor 61 = .ok (.invokevirtual 314, 3) := by decide +kernel
theorem dX5_requireNoClashFor_64 : decode cX5_requireNoClashFor 64 = .ok (.new 318, 3) := by decide +kernel
theorem dX5_requireNoClashFor_67 : decode cX5_requireNoClashFor 67 = .ok (.dup, 1) := by decide +kernel
theorem dX5_requireNoClashFor_68 : decode cX5_requireNoClashFor 68 = .ok (.ldc_w 335, 3) := by decide +kernel
theorem dX5_requireNoClashFor_71 : decode cX5_requireNoClashFor 71 = .ok (.invokespecial 322, 3) := by decide +kernel
theorem dX5_requireNoClashFor_74 : decode cX5_requireNoClashFor 74 = .ok (.athrow, 1) := by decide +kernel
theorem dX5_requireNoClashFor_75 : decode cX5_requireNoClashFor 75 = .ok (.iinc 3 1, 3) := by decide +kernel
theorem dX5_requireNoClashFor_78 : decode cX5_requireNoClashFor 78 = .ok (.goto (-76), 3) := by decide +kernel
theorem dX5_requireNoClashFor_81 : decode cX5_requireNoClashFor 81 = .ok (.return_, 1) := by decide +kernel
theorem dX5_busyPeople_0 : decode cX5_busyPeople 0 = .ok (.aload_n 0, 1) := by decide +kernel
theorem dX5_busyPeople_1 : decode cX5_busyPeople 1 = .ok (.aload_n 1, 1) := by decide +kernel
theorem dX5_busyPeople_2 : decode cX5_busyPeople 2 = .ok (.getfield 114, 3) := by decide +kernel
theorem dX5_busyPeople_5 : decode cX5_busyPeople 5 = .ok (.invokevirtual 242, 3) := by decide +kernel
theorem dX5_busyPeople_8 : decode cX5_busyPeople 8 = .ok (.getfield 246, 3) := by decide +kernel
theorem dX5_busyPeople_11 : decode cX5_busyPeople 11 = .ok (.astore_n 3, 1) := by decide +kernel
theorem dX5_busyPeople_12 : decode cX5_busyPeople 12 = .ok (.iconst 0, 1) := by decide +kernel
theorem dX5_busyPeople_13 : decode cX5_busyPeople 13 = .ok (.istore 4, 2) := by decide +kernel
theorem dX5_busyPeople_15 : decode cX5_busyPeople 15 = .ok (.iconst 0, 1) := by decide +kernel
theorem dX5_busyPeople_16 : decode cX5_busyPeople 16 = .ok (.istore 5, 2) := by decide +kernel
theorem dX5_busyPeople_18 : decode cX5_busyPeople 18 = .ok (.iload 5, 2) := by decide +kernel
theorem dX5_busyPeople_20 : decode cX5_busyPeople 20 = .ok (.aload_n 3, 1) := by decide +kernel
theorem dX5_busyPeople_21 : decode cX5_busyPeople 21 = .ok (.invokevirtual 65, 3) := by decide +kernel
theorem dX5_busyPeople_24 : decode cX5_busyPeople 24 = .ok (.if_icmp .ge 51, 3) := by decide +kernel
theorem dX5_busyPeople_27 : decode cX5_busyPeople 27 = .ok (.aload_n 3, 1) := by decide +kernel
theorem dX5_busyPeople_28 : decode cX5_busyPeople 28 = .ok (.iload 5, 2) := by decide +kernel
theorem dX5_busyPeople_30 : decode cX5_busyPeople 30 = .ok (.invokevirtual 131, 3) := by decide +kernel
theorem dX5_busyPeople_33 : decode cX5_busyPeople 33 = .ok (.checkcast 109, 3) := by decide +kernel
theorem dX5_busyPeople_36 : decode cX5_busyPeople 36 = .ok (.astore 6, 2) := by decide +kernel
theorem dX5_busyPeople_38 : decode cX5_busyPeople 38 = .ok (.aload 6, 2) := by decide +kernel
theorem dX5_busyPeople_40 : decode cX5_busyPeople 40 = .ok (.aload_n 2, 1) := by decide +kernel
theorem dX5_busyPeople_41 : decode cX5_busyPeople 41 = .ok (.if_acmp .eq 28, 3) := by decide +kernel
theorem dX5_busyPeople_44 : decode cX5_busyPeople 44 = .ok (.aload 6, 2) := by decide +kernel
theorem dX5_busyPeople_46 : decode cX5_busyPeople 46 = .ok (.getfield 108, 3) := by decide +kernel
theorem dX5_busyPeople_49 : decode cX5_busyPeople 49 = .ok (.aload_n 1, 1) := by decide +kernel
theorem dX5_busyPeople_50 : decode cX5_busyPeople 50 = .ok (.invokevirtual 337, 3) := by decide +kernel
theorem dX5_busyPeople_53 : decode cX5_busyPeople 53 = .ok (.ifCond .ge 16, 3) := by decide +kernel
theorem dX5_busyPeople_56 : decode cX5_busyPeople 56 = .ok (.iload 4, 2) := by decide +kernel
theorem dX5_busyPeople_58 : decode cX5_busyPeople 58 = .ok (.aload 6, 2) := by decide +kernel
theorem dX5_busyPeople_60 : decode cX5_busyPeople 60 = .ok (.getfield 218, 3) := by decide +kernel
theorem dX5_busyPeople_63 : decode cX5_busyPeople 63 = .ok (.invokevirtual 308, 3) := by decide +kernel
theorem dX5_busyPeople_66 : decode cX5_busyPeople 66 = .ok (.ior, 1) := by decide +kernel
theorem dX5_busyPeople_67 : decode cX5_busyPeople 67 = .ok (.istore 4, 2) := by decide +kernel
theorem dX5_busyPeople_69 : decode cX5_busyPeople 69 = .ok (.iinc 5 1, 3) := by decide +kernel
theorem dX5_busyPeople_72 : decode cX5_busyPeople 72 = .ok (.goto (-54), 3) := by decide +kernel
theorem dX5_busyPeople_75 : decode cX5_busyPeople 75 = .ok (.iload 4, 2) := by decide +kernel
theorem dX5_busyPeople_77 : decode cX5_busyPeople 77 = .ok (.ireturn, 1) := by decide +kernel
theorem dX5_bestRoom_0 : decode cX5_bestRoom 0 = .ok (.iload_n 1, 1) := by decide +kernel
theorem dX5_bestRoom_1 : decode cX5_bestRoom 1 = .ok (.invokestatic 262, 3) := by decide +kernel
theorem dX5_bestRoom_4 : decode cX5_bestRoom 4 = .ok (.istore 4, 2) := by decide +kernel
theorem dX5_bestRoom_6 : decode cX5_bestRoom 6 = .ok (.aconst_null, 1) := by decide +kernel
theorem dX5_bestRoom_7 : decode cX5_bestRoom 7 = .ok (.astore 5, 2) := by decide +kernel
theorem dX5_bestRoom_9 : decode cX5_bestRoom 9 = .ok (.iconst 0, 1) := by decide +kernel
theorem dX5_bestRoom_10 : decode cX5_bestRoom 10 = .ok (.istore 6, 2) := by decide +kernel
theorem dX5_bestRoom_12 : decode cX5_bestRoom 12 = .ok (.iload 6, 2) := by decide +kernel
theorem dX5_bestRoom_14 : decode cX5_bestRoom 14 = .ok (.aload_n 0, 1) := by decide +kernel
theorem dX5_bestRoom_15 : decode cX5_bestRoom 15 = .ok (.getfield 12, 3) := by decide +kernel
theorem dX5_bestRoom_18 : decode cX5_bestRoom 18 = .ok (.arraylength, 1) := by decide +kernel
theorem dX5_bestRoom_19 : decode cX5_bestRoom 19 = .ok (.if_icmp .ge 86, 3) := by decide +kernel
theorem dX5_bestRoom_22 : decode cX5_bestRoom 22 = .ok (.aload_n 0, 1) := by decide +kernel
theorem dX5_bestRoom_23 : decode cX5_bestRoom 23 = .ok (.getfield 12, 3) := by decide +kernel
theorem dX5_bestRoom_26 : decode cX5_bestRoom 26 = .ok (.iload 6, 2) := by decide +kernel
theorem dX5_bestRoom_28 : decode cX5_bestRoom 28 = .ok (.aaload, 1) := by decide +kernel
theorem dX5_bestRoom_29 : decode cX5_bestRoom 29 = .ok (.astore 7, 2) := by decide +kernel
theorem dX5_bestRoom_31 : decode cX5_bestRoom 31 = .ok (.aload 5, 2) := by decide +kernel
theorem dX5_bestRoom_33 : decode cX5_bestRoom 33 = .ok (.ifnull 16, 3) := by decide +kernel
theorem dX5_bestRoom_36 : decode cX5_bestRoom 36 = .ok (.aload 7, 2) := by decide +kernel
theorem dX5_bestRoom_38 : decode cX5_bestRoom 38 = .ok (.getfield 52, 3) := by decide +kernel
theorem dX5_bestRoom_41 : decode cX5_bestRoom 41 = .ok (.aload 5, 2) := by decide +kernel
theorem dX5_bestRoom_43 : decode cX5_bestRoom 43 = .ok (.getfield 52, 3) := by decide +kernel
theorem dX5_bestRoom_46 : decode cX5_bestRoom 46 = .ok (.if_icmp .ge 7, 3) := by decide +kernel
theorem dX5_bestRoom_49 : decode cX5_bestRoom 49 = .ok (.iconst 1, 1) := by decide +kernel
theorem dX5_bestRoom_50 : decode cX5_bestRoom 50 = .ok (.goto 4, 3) := by decide +kernel
theorem dX5_bestRoom_53 : decode cX5_bestRoom 53 = .ok (.iconst 0, 1) := by decide +kernel
theorem dX5_bestRoom_54 : decode cX5_bestRoom 54 = .ok (.istore 8, 2) := by decide +kernel
theorem dX5_bestRoom_56 : decode cX5_bestRoom 56 = .ok (.iload 8, 2) := by decide +kernel
theorem dX5_bestRoom_58 : decode cX5_bestRoom 58 = .ok (.ifCond .eq 41, 3) := by decide +kernel
theorem dX5_bestRoom_61 : decode cX5_bestRoom 61 = .ok (.aload 7, 2) := by decide +kernel
theorem dX5_bestRoom_63 : decode cX5_bestRoom 63 = .ok (.getfield 52, 3) := by decide +kernel
theorem dX5_bestRoom_66 : decode cX5_bestRoom 66 = .ok (.iload 4, 2) := by decide +kernel
theorem dX5_bestRoom_68 : decode cX5_bestRoom 68 = .ok (.if_icmp .lt 31, 3) := by decide +kernel
theorem dX5_bestRoom_71 : decode cX5_bestRoom 71 = .ok (.aload_n 0, 1) := by decide +kernel
theorem dX5_bestRoom_72 : decode cX5_bestRoom 72 = .ok (.aload 7, 2) := by decide +kernel
theorem dX5_bestRoom_74 : decode cX5_bestRoom 74 = .ok (.aload_n 2, 1) := by decide +kernel
theorem dX5_bestRoom_75 : decode cX5_bestRoom 75 = .ok (.aload_n 3, 1) := by decide +kernel
theorem dX5_bestRoom_76 : decode cX5_bestRoom 76 = .ok (.invokevirtual 341, 3) := by decide +kernel
theorem dX5_bestRoom_79 : decode cX5_bestRoom 79 = .ok (.ifCond .ne 20, 3) := by decide +kernel
theorem dX5_bestRoom_82 : decode cX5_bestRoom 82 = .ok (.aload_n 0, 1) := by decide +kernel
theorem dX5_bestRoom_83 : decode cX5_bestRoom 83 = .ok (.iload_n 1, 1) := by decide +kernel
theorem dX5_bestRoom_84 : decode cX5_bestRoom 84 = .ok (.aconst_null, 1) := by decide +kernel
theorem dX5_bestRoom_85 : decode cX5_bestRoom 85 = .ok (.aload_n 2, 1) := by decide +kernel
theorem dX5_bestRoom_86 : decode cX5_bestRoom 86 = .ok (.aload 7, 2) := by decide +kernel
theorem dX5_bestRoom_88 : decode cX5_bestRoom 88 = .ok (.aload_n 3, 1) := by decide +kernel
theorem dX5_bestRoom_89 : decode cX5_bestRoom 89 = .ok (.invokevirtual 331, 3) := by decide +kernel
theorem dX5_bestRoom_92 : decode cX5_bestRoom 92 = .ok (.ifCond .ne 7, 3) := by decide +kernel
theorem dX5_bestRoom_95 : decode cX5_bestRoom 95 = .ok (.aload 7, 2) := by decide +kernel
theorem dX5_bestRoom_97 : decode cX5_bestRoom 97 = .ok (.astore 5, 2) := by decide +kernel
theorem dX5_bestRoom_99 : decode cX5_bestRoom 99 = .ok (.iinc 6 1, 3) := by decide +kernel
theorem dX5_bestRoom_102 : decode cX5_bestRoom 102 = .ok (.goto (-90), 3) := by decide +kernel
theorem dX5_bestRoom_105 : decode cX5_bestRoom 105 = .ok (.aload 5, 2) := by decide +kernel
theorem dX5_bestRoom_107 : decode cX5_bestRoom 107 = .ok (.areturn, 1) := by decide +kernel
theorem dX5_isTaken_0 : decode cX5_isTaken 0 = .ok (.aload_n 0, 1) := by decide +kernel
theorem dX5_isTaken_1 : decode cX5_isTaken 1 = .ok (.aload_n 2, 1) := by decide +kernel
theorem dX5_isTaken_2 : decode cX5_isTaken 2 = .ok (.getfield 114, 3) := by decide +kernel
theorem dX5_isTaken_5 : decode cX5_isTaken 5 = .ok (.invokevirtual 242, 3) := by decide +kernel
theorem dX5_isTaken_8 : decode cX5_isTaken 8 = .ok (.getfield 246, 3) := by decide +kernel
theorem dX5_isTaken_11 : decode cX5_isTaken 11 = .ok (.astore 4, 2) := by decide +kernel
theorem dX5_isTaken_13 : decode cX5_isTaken 13 = .ok (.iconst 0, 1) := by decide +kernel
theorem dX5_isTaken_14 : decode cX5_isTaken 14 = .ok (.istore 5, 2) := by decide +kernel
theorem dX5_isTaken_16 : decode cX5_isTaken 16 = .ok (.iload 5, 2) := by decide +kernel
theorem dX5_isTaken_18 : decode cX5_isTaken 18 = .ok (.aload 4, 2) := by decide +kernel
theorem dX5_isTaken_20 : decode cX5_isTaken 20 = .ok (.invokevirtual 65, 3) := by decide +kernel
theorem dX5_isTaken_23 : decode cX5_isTaken 23 = .ok (.if_icmp .ge 50, 3) := by decide +kernel
theorem dX5_isTaken_26 : decode cX5_isTaken 26 = .ok (.aload 4, 2) := by decide +kernel
theorem dX5_isTaken_28 : decode cX5_isTaken 28 = .ok (.iload 5, 2) := by decide +kernel
theorem dX5_isTaken_30 : decode cX5_isTaken 30 = .ok (.invokevirtual 131, 3) := by decide +kernel
theorem dX5_isTaken_33 : decode cX5_isTaken 33 = .ok (.checkcast 109, 3) := by decide +kernel
theorem dX5_isTaken_36 : decode cX5_isTaken 36 = .ok (.astore 6, 2) := by decide +kernel
theorem dX5_isTaken_38 : decode cX5_isTaken 38 = .ok (.aload 6, 2) := by decide +kernel
theorem dX5_isTaken_40 : decode cX5_isTaken 40 = .ok (.aload_n 3, 1) := by decide +kernel
theorem dX5_isTaken_41 : decode cX5_isTaken 41 = .ok (.if_acmp .eq 26, 3) := by decide +kernel
theorem dX5_isTaken_44 : decode cX5_isTaken 44 = .ok (.aload 6, 2) := by decide +kernel
theorem dX5_isTaken_46 : decode cX5_isTaken 46 = .ok (.getfield 190, 3) := by decide +kernel
theorem dX5_isTaken_49 : decode cX5_isTaken 49 = .ok (.aload_n 1, 1) := by decide +kernel
theorem dX5_isTaken_50 : decode cX5_isTaken 50 = .ok (.if_acmp .ne 17, 3) := by decide +kernel
theorem dX5_isTaken_53 : decode cX5_isTaken 53 = .ok (.aload 6, 2) := by decide +kernel
theorem dX5_isTaken_55 : decode cX5_isTaken 55 = .ok (.getfield 108, 3) := by decide +kernel
theorem dX5_isTaken_58 : decode cX5_isTaken 58 = .ok (.aload_n 2, 1) := by decide +kernel
theorem dX5_isTaken_59 : decode cX5_isTaken 59 = .ok (.invokevirtual 337, 3) := by decide +kernel
theorem dX5_isTaken_62 : decode cX5_isTaken 62 = .ok (.ifCond .ge 5, 3) := by decide +kernel
theorem dX5_isTaken_65 : decode cX5_isTaken 65 = .ok (.iconst 1, 1) := by decide +kernel
theorem dX5_isTaken_66 : decode cX5_isTaken 66 = .ok (.ireturn, 1) := by decide +kernel
theorem dX5_isTaken_67 : decode cX5_isTaken 67 = .ok (.iinc 5 1, 3) := by decide +kernel
theorem dX5_isTaken_70 : decode cX5_isTaken 70 = .ok (.goto (-54), 3) := by decide +kernel
theorem dX5_isTaken_73 : decode cX5_isTaken 73 = .ok (.iconst 0, 1) := by decide +kernel
theorem dX5_isTaken_74 : decode cX5_isTaken 74 = .ok (.ireturn, 1) := by decide +kernel
theorem dX5_wouldClash_0 : decode cX5_wouldClash 0 = .ok (.aload_n 0, 1) := by decide +kernel
theorem dX5_wouldClash_1 : decode cX5_wouldClash 1 = .ok (.aload_n 3, 1) := by decide +kernel
theorem dX5_wouldClash_2 : decode cX5_wouldClash 2 = .ok (.getfield 114, 3) := by decide +kernel
theorem dX5_wouldClash_5 : decode cX5_wouldClash 5 = .ok (.invokevirtual 242, 3) := by decide +kernel
theorem dX5_wouldClash_8 : decode cX5_wouldClash 8 = .ok (.getfield 246, 3) := by decide +kernel
theorem dX5_wouldClash_11 : decode cX5_wouldClash 11 = .ok (.astore 6, 2) := by decide +kernel
theorem dX5_wouldClash_13 : decode cX5_wouldClash 13 = .ok (.iconst 0, 1) := by decide +kernel
theorem dX5_wouldClash_14 : decode cX5_wouldClash 14 = .ok (.istore 7, 2) := by decide +kernel
theorem dX5_wouldClash_16 : decode cX5_wouldClash 16 = .ok (.iload 7, 2) := by decide +kernel
theorem dX5_wouldClash_18 : decode cX5_wouldClash 18 = .ok (.aload 6, 2) := by decide +kernel
theorem dX5_wouldClash_20 : decode cX5_wouldClash 20 = .ok (.invokevirtual 65, 3) := by decide +kernel
theorem dX5_wouldClash_23 : decode cX5_wouldClash 23 = .ok (.if_icmp .ge 118, 3) := by decide +kernel
theorem dX5_wouldClash_26 : decode cX5_wouldClash 26 = .ok (.aload 6, 2) := by decide +kernel
theorem dX5_wouldClash_28 : decode cX5_wouldClash 28 = .ok (.iload 7, 2) := by decide +kernel
theorem dX5_wouldClash_30 : decode cX5_wouldClash 30 = .ok (.invokevirtual 131, 3) := by decide +kernel
theorem dX5_wouldClash_33 : decode cX5_wouldClash 33 = .ok (.checkcast 109, 3) := by decide +kernel
theorem dX5_wouldClash_36 : decode cX5_wouldClash 36 = .ok (.astore 8, 2) := by decide +kernel
theorem dX5_wouldClash_38 : decode cX5_wouldClash 38 = .ok (.aload 8, 2) := by decide +kernel
theorem dX5_wouldClash_40 : decode cX5_wouldClash 40 = .ok (.getfield 218, 3) := by decide +kernel
theorem dX5_wouldClash_43 : decode cX5_wouldClash 43 = .ok (.astore 9, 2) := by decide +kernel
theorem dX5_wouldClash_45 : decode cX5_wouldClash 45 = .ok (.aload 9, 2) := by decide +kernel
theorem dX5_wouldClash_47 : decode cX5_wouldClash 47 = .ok (.aload_n 2, 1) := by decide +kernel
theorem dX5_wouldClash_48 : decode cX5_wouldClash 48 = .ok (.if_acmp .eq 13, 3) := by decide +kernel
theorem dX5_wouldClash_51 : decode cX5_wouldClash 51 = .ok (.aload 9, 2) := by decide +kernel
theorem dX5_wouldClash_53 : decode cX5_wouldClash 53 = .ok (.invokevirtual 308, 3) := by decide +kernel
theorem dX5_wouldClash_56 : decode cX5_wouldClash 56 = .ok (.iload_n 1, 1) := by decide +kernel
theorem dX5_wouldClash_57 : decode cX5_wouldClash 57 = .ok (.iand, 1) := by decide +kernel
theorem dX5_wouldClash_58 : decode cX5_wouldClash 58 = .ok (.ifCond .eq 7, 3) := by decide +kernel
theorem dX5_wouldClash_61 : decode cX5_wouldClash 61 = .ok (.iconst 1, 1) := by decide +kernel
theorem dX5_wouldClash_62 : decode cX5_wouldClash 62 = .ok (.goto 4, 3) := by decide +kernel
theorem dX5_wouldClash_65 : decode cX5_wouldClash 65 = .ok (.iconst 0, 1) := by decide +kernel
theorem dX5_wouldClash_66 : decode cX5_wouldClash 66 = .ok (.istore 10, 2) := by decide +kernel
theorem dX5_wouldClash_68 : decode cX5_wouldClash 68 = .ok (.aload 8, 2) := by decide +kernel
theorem dX5_wouldClash_70 : decode cX5_wouldClash 70 = .ok (.getfield 108, 3) := by decide +kernel
theorem dX5_wouldClash_73 : decode cX5_wouldClash 73 = .ok (.aload_n 3, 1) := by decide +kernel
theorem dX5_wouldClash_74 : decode cX5_wouldClash 74 = .ok (.invokevirtual 337, 3) := by decide +kernel
theorem dX5_wouldClash_77 : decode cX5_wouldClash 77 = .ok (.istore 11, 2) := by decide +kernel
theorem dX5_wouldClash_79 : decode cX5_wouldClash 79 = .ok (.iload 11, 2) := by decide +kernel
theorem dX5_wouldClash_81 : decode cX5_wouldClash 81 = .ok (.ifCond .lt 28, 3) := by decide +kernel
theorem dX5_wouldClash_84 : decode cX5_wouldClash 84 = .ok (.aload 8, 2) := by decide +kernel
theorem dX5_wouldClash_86 : decode cX5_wouldClash 86 = .ok (.getfield 190, 3) := by decide +kernel
theorem dX5_wouldClash_89 : decode cX5_wouldClash 89 = .ok (.getfield 55, 3) := by decide +kernel
theorem dX5_wouldClash_92 : decode cX5_wouldClash 92 = .ok (.aload 4, 2) := by decide +kernel
theorem dX5_wouldClash_94 : decode cX5_wouldClash 94 = .ok (.getfield 55, 3) := by decide +kernel
theorem dX5_wouldClash_97 : decode cX5_wouldClash 97 = .ok (.if_icmp .eq 16, 3) := by decide +kernel
theorem dX5_wouldClash_100 : decode cX5_wouldClash 100 = .ok (.iload 11, 2) := by decide +kernel
theorem dX5_wouldClash_102 : decode cX5_wouldClash 102 = .ok (.aload_n 0, 1) := by decide +kernel
theorem dX5_wouldClash_103 : decode cX5_wouldClash 103 = .ok (.getfield 32, 3) := by decide +kernel
theorem dX5_wouldClash_106 : decode cX5_wouldClash 106 = .ok (.if_icmp .ge 7, 3) := by decide +kernel
theorem dX5_wouldClash_109 : decode cX5_wouldClash 109 = .ok (.iconst 1, 1) := by decide +kernel
theorem dX5_wouldClash_110 : decode cX5_wouldClash 110 = .ok (.goto 4, 3) := by decide +kernel
theorem dX5_wouldClash_113 : decode cX5_wouldClash 113 = .ok (.iconst 0, 1) := by decide +kernel
theorem dX5_wouldClash_114 : decode cX5_wouldClash 114 = .ok (.istore 12, 2) := by decide +kernel
theorem dX5_wouldClash_116 : decode cX5_wouldClash 116 = .ok (.aload 8, 2) := by decide +kernel
theorem dX5_wouldClash_118 : decode cX5_wouldClash 118 = .ok (.aload 5, 2) := by decide +kernel
theorem dX5_wouldClash_120 : decode cX5_wouldClash 120 = .ok (.if_acmp .eq 15, 3) := by decide +kernel
theorem dX5_wouldClash_123 : decode cX5_wouldClash 123 = .ok (.iload 10, 2) := by decide +kernel
theorem dX5_wouldClash_125 : decode cX5_wouldClash 125 = .ok (.ifCond .eq 10, 3) := by decide +kernel
theorem dX5_wouldClash_128 : decode cX5_wouldClash 128 = .ok (.iload 12, 2) := by decide +kernel
theorem dX5_wouldClash_130 : decode cX5_wouldClash 130 = .ok (.ifCond .eq 5, 3) := by decide +kernel
theorem dX5_wouldClash_133 : decode cX5_wouldClash 133 = .ok (.iconst 1, 1) := by decide +kernel
theorem dX5_wouldClash_134 : decode cX5_wouldClash 134 = .ok (.ireturn, 1) := by decide +kernel
theorem dX5_wouldClash_135 : decode cX5_wouldClash 135 = .ok (.iinc 7 1, 3) := by decide +kernel
theorem dX5_wouldClash_138 : decode cX5_wouldClash 138 = .ok (.goto (-122), 3) := by decide +kernel
theorem dX5_wouldClash_141 : decode cX5_wouldClash 141 = .ok (.iconst 0, 1) := by decide +kernel
theorem dX5_wouldClash_142 : decode cX5_wouldClash 142 = .ok (.ireturn, 1) := by decide +kernel
theorem dX5_dateOfPersonAt_0 : decode cX5_dateOfPersonAt 0 = .ok (.aload_n 0, 1) := by decide +kernel
theorem dX5_dateOfPersonAt_1 : decode cX5_dateOfPersonAt 1 = .ok (.iload_n 2, 1) := by decide +kernel
theorem dX5_dateOfPersonAt_2 : decode cX5_dateOfPersonAt 2 = .ok (.invokevirtual 242, 3) := by decide +kernel
theorem dX5_dateOfPersonAt_5 : decode cX5_dateOfPersonAt 5 = .ok (.getfield 246, 3) := by decide +kernel
theorem dX5_dateOfPersonAt_8 : decode cX5_dateOfPersonAt 8 = .ok (.astore 4, 2) := by decide +kernel
theorem dX5_dateOfPersonAt_10 : decode cX5_dateOfPersonAt 10 = .ok (.iconst 0, 1) := by decide +kernel
theorem dX5_dateOfPersonAt_11 : decode cX5_dateOfPersonAt 11 = .ok (.istore 5, 2) := by decide +kernel
theorem dX5_dateOfPersonAt_13 : decode cX5_dateOfPersonAt 13 = .ok (.iload 5, 2) := by decide +kernel
theorem dX5_dateOfPersonAt_15 : decode cX5_dateOfPersonAt 15 = .ok (.aload 4, 2) := by decide +kernel
theorem dX5_dateOfPersonAt_17 : decode cX5_dateOfPersonAt 17 = .ok (.invokevirtual 65, 3) := by decide +kernel
theorem dX5_dateOfPersonAt_20 : decode cX5_dateOfPersonAt 20 = .ok (.if_icmp .ge 48, 3) := by decide +kernel
theorem dX5_dateOfPersonAt_23 : decode cX5_dateOfPersonAt 23 = .ok (.aload 4, 2) := by decide +kernel
theorem dX5_dateOfPersonAt_25 : decode cX5_dateOfPersonAt 25 = .ok (.iload 5, 2) := by decide +kernel
theorem dX5_dateOfPersonAt_27 : decode cX5_dateOfPersonAt 27 = .ok (.invokevirtual 131, 3) := by decide +kernel
theorem dX5_dateOfPersonAt_30 : decode cX5_dateOfPersonAt 30 = .ok (.checkcast 109, 3) := by decide +kernel
theorem dX5_dateOfPersonAt_33 : decode cX5_dateOfPersonAt 33 = .ok (.astore 6, 2) := by decide +kernel
theorem dX5_dateOfPersonAt_35 : decode cX5_dateOfPersonAt 35 = .ok (.aload 6, 2) := by decide +kernel
theorem dX5_dateOfPersonAt_37 : decode cX5_dateOfPersonAt 37 = .ok (.getfield 108, 3) := by decide +kernel
theorem dX5_dateOfPersonAt_40 : decode cX5_dateOfPersonAt 40 = .ok (.iload_n 3, 1) := by decide +kernel
theorem dX5_dateOfPersonAt_41 : decode cX5_dateOfPersonAt 41 = .ok (.invokevirtual 345, 3) := by decide +kernel
theorem dX5_dateOfPersonAt_44 : decode cX5_dateOfPersonAt 44 = .ok (.ifCond .eq 18, 3) := by decide +kernel
theorem dX5_dateOfPersonAt_47 : decode cX5_dateOfPersonAt 47 = .ok (.aload 6, 2) := by decide +kernel
theorem dX5_dateOfPersonAt_49 : decode cX5_dateOfPersonAt 49 = .ok (.getfield 218, 3) := by decide +kernel
theorem dX5_dateOfPersonAt_52 : decode cX5_dateOfPersonAt 52 = .ok (.iload_n 1, 1) := by decide +kernel
theorem dX5_dateOfPersonAt_53 : decode cX5_dateOfPersonAt 53 = .ok (.invokevirtual 247, 3) := by decide +kernel
theorem dX5_dateOfPersonAt_56 : decode cX5_dateOfPersonAt 56 = .ok (.ifCond .eq 6, 3) := by decide +kernel
theorem dX5_dateOfPersonAt_59 : decode cX5_dateOfPersonAt 59 = .ok (.aload 6, 2) := by decide +kernel
theorem dX5_dateOfPersonAt_61 : decode cX5_dateOfPersonAt 61 = .ok (.areturn, 1) := by decide +kernel
theorem dX5_dateOfPersonAt_62 : decode cX5_dateOfPersonAt 62 = .ok (.iinc 5 1, 3) := by decide +kernel
theorem dX5_dateOfPersonAt_65 : decode cX5_dateOfPersonAt 65 = .ok (.goto (-52), 3) := by decide +kernel
theorem dX5_dateOfPersonAt_68 : decode cX5_dateOfPersonAt 68 = .ok (.aconst_null, 1) := by decide +kernel
theorem dX5_dateOfPersonAt_69 : decode cX5_dateOfPersonAt 69 = .ok (.areturn, 1) := by decide +kernel
theorem dX5_countFreeBySweep_0 : decode cX5_countFreeBySweep 0 = .ok (.aload_n 0, 1) := by decide +kernel
theorem dX5_countFreeBySweep_1 : decode cX5_countFreeBySweep 1 = .ok (.iload_n 2, 1) := by decide +kernel
theorem dX5_countFreeBySweep_2 : decode cX5_countFreeBySweep 2 = .ok (.invokevirtual 242, 3) := by decide +kernel
theorem dX5_countFreeBySweep_5 : decode cX5_countFreeBySweep 5 = .ok (.getfield 246, 3) := by decide +kernel
theorem dX5_countFreeBySweep_8 : decode cX5_countFreeBySweep 8 = .ok (.astore_n 3, 1) := by decide +kernel
theorem dX5_countFreeBySweep_9 : decode cX5_countFreeBySweep 9 = .ok (.iconst 0, 1) := by decide +kernel
theorem dX5_countFreeBySweep_10 : decode cX5_countFreeBySweep 10 = .ok (.istore 4, 2) := by decide +kernel
theorem dX5_countFreeBySweep_12 : decode cX5_countFreeBySweep 12 = .ok (.iconst 0, 1) := by decide +kernel
theorem dX5_countFreeBySweep_13 : decode cX5_countFreeBySweep 13 = .ok (.istore 5, 2) := by decide +kernel
theorem dX5_countFreeBySweep_15 : decode cX5_countFreeBySweep 15 = .ok (.iconst 0, 1) := by decide +kernel
theorem dX5_countFreeBySweep_16 : decode cX5_countFreeBySweep 16 = .ok (.istore 6, 2) := by decide +kernel
theorem dX5_countFreeBySweep_18 : decode cX5_countFreeBySweep 18 = .ok (.iload 6, 2) := by decide +kernel
theorem dX5_countFreeBySweep_20 : decode cX5_countFreeBySweep 20 = .ok (.aload_n 3, 1) := by decide +kernel
theorem dX5_countFreeBySweep_21 : decode cX5_countFreeBySweep 21 = .ok (.invokevirtual 65, 3) := by decide +kernel
theorem dX5_countFreeBySweep_24 : decode cX5_countFreeBySweep 24 = .ok (.if_icmp .ge 67, 3) := by decide +kernel
theorem dX5_countFreeBySweep_27 : decode cX5_countFreeBySweep 27 = .ok (.aload_n 3, 1) := by decide +kernel
theorem dX5_countFreeBySweep_28 : decode cX5_countFreeBySweep 28 = .ok (.iload 6, 2) := by decide +kernel
theorem dX5_countFreeBySweep_30 : decode cX5_countFreeBySweep 30 = .ok (.invokevirtual 131, 3) := by decide +kernel
theorem dX5_countFreeBySweep_33 : decode cX5_countFreeBySweep 33 = .ok (.checkcast 109, 3) := by decide +kernel
theorem dX5_countFreeBySweep_36 : decode cX5_countFreeBySweep 36 = .ok (.astore 7, 2) := by decide +kernel
theorem dX5_countFreeBySweep_38 : decode cX5_countFreeBySweep 38 = .ok (.aload 7, 2) := by decide +kernel
theorem dX5_countFreeBySweep_40 : decode cX5_countFreeBySweep 40 = .ok (.getfield 218, 3) := by decide +kernel
theorem dX5_countFreeBySweep_43 : decode cX5_countFreeBySweep 43 = .ok (.iload_n 1, 1) := by decide +kernel
theorem dX5_countFreeBySweep_44 : decode cX5_countFreeBySweep 44 = .ok (.invokevirtual 247, 3) := by decide +kernel
theorem dX5_countFreeBySweep_47 : decode cX5_countFreeBySweep 47 = .ok (.ifCond .eq 38, 3) := by decide +kernel
theorem dX5_countFreeBySweep_50 : decode cX5_countFreeBySweep 50 = .ok (.iload 4, 2) := by decide +kernel
theorem dX5_countFreeBySweep_52 : decode cX5_countFreeBySweep 52 = .ok (.aload 7, 2) := by decide +kernel
theorem dX5_countFreeBySweep_54 : decode cX5_countFreeBySweep 54 = .ok (.getfield 108, 3) := by decide +kernel
theorem dX5_countFreeBySweep_57 : decode cX5_countFreeBySweep 57 = .ok (.getfield 122, 3) := by decide +kernel
theorem dX5_countFreeBySweep_60 : decode cX5_countFreeBySweep 60 = .ok (.iload 5, 2) := by decide +kernel
theorem dX5_countFreeBySweep_62 : decode cX5_countFreeBySweep 62 = .ok (.isub, 1) := by decide +kernel
theorem dX5_countFreeBySweep_63 : decode cX5_countFreeBySweep 63 = .ok (.iconst 0, 1) := by decide +kernel
theorem dX5_countFreeBySweep_64 : decode cX5_countFreeBySweep 64 = .ok (.invokestatic 229, 3) := by decide +kernel
theorem dX5_countFreeBySweep_67 : decode cX5_countFreeBySweep 67 = .ok (.iadd, 1) := by decide +kernel
theorem dX5_countFreeBySweep_68 : decode cX5_countFreeBySweep 68 = .ok (.istore 4, 2) := by decide +kernel
theorem dX5_countFreeBySweep_70 : decode cX5_countFreeBySweep 70 = .ok (.aload 7, 2) := by decide +kernel
theorem dX5_countFreeBySweep_72 : decode cX5_countFreeBySweep 72 = .ok (.getfield 108, 3) := by decide +kernel
theorem dX5_countFreeBySweep_75 : decode cX5_countFreeBySweep 75 = .ok (.invokevirtual 348, 3) := by decide +kernel
theorem dX5_countFreeBySweep_78 : decode cX5_countFreeBySweep 78 = .ok (.iload 5, 2) := by decide +kernel
theorem dX5_countFreeBySweep_80 : decode cX5_countFreeBySweep 80 = .ok (.invokestatic 229, 3) := by decide +kernel
theorem dX5_countFreeBySweep_83 : decode cX5_countFreeBySweep 83 = .ok (.istore 5, 2) := by decide +kernel
theorem dX5_countFreeBySweep_85 : decode cX5_countFreeBySweep 85 = .ok (.iinc 6 1, 3) := by decide +kernel
theorem dX5_countFreeBySweep_88 : decode cX5_countFreeBySweep 88 = .ok (.goto (-70), 3) := by decide +kernel
theorem dX5_countFreeBySweep_91 : decode cX5_countFreeBySweep 91 = .ok (.iload 4, 2) := by decide +kernel
theorem dX5_countFreeBySweep_93 : decode cX5_countFreeBySweep 93 = .ok (.bipush 16, 2) := by decide +kernel
theorem dX5_countFreeBySweep_95 : decode cX5_countFreeBySweep 95 = .ok (.iadd, 1) := by decide +kernel
theorem dX5_countFreeBySweep_96 : decode cX5_countFreeBySweep 96 = .ok (.iload 5, 2) := by decide +kernel
theorem dX5_countFreeBySweep_98 : decode cX5_countFreeBySweep 98 = .ok (.isub, 1) := by decide +kernel
theorem dX5_countFreeBySweep_99 : decode cX5_countFreeBySweep 99 = .ok (.ireturn, 1) := by decide +kernel
theorem dX5_countFreeByTrying_0 : decode cX5_countFreeByTrying 0 = .ok (.iconst 0, 1) := by decide +kernel
theorem dX5_countFreeByTrying_1 : decode cX5_countFreeByTrying 1 = .ok (.istore_n 3, 1) := by decide +kernel
theorem dX5_countFreeByTrying_2 : decode cX5_countFreeByTrying 2 = .ok (.iconst 0, 1) := by decide +kernel
theorem dX5_countFreeByTrying_3 : decode cX5_countFreeByTrying 3 = .ok (.istore 4, 2) := by decide +kernel
theorem dX5_countFreeByTrying_5 : decode cX5_countFreeByTrying 5 = .ok (.iload 4, 2) := by decide +kernel
theorem dX5_countFreeByTrying_7 : decode cX5_countFreeByTrying 7 = .ok (.bipush 16, 2) := by decide +kernel
theorem dX5_countFreeByTrying_9 : decode cX5_countFreeByTrying 9 = .ok (.if_icmp .ge 23, 3) := by decide +kernel
theorem dX5_countFreeByTrying_12 : decode cX5_countFreeByTrying 12 = .ok (.aload_n 0, 1) := by decide +kernel
theorem dX5_countFreeByTrying_13 : decode cX5_countFreeByTrying 13 = .ok (.iload_n 1, 1) := by decide +kernel
theorem dX5_countFreeByTrying_14 : decode cX5_countFreeByTrying 14 = .ok (.iload_n 2, 1) := by decide +kernel
theorem dX5_countFreeByTrying_15 : decode cX5_countFreeByTrying 15 = .ok (.iload 4, 2) := by decide +kernel
theorem dX5_countFreeByTrying_17 : decode cX5_countFreeByTrying 17 = .ok (.invokevirtual 212, 3) := by decide +kernel
theorem dX5_countFreeByTrying_20 : decode cX5_countFreeByTrying 20 = .ok (.ifnonnull 6, 3) := by decide +kernel
theorem dX5_countFreeByTrying_23 : decode cX5_countFreeByTrying 23 = .ok (.iinc 3 1, 3) := by decide +kernel
theorem dX5_countFreeByTrying_26 : decode cX5_countFreeByTrying 26 = .ok (.iinc 4 1, 3) := by decide +kernel
theorem dX5_countFreeByTrying_29 : decode cX5_countFreeByTrying 29 = .ok (.goto (-24), 3) := by decide +kernel
theorem dX5_countFreeByTrying_32 : decode cX5_countFreeByTrying 32 = .ok (.iload_n 3, 1) := by decide +kernel
theorem dX5_countFreeByTrying_33 : decode cX5_countFreeByTrying 33 = .ok (.ireturn, 1) := by decide +kernel
theorem dX5_commonRoom_0 : decode cX5_commonRoom 0 = .ok (.aload_n 0, 1) := by decide +kernel
theorem dX5_commonRoom_1 : decode cX5_commonRoom 1 = .ok (.aload_n 2, 1) := by decide +kernel
theorem dX5_commonRoom_2 : decode cX5_commonRoom 2 = .ok (.aconst_null, 1) := by decide +kernel
theorem dX5_commonRoom_3 : decode cX5_commonRoom 3 = .ok (.invokevirtual 304, 3) := by decide +kernel
theorem dX5_commonRoom_6 : decode cX5_commonRoom 6 = .ok (.iload_n 1, 1) := by decide +kernel
theorem dX5_commonRoom_7 : decode cX5_commonRoom 7 = .ok (.iand, 1) := by decide +kernel
theorem dX5_commonRoom_8 : decode cX5_commonRoom 8 = .ok (.ifCond .eq 7, 3) := by decide +kernel
theorem dX5_commonRoom_11 : decode cX5_commonRoom 11 = .ok (.aconst_null, 1) := by decide +kernel
theorem dX5_commonRoom_12 : decode cX5_commonRoom 12 = .ok (.goto 10, 3) := by decide +kernel
theorem dX5_commonRoom_15 : decode cX5_commonRoom 15 = .ok (.aload_n 0, 1) := by decide +kernel
theorem dX5_commonRoom_16 : decode cX5_commonRoom 16 = .ok (.iload_n 1, 1) := by decide +kernel
theorem dX5_commonRoom_17 : decode cX5_commonRoom 17 = .ok (.aload_n 2, 1) := by decide +kernel
theorem dX5_commonRoom_18 : decode cX5_commonRoom 18 = .ok (.aconst_null, 1) := by decide +kernel
theorem dX5_commonRoom_19 : decode cX5_commonRoom 19 = .ok (.invokevirtual 323, 3) := by decide +kernel
theorem dX5_commonRoom_22 : decode cX5_commonRoom 22 = .ok (.areturn, 1) := by decide +kernel
theorem dX5_hasDoubleUse_0 : decode cX5_hasDoubleUse 0 = .ok (.aload_n 0, 1) := by decide +kernel
theorem dX5_hasDoubleUse_1 : decode cX5_hasDoubleUse 1 = .ok (.iload_n 1, 1) := by decide +kernel
theorem dX5_hasDoubleUse_2 : decode cX5_hasDoubleUse 2 = .ok (.invokevirtual 242, 3) := by decide +kernel
theorem dX5_hasDoubleUse_5 : decode cX5_hasDoubleUse 5 = .ok (.getfield 246, 3) := by decide +kernel
theorem dX5_hasDoubleUse_8 : decode cX5_hasDoubleUse 8 = .ok (.astore_n 2, 1) := by decide +kernel
theorem dX5_hasDoubleUse_9 : decode cX5_hasDoubleUse 9 = .ok (.iconst 0, 1) := by decide +kernel
theorem dX5_hasDoubleUse_10 : decode cX5_hasDoubleUse 10 = .ok (.istore_n 3, 1) := by decide +kernel
theorem dX5_hasDoubleUse_11 : decode cX5_hasDoubleUse 11 = .ok (.iload_n 3, 1) := by decide +kernel
theorem dX5_hasDoubleUse_12 : decode cX5_hasDoubleUse 12 = .ok (.aload_n 2, 1) := by decide +kernel
theorem dX5_hasDoubleUse_13 : decode cX5_hasDoubleUse 13 = .ok (.invokevirtual 65, 3) := by decide +kernel
theorem dX5_hasDoubleUse_16 : decode cX5_hasDoubleUse 16 = .ok (.if_icmp .ge 67, 3) := by decide +kernel
theorem dX5_hasDoubleUse_19 : decode cX5_hasDoubleUse 19 = .ok (.aload_n 2, 1) := by decide +kernel
theorem dX5_hasDoubleUse_20 : decode cX5_hasDoubleUse 20 = .ok (.iload_n 3, 1) := by decide +kernel
theorem dX5_hasDoubleUse_21 : decode cX5_hasDoubleUse 21 = .ok (.invokevirtual 131, 3) := by decide +kernel
theorem dX5_hasDoubleUse_24 : decode cX5_hasDoubleUse 24 = .ok (.checkcast 109, 3) := by decide +kernel
theorem dX5_hasDoubleUse_27 : decode cX5_hasDoubleUse 27 = .ok (.astore 4, 2) := by decide +kernel
theorem dX5_hasDoubleUse_29 : decode cX5_hasDoubleUse 29 = .ok (.aload_n 0, 1) := by decide +kernel
theorem dX5_hasDoubleUse_30 : decode cX5_hasDoubleUse 30 = .ok (.aload 4, 2) := by decide +kernel
theorem dX5_hasDoubleUse_32 : decode cX5_hasDoubleUse 32 = .ok (.getfield 108, 3) := by decide +kernel
theorem dX5_hasDoubleUse_35 : decode cX5_hasDoubleUse 35 = .ok (.aload 4, 2) := by decide +kernel
theorem dX5_hasDoubleUse_37 : decode cX5_hasDoubleUse 37 = .ok (.invokevirtual 304, 3) := by decide +kernel
theorem dX5_hasDoubleUse_40 : decode cX5_hasDoubleUse 40 = .ok (.aload 4, 2) := by decide +kernel
theorem dX5_hasDoubleUse_42 : decode cX5_hasDoubleUse 42 = .ok (.getfield 218, 3) := by decide +kernel
theorem dX5_hasDoubleUse_45 : decode cX5_hasDoubleUse 45 = .ok (.invokevirtual 308, 3) := by decide +kernel
theorem dX5_hasDoubleUse_48 : decode cX5_hasDoubleUse 48 = .ok (.iand, 1) := by decide +kernel
theorem dX5_hasDoubleUse_49 : decode cX5_hasDoubleUse 49 = .ok (.istore 5, 2) := by decide +kernel
theorem dX5_hasDoubleUse_51 : decode cX5_hasDoubleUse 51 = .ok (.iload 5, 2) := by decide +kernel
theorem dX5_hasDoubleUse_53 : decode cX5_hasDoubleUse 53 = .ok (.ifCond .ne 22, 3) := by decide +kernel
theorem dX5_hasDoubleUse_56 : decode cX5_hasDoubleUse 56 = .ok (.aload_n 0, 1) := by decide +kernel
theorem dX5_hasDoubleUse_57 : decode cX5_hasDoubleUse 57 = .ok (.aload 4, 2) := by decide +kernel
theorem dX5_hasDoubleUse_59 : decode cX5_hasDoubleUse 59 = .ok (.getfield 190, 3) := by decide +kernel
theorem dX5_hasDoubleUse_62 : decode cX5_hasDoubleUse 62 = .ok (.aload 4, 2) := by decide +kernel
theorem dX5_hasDoubleUse_64 : decode cX5_hasDoubleUse 64 = .ok (.getfield 108, 3) := by decide +kernel
theorem dX5_hasDoubleUse_67 : decode cX5_hasDoubleUse 67 = .ok (.aload 4, 2) := by decide +kernel
theorem dX5_hasDoubleUse_69 : decode cX5_hasDoubleUse 69 = .ok (.invokevirtual 341, 3) := by decide +kernel
theorem dX5_hasDoubleUse_72 : decode cX5_hasDoubleUse 72 = .ok (.ifCond .eq 5, 3) := by decide +kernel
theorem dX5_hasDoubleUse_75 : decode cX5_hasDoubleUse 75 = .ok (.iconst 1, 1) := by decide +kernel
theorem dX5_hasDoubleUse_76 : decode cX5_hasDoubleUse 76 = .ok (.ireturn, 1) := by decide +kernel
theorem dX5_hasDoubleUse_77 : decode cX5_hasDoubleUse 77 = .ok (.iinc 3 1, 3) := by decide +kernel
theorem dX5_hasDoubleUse_80 : decode cX5_hasDoubleUse 80 = .ok (.goto (-69), 3) := by decide +kernel
theorem dX5_hasDoubleUse_83 : decode cX5_hasDoubleUse 83 = .ok (.iconst 0, 1) := by decide +kernel
theorem dX5_hasDoubleUse_84 : decode cX5_hasDoubleUse 84 = .ok (.ireturn, 1) := by decide +kernel
theorem dX5_countsAgree_0 : decode cX5_countsAgree 0 = .ok (.iconst 0, 1) := by decide +kernel
theorem dX5_countsAgree_1 : decode cX5_countsAgree 1 = .ok (.istore_n 2, 1) := by decide +kernel
theorem dX5_countsAgree_2 : decode cX5_countsAgree 2 = .ok (.iload_n 2, 1) := by decide +kernel
theorem dX5_countsAgree_3 : decode cX5_countsAgree 3 = .ok (.bipush 6, 2) := by decide +kernel
theorem dX5_countsAgree_5 : decode cX5_countsAgree 5 = .ok (.if_icmp .ge 26, 3) := by decide +kernel
theorem dX5_countsAgree_8 : decode cX5_countsAgree 8 = .ok (.aload_n 0, 1) := by decide +kernel
theorem dX5_countsAgree_9 : decode cX5_countsAgree 9 = .ok (.iload_n 2, 1) := by decide +kernel
theorem dX5_countsAgree_10 : decode cX5_countsAgree 10 = .ok (.iload_n 1, 1) := by decide +kernel
theorem dX5_countsAgree_11 : decode cX5_countsAgree 11 = .ok (.invokevirtual 222, 3) := by decide +kernel
theorem dX5_countsAgree_14 : decode cX5_countsAgree 14 = .ok (.aload_n 0, 1) := by decide +kernel
theorem dX5_countsAgree_15 : decode cX5_countsAgree 15 = .ok (.iload_n 2, 1) := by decide +kernel
theorem dX5_countsAgree_16 : decode cX5_countsAgree 16 = .ok (.iload_n 1, 1) := by decide +kernel
theorem dX5_countsAgree_17 : decode cX5_countsAgree 17 = .ok (.invokevirtual 226, 3) := by decide +kernel
theorem dX5_countsAgree_20 : decode cX5_countsAgree 20 = .ok (.if_icmp .eq 5, 3) := by decide +kernel
theorem dX5_countsAgree_23 : decode cX5_countsAgree 23 = .ok (.iconst 0, 1) := by decide +kernel
theorem dX5_countsAgree_24 : decode cX5_countsAgree 24 = .ok (.ireturn, 1) := by decide +kernel
theorem dX5_countsAgree_25 : decode cX5_countsAgree 25 = .ok (.iinc 2 1, 3) := by decide +kernel
theorem dX5_countsAgree_28 : decode cX5_countsAgree 28 = .ok (.goto (-26), 3) := by decide +kernel
theorem dX5_countsAgree_31 : decode cX5_countsAgree 31 = .ok (.iconst 1, 1) := by decide +kernel
theorem dX5_countsAgree_32 : decode cX5_countsAgree 32 = .ok (.ireturn, 1) := by decide +kernel
theorem dX6_init_0 : decode cX6_init 0 = .ok (.aload_n 0, 1) := by decide +kernel
theorem dX6_init_1 : decode cX6_init 1 = .ok (.invokespecial 1, 3) := by decide +kernel
theorem dX6_init_4 : decode cX6_init 4 = .ok (.aload_n 0, 1) := by decide +kernel
theorem dX6_init_5 : decode cX6_init 5 = .ok (.sipush 380, 3) := by decide +kernel
theorem dX6_init_8 : decode cX6_init 8 = .ok (.newarray .int, 2) := by decide +kernel
theorem dX6_init_10 : decode cX6_init 10 = .ok (.putfield 7, 3) := by decide +kernel
theorem dX6_init_13 : decode cX6_init 13 = .ok (.aload_n 0, 1) := by decide +kernel
theorem dX6_init_14 : decode cX6_init 14 = .ok (.iconst (-1), 1) := by decide +kernel
theorem dX6_init_15 : decode cX6_init 15 = .ok (.putfield 13, 3) := by decide +kernel
theorem dX6_init_18 : decode cX6_init 18 = .ok (.aload_n 0, 1) := by decide +kernel
theorem dX6_init_19 : decode cX6_init 19 = .ok (.iconst (-1), 1) := by decide +kernel
theorem dX6_init_20 : decode cX6_init 20 = .ok (.putfield 17, 3) := by decide +kernel
theorem dX6_init_23 : decode cX6_init 23 = .ok (.aload_n 0, 1) := by decide +kernel
theorem dX6_init_24 : decode cX6_init 24 = .ok (.bipush 6, 2) := by decide +kernel
theorem dX6_init_26 : decode cX6_init 26 = .ok (.newarray .int, 2) := by decide +kernel
theorem dX6_init_28 : decode cX6_init 28 = .ok (.putfield 20, 3) := by decide +kernel
theorem dX6_init_31 : decode cX6_init 31 = .ok (.aload_n 0, 1) := by decide +kernel
theorem dX6_init_32 : decode cX6_init 32 = .ok (.getfield 7, 3) := by decide +kernel
theorem dX6_init_35 : decode cX6_init 35 = .ok (.iconst 0, 1) := by decide +kernel
theorem dX6_init_36 : decode cX6_init 36 = .ok (.iconst 1, 1) := by decide +kernel
theorem dX6_init_37 : decode cX6_init 37 = .ok (.iastore, 1) := by decide +kernel
theorem dX6_init_38 : decode cX6_init 38 = .ok (.aload_n 0, 1) := by decide +kernel
theorem dX6_init_39 : decode cX6_init 39 = .ok (.getfield 7, 3) := by decide +kernel
theorem dX6_init_42 : decode cX6_init 42 = .ok (.iconst 5, 1) := by decide +kernel
theorem dX6_init_43 : decode cX6_init 43 = .ok (.iconst 2, 1) := by decide +kernel
theorem dX6_init_44 : decode cX6_init 44 = .ok (.iastore, 1) := by decide +kernel
theorem dX6_init_45 : decode cX6_init 45 = .ok (.aload_n 0, 1) := by decide +kernel
theorem dX6_init_46 : decode cX6_init 46 = .ok (.getfield 7, 3) := by decide +kernel
theorem dX6_init_49 : decode cX6_init 49 = .ok (.bipush 6, 2) := by decide +kernel
theorem dX6_init_51 : decode cX6_init 51 = .ok (.iconst 3, 1) := by decide +kernel
theorem dX6_init_52 : decode cX6_init 52 = .ok (.iastore, 1) := by decide +kernel
theorem dX6_init_53 : decode cX6_init 53 = .ok (.aload_n 0, 1) := by decide +kernel
theorem dX6_init_54 : decode cX6_init 54 = .ok (.getfield 7, 3) := by decide +kernel
theorem dX6_init_57 : decode cX6_init 57 = .ok (.bipush 7, 2) := by decide +kernel
theorem dX6_init_59 : decode cX6_init 59 = .ok (.iconst 4, 1) := by decide +kernel
theorem dX6_init_60 : decode cX6_init 60 = .ok (.iastore, 1) := by decide +kernel
theorem dX6_init_61 : decode cX6_init 61 = .ok (.aload_n 0, 1) := by decide +kernel
theorem dX6_init_62 : decode cX6_init 62 = .ok (.getfield 7, 3) := by decide +kernel
theorem dX6_init_65 : decode cX6_init 65 = .ok (.bipush 8, 2) := by decide +kernel
theorem dX6_init_67 : decode cX6_init 67 = .ok (.bipush 6, 2) := by decide +kernel
theorem dX6_init_69 : decode cX6_init 69 = .ok (.iastore, 1) := by decide +kernel
theorem dX6_init_70 : decode cX6_init 70 = .ok (.aload_n 0, 1) := by decide +kernel
theorem dX6_init_71 : decode cX6_init 71 = .ok (.getfield 7, 3) := by decide +kernel
theorem dX6_init_74 : decode cX6_init 74 = .ok (.bipush 11, 2) := by decide +kernel
theorem dX6_init_76 : decode cX6_init 76 = .ok (.iconst 1, 1) := by decide +kernel
theorem dX6_init_77 : decode cX6_init 77 = .ok (.iastore, 1) := by decide +kernel
theorem dX6_init_78 : decode cX6_init 78 = .ok (.aload_n 0, 1) := by decide +kernel
theorem dX6_init_79 : decode cX6_init 79 = .ok (.getfield 7, 3) := by decide +kernel
theorem dX6_init_82 : decode cX6_init 82 = .ok (.bipush 12, 2) := by decide +kernel
theorem dX6_init_84 : decode cX6_init 84 = .ok (.iconst 1, 1) := by decide +kernel
theorem dX6_init_85 : decode cX6_init 85 = .ok (.iastore, 1) := by decide +kernel
theorem dX6_init_86 : decode cX6_init 86 = .ok (.return_, 1) := by decide +kernel
theorem dX6_thrown_0 : decode cX6_thrown 0 = .ok (.aload_n 0, 1) := by decide +kernel
theorem dX6_thrown_1 : decode cX6_thrown 1 = .ok (.getfield 23, 3) := by decide +kernel
theorem dX6_thrown_4 : decode cX6_thrown 4 = .ok (.ireturn, 1) := by decide +kernel
theorem dX6_fails_0 : decode cX6_fails 0 = .ok (.aload_n 0, 1) := by decide +kernel
theorem dX6_fails_1 : decode cX6_fails 1 = .ok (.iload_n 1, 1) := by decide +kernel
theorem dX6_fails_2 : decode cX6_fails 2 = .ok (.putfield 23, 3) := by decide +kernel
theorem dX6_fails_5 : decode cX6_fails 5 = .ok (.iload_n 1, 1) := by decide +kernel
theorem dX6_fails_6 : decode cX6_fails 6 = .ok (.ifCond .le 7, 3) := by decide +kernel
theorem dX6_fails_9 : decode cX6_fails 9 = .ok (.iconst 1, 1) := by decide +kernel
theorem dX6_fails_10 : decode cX6_fails 10 = .ok (.goto 4, 3) := by decide +kernel
theorem dX6_fails_13 : decode cX6_fails 13 = .ok (.iconst 0, 1) := by decide +kernel
theorem dX6_fails_14 : decode cX6_fails 14 = .ok (.ireturn, 1) := by decide +kernel
theorem dX6_in_0 : decode cX6_in 0 = .ok (.iload_n 0, 1) := by decide +kernel
theorem dX6_in_1 : decode cX6_in 1 = .ok (.iload_n 1, 1) := by decide +kernel
theorem dX6_in_2 : decode cX6_in 2 = .ok (.if_icmp .lt 12, 3) := by decide +kernel
theorem dX6_in_5 : decode cX6_in 5 = .ok (.iload_n 0, 1) := by decide +kernel
theorem dX6_in_6 : decode cX6_in 6 = .ok (.iload_n 2, 1) := by decide +kernel
theorem dX6_in_7 : decode cX6_in 7 = .ok (.if_icmp .gt 7, 3) := by decide +kernel
theorem dX6_in_10 : decode cX6_in 10 = .ok (.iconst 1, 1) := by decide +kernel
theorem dX6_in_11 : decode cX6_in 11 = .ok (.goto 4, 3) := by decide +kernel
theorem dX6_in_14 : decode cX6_in 14 = .ok (.iconst 0, 1) := by decide +kernel
theorem dX6_in_15 : decode cX6_in 15 = .ok (.ireturn, 1) := by decide +kernel
theorem dX6_isRoom_0 : decode cX6_isRoom 0 = .ok (.iload_n 0, 1) := by decide +kernel
theorem dX6_isRoom_1 : decode cX6_isRoom 1 = .ok (.iconst 0, 1) := by decide +kernel
theorem dX6_isRoom_2 : decode cX6_isRoom 2 = .ok (.iconst 3, 1) := by decide +kernel
theorem dX6_isRoom_3 : decode cX6_isRoom 3 = .ok (.invokestatic 26, 3) := by decide +kernel
theorem dX6_isRoom_6 : decode cX6_isRoom 6 = .ok (.ireturn, 1) := by decide +kernel
theorem dX6_isPerson_0 : decode cX6_isPerson 0 = .ok (.iload_n 0, 1) := by decide +kernel
theorem dX6_isPerson_1 : decode cX6_isPerson 1 = .ok (.iconst 0, 1) := by decide +kernel
theorem dX6_isPerson_2 : decode cX6_isPerson 2 = .ok (.iconst 5, 1) := by decide +kernel
theorem dX6_isPerson_3 : decode cX6_isPerson 3 = .ok (.invokestatic 26, 3) := by decide +kernel
theorem dX6_isPerson_6 : decode cX6_isPerson 6 = .ok (.ireturn, 1) := by decide +kernel
theorem dX6_isDay_0 : decode cX6_isDay 0 = .ok (.iload_n 0, 1) := by decide +kernel
theorem dX6_isDay_1 : decode cX6_isDay 1 = .ok (.iconst 0, 1) := by decide +kernel
theorem dX6_isDay_2 : decode cX6_isDay 2 = .ok (.bipush 27, 2) := by decide +kernel
theorem dX6_isDay_4 : decode cX6_isDay 4 = .ok (.invokestatic 26, 3) := by decide +kernel
theorem dX6_isDay_7 : decode cX6_isDay 7 = .ok (.ireturn, 1) := by decide +kernel
theorem dX6_isTime_0 : decode cX6_isTime 0 = .ok (.iload_n 0, 1) := by decide +kernel
theorem dX6_isTime_1 : decode cX6_isTime 1 = .ok (.iconst 0, 1) := by decide +kernel
theorem dX6_isTime_2 : decode cX6_isTime 2 = .ok (.bipush 15, 2) := by decide +kernel
theorem dX6_isTime_4 : decode cX6_isTime 4 = .ok (.invokestatic 26, 3) := by decide +kernel
theorem dX6_isTime_7 : decode cX6_isTime 7 = .ok (.ireturn, 1) := by decide +kernel
theorem dX6_setRoom_0 : decode cX6_setRoom 0 = .ok (.aload_n 0, 1) := by decide +kernel
theorem dX6_setRoom_1 : decode cX6_setRoom 1 = .ok (.iload_n 1, 1) := by decide +kernel
theorem dX6_setRoom_2 : decode cX6_setRoom 2 = .ok (.invokestatic 30, 3) := by decide +kernel
theorem dX6_setRoom_5 : decode cX6_setRoom 5 = .ok (.ifCond .eq 26, 3) := by decide +kernel
theorem dX6_setRoom_8 : decode cX6_setRoom 8 = .ok (.iload_n 2, 1) := by decide +kernel
theorem dX6_setRoom_9 : decode cX6_setRoom 9 = .ok (.iconst 0, 1) := by decide +kernel
theorem dX6_setRoom_10 : decode cX6_setRoom 10 = .ok (.bipush 6, 2) := by decide +kernel
theorem dX6_setRoom_12 : decode cX6_setRoom 12 = .ok (.invokestatic 26, 3) := by decide +kernel
theorem dX6_setRoom_15 : decode cX6_setRoom 15 = .ok (.ifCond .eq 16, 3) := by decide +kernel
theorem dX6_setRoom_18 : decode cX6_setRoom 18 = .ok (.iload_n 3, 1) := by decide +kernel
theorem dX6_setRoom_19 : decode cX6_setRoom 19 = .ok (.iconst 0, 1) := by decide +kernel
theorem dX6_setRoom_20 : decode cX6_setRoom 20 = .ok (.iconst 1, 1) := by decide +kernel
theorem dX6_setRoom_21 : decode cX6_setRoom 21 = .ok (.invokestatic 26, 3) := by decide +kernel
theorem dX6_setRoom_24 : decode cX6_setRoom 24 = .ok (.ifCond .eq 7, 3) := by decide +kernel
theorem dX6_setRoom_27 : decode cX6_setRoom 27 = .ok (.iconst 0, 1) := by decide +kernel
theorem dX6_setRoom_28 : decode cX6_setRoom 28 = .ok (.goto 4, 3) := by decide +kernel
theorem dX6_setRoom_31 : decode cX6_setRoom 31 = .ok (.iconst 1, 1) := by decide +kernel
theorem dX6_setRoom_32 : decode cX6_setRoom 32 = .ok (.invokevirtual 34, 3) := by decide +kernel
theorem dX6_setRoom_35 : decode cX6_setRoom 35 = .ok (.ifCond .eq 5, 3) := by decide +kernel
theorem dX6_setRoom_38 : decode cX6_setRoom 38 = .ok (.iconst 0, 1) := by decide +kernel
theorem dX6_setRoom_39 : decode cX6_setRoom 39 = .ok (.ireturn, 1) := by decide +kernel
theorem dX6_setRoom_40 : decode cX6_setRoom 40 = .ok (.aload_n 0, 1) := by decide +kernel
theorem dX6_setRoom_41 : decode cX6_setRoom 41 = .ok (.getfield 7, 3) := by decide +kernel
theorem dX6_setRoom_44 : decode cX6_setRoom 44 = .ok (.iconst 5, 1) := by decide +kernel
theorem dX6_setRoom_45 : decode cX6_setRoom 45 = .ok (.iload_n 1, 1) := by decide +kernel
theorem dX6_setRoom_46 : decode cX6_setRoom 46 = .ok (.iadd, 1) := by decide +kernel
theorem dX6_setRoom_47 : decode cX6_setRoom 47 = .ok (.iaload, 1) := by decide +kernel
theorem dX6_setRoom_48 : decode cX6_setRoom 48 = .ok (.istore 4, 2) := by decide +kernel
theorem dX6_setRoom_50 : decode cX6_setRoom 50 = .ok (.aload_n 0, 1) := by decide +kernel
theorem dX6_setRoom_51 : decode cX6_setRoom 51 = .ok (.getfield 7, 3) := by decide +kernel
theorem dX6_setRoom_54 : decode cX6_setRoom 54 = .ok (.iconst 5, 1) := by decide +kernel
theorem dX6_setRoom_55 : decode cX6_setRoom 55 = .ok (.iload_n 1, 1) := by decide +kernel
theorem dX6_setRoom_56 : decode cX6_setRoom 56 = .ok (.iadd, 1) := by decide +kernel
theorem dX6_setRoom_57 : decode cX6_setRoom 57 = .ok (.iload_n 2, 1) := by decide +kernel
theorem dX6_setRoom_58 : decode cX6_setRoom 58 = .ok (.iastore, 1) := by decide +kernel
theorem dX6_setRoom_59 : decode cX6_setRoom 59 = .ok (.aload_n 0, 1) := by decide +kernel
theorem dX6_setRoom_60 : decode cX6_setRoom 60 = .ok (.getfield 7, 3) := by decide +kernel
theorem dX6_setRoom_63 : decode cX6_setRoom 63 = .ok (.bipush 9, 2) := by decide +kernel
theorem dX6_setRoom_65 : decode cX6_setRoom 65 = .ok (.iload_n 1, 1) := by decide +kernel
theorem dX6_setRoom_66 : decode cX6_setRoom 66 = .ok (.iadd, 1) := by decide +kernel
theorem dX6_setRoom_67 : decode cX6_setRoom 67 = .ok (.iload_n 3, 1) := by decide +kernel
theorem dX6_setRoom_68 : decode cX6_setRoom 68 = .ok (.iastore, 1) := by decide +kernel
theorem dX6_setRoom_69 : decode cX6_setRoom 69 = .ok (.iload 4, 2) := by decide +kernel
theorem dX6_setRoom_71 : decode cX6_setRoom 71 = .ok (.ireturn, 1) := by decide +kernel
theorem dX6_setGap_0 : decode cX6_setGap 0 = .ok (.aload_n 0, 1) := by decide +kernel
theorem dX6_setGap_1 : decode cX6_setGap 1 = .ok (.iload_n 1, 1) := by decide +kernel
theorem dX6_setGap_2 : decode cX6_setGap 2 = .ok (.iconst 0, 1) := by decide +kernel
theorem dX6_setGap_3 : decode cX6_setGap 3 = .ok (.iconst 3, 1) := by decide +kernel
theorem dX6_setGap_4 : decode cX6_setGap 4 = .ok (.invokestatic 26, 3) := by decide +kernel
theorem dX6_setGap_7 : decode cX6_setGap 7 = .ok (.ifCond .eq 7, 3) := by decide +kernel
theorem dX6_setGap_10 : decode cX6_setGap 10 = .ok (.iconst 0, 1) := by decide +kernel
theorem dX6_setGap_11 : decode cX6_setGap 11 = .ok (.goto 4, 3) := by decide +kernel
theorem dX6_setGap_14 : decode cX6_setGap 14 = .ok (.iconst 1, 1) := by decide +kernel
theorem dX6_setGap_15 : decode cX6_setGap 15 = .ok (.invokevirtual 34, 3) := by decide +kernel
theorem dX6_setGap_18 : decode cX6_setGap 18 = .ok (.ifCond .eq 5, 3) := by decide +kernel
theorem dX6_setGap_21 : decode cX6_setGap 21 = .ok (.iconst 0, 1) := by decide +kernel
theorem dX6_setGap_22 : decode cX6_setGap 22 = .ok (.ireturn, 1) := by decide +kernel
theorem dX6_setGap_23 : decode cX6_setGap 23 = .ok (.aload_n 0, 1) := by decide +kernel
theorem dX6_setGap_24 : decode cX6_setGap 24 = .ok (.getfield 7, 3) := by decide +kernel
theorem dX6_setGap_27 : decode cX6_setGap 27 = .ok (.iconst 0, 1) := by decide +kernel
theorem dX6_setGap_28 : decode cX6_setGap 28 = .ok (.iaload, 1) := by decide +kernel
theorem dX6_setGap_29 : decode cX6_setGap 29 = .ok (.istore_n 2, 1) := by decide +kernel
theorem dX6_setGap_30 : decode cX6_setGap 30 = .ok (.aload_n 0, 1) := by decide +kernel
theorem dX6_setGap_31 : decode cX6_setGap 31 = .ok (.getfield 7, 3) := by decide +kernel
theorem dX6_setGap_34 : decode cX6_setGap 34 = .ok (.iconst 0, 1) := by decide +kernel
theorem dX6_setGap_35 : decode cX6_setGap 35 = .ok (.iload_n 1, 1) := by decide +kernel
theorem dX6_setGap_36 : decode cX6_setGap 36 = .ok (.iastore, 1) := by decide +kernel
theorem dX6_setGap_37 : decode cX6_setGap 37 = .ok (.iload_n 2, 1) := by decide +kernel
theorem dX6_setGap_38 : decode cX6_setGap 38 = .ok (.ireturn, 1) := by decide +kernel
theorem dX6_seatsOf_0 : decode cX6_seatsOf 0 = .ok (.aload_n 0, 1) := by decide +kernel
theorem dX6_seatsOf_1 : decode cX6_seatsOf 1 = .ok (.iload_n 1, 1) := by decide +kernel
theorem dX6_seatsOf_2 : decode cX6_seatsOf 2 = .ok (.invokestatic 30, 3) := by decide +kernel
theorem dX6_seatsOf_5 : decode cX6_seatsOf 5 = .ok (.ifCond .eq 7, 3) := by decide +kernel
theorem dX6_seatsOf_8 : decode cX6_seatsOf 8 = .ok (.iconst 0, 1) := by decide +kernel
theorem dX6_seatsOf_9 : decode cX6_seatsOf 9 = .ok (.goto 4, 3) := by decide +kernel
theorem dX6_seatsOf_12 : decode cX6_seatsOf 12 = .ok (.iconst 1, 1) := by decide +kernel
theorem dX6_seatsOf_13 : decode cX6_seatsOf 13 = .ok (.invokevirtual 34, 3) := by decide +kernel
theorem dX6_seatsOf_16 : decode cX6_seatsOf 16 = .ok (.ifCond .eq 7, 3) := by decide +kernel
theorem dX6_seatsOf_19 : decode cX6_seatsOf 19 = .ok (.iconst 0, 1) := by decide +kernel
theorem dX6_seatsOf_20 : decode cX6_seatsOf 20 = .ok (.goto 11, 3) := by decide +kernel
theorem dX6_seatsOf_23 : decode cX6_seatsOf 23 = .ok (.aload_n 0, 1) := by decide +kernel
theorem dX6_seatsOf_24 : decode cX6_seatsOf 24 = .ok (.getfield 7, 3) := by decide +kernel
theorem dX6_seatsOf_27 : decode cX6_seatsOf 27 = .ok (.iconst 5, 1) := by decide +kernel
theorem dX6_seatsOf_28 : decode cX6_seatsOf 28 = .ok (.iload_n 1, 1) := by decide +kernel
theorem dX6_seatsOf_29 : decode cX6_seatsOf 29 = .ok (.iadd, 1) := by decide +kernel
theorem dX6_seatsOf_30 : decode cX6_seatsOf 30 = .ok (.iaload, 1) := by decide +kernel
theorem dX6_seatsOf_31 : decode cX6_seatsOf 31 = .ok (.ireturn, 1) := by decide +kernel
theorem dX6_houseOf_0 : decode cX6_houseOf 0 = .ok (.aload_n 0, 1) := by decide +kernel
theorem dX6_houseOf_1 : decode cX6_houseOf 1 = .ok (.iload_n 1, 1) := by decide +kernel
theorem dX6_houseOf_2 : decode cX6_houseOf 2 = .ok (.invokestatic 30, 3) := by decide +kernel
theorem dX6_houseOf_5 : decode cX6_houseOf 5 = .ok (.ifCond .eq 7, 3) := by decide +kernel
theorem dX6_houseOf_8 : decode cX6_houseOf 8 = .ok (.iconst 0, 1) := by decide +kernel
theorem dX6_houseOf_9 : decode cX6_houseOf 9 = .ok (.goto 4, 3) := by decide +kernel
theorem dX6_houseOf_12 : decode cX6_houseOf 12 = .ok (.iconst 1, 1) := by decide +kernel
theorem dX6_houseOf_13 : decode cX6_houseOf 13 = .ok (.invokevirtual 34, 3) := by decide +kernel
theorem dX6_houseOf_16 : decode cX6_houseOf 16 = .ok (.ifCond .eq 7, 3) := by decide +kernel
theorem dX6_houseOf_19 : decode cX6_houseOf 19 = .ok (.iconst 0, 1) := by decide +kernel
theorem dX6_houseOf_20 : decode cX6_houseOf 20 = .ok (.goto 12, 3) := by decide +kernel
theorem dX6_houseOf_23 : decode cX6_houseOf 23 = .ok (.aload_n 0, 1) := by decide +kernel
theorem dX6_houseOf_24 : decode cX6_houseOf 24 = .ok (.getfield 7, 3) := by decide +kernel
theorem dX6_houseOf_27 : decode cX6_houseOf 27 = .ok (.bipush 9, 2) := by decide +kernel
theorem dX6_houseOf_29 : decode cX6_houseOf 29 = .ok (.iload_n 1, 1) := by decide +kernel
theorem dX6_houseOf_30 : decode cX6_houseOf 30 = .ok (.iadd, 1) := by decide +kernel
theorem dX6_houseOf_31 : decode cX6_houseOf 31 = .ok (.iaload, 1) := by decide +kernel
theorem dX6_houseOf_32 : decode cX6_houseOf 32 = .ok (.ireturn, 1) := by decide +kernel
theorem dX6_of_0 : decode cX6_of 0 = .ok (.aload_n 0, 1) := by decide +kernel
theorem dX6_of_1 : decode cX6_of 1 = .ok (.getfield 7, 3) := by decide +kernel
theorem dX6_of_4 : decode cX6_of 4 = .ok (.bipush 20, 2) := by decide +kernel
theorem dX6_of_6 : decode cX6_of 6 = .ok (.bipush 40, 2) := by decide +kernel
theorem dX6_of_8 : decode cX6_of 8 = .ok (.iload_n 1, 1) := by decide +kernel
theorem dX6_of_9 : decode cX6_of 9 = .ok (.imul, 1) := by decide +kernel
theorem dX6_of_10 : decode cX6_of 10 = .ok (.iadd, 1) := by decide +kernel
theorem dX6_of_11 : decode cX6_of 11 = .ok (.iload_n 2, 1) := by decide +kernel
theorem dX6_of_12 : decode cX6_of 12 = .ok (.iadd, 1) := by decide +kernel
theorem dX6_of_13 : decode cX6_of 13 = .ok (.iaload, 1) := by decide +kernel
theorem dX6_of_14 : decode cX6_of 14 = .ok (.ireturn, 1) := by decide +kernel
theorem dX6_lays_0 : decode cX6_lays 0 = .ok (.aload_n 0, 1) := by decide +kernel
theorem dX6_lays_1 : decode cX6_lays 1 = .ok (.getfield 7, 3) := by decide +kernel
theorem dX6_lays_4 : decode cX6_lays 4 = .ok (.bipush 20, 2) := by decide +kernel
theorem dX6_lays_6 : decode cX6_lays 6 = .ok (.bipush 40, 2) := by decide +kernel
theorem dX6_lays_8 : decode cX6_lays 8 = .ok (.iload_n 1, 1) := by decide +kernel
theorem dX6_lays_9 : decode cX6_lays 9 = .ok (.imul, 1) := by decide +kernel
theorem dX6_lays_10 : decode cX6_lays 10 = .ok (.iadd, 1) := by decide +kernel
theorem dX6_lays_11 : decode cX6_lays 11 = .ok (.iload_n 2, 1) := by decide +kernel
theorem dX6_lays_12 : decode cX6_lays 12 = .ok (.iadd, 1) := by decide +kernel
theorem dX6_lays_13 : decode cX6_lays 13 = .ok (.iload_n 3, 1) := by decide +kernel
theorem dX6_lays_14 : decode cX6_lays 14 = .ok (.iastore, 1) := by decide +kernel
theorem dX6_lays_15 : decode cX6_lays 15 = .ok (.return_, 1) := by decide +kernel
theorem dX6_date_0 : decode cX6_date 0 = .ok (.aload_n 0, 1) := by decide +kernel
theorem dX6_date_1 : decode cX6_date 1 = .ok (.iload_n 1, 1) := by decide +kernel
theorem dX6_date_2 : decode cX6_date 2 = .ok (.bipush 10, 2) := by decide +kernel
theorem dX6_date_4 : decode cX6_date 4 = .ok (.iconst 4, 1) := by decide +kernel
theorem dX6_date_5 : decode cX6_date 5 = .ok (.iload_n 2, 1) := by decide +kernel
theorem dX6_date_6 : decode cX6_date 6 = .ok (.imul, 1) := by decide +kernel
theorem dX6_date_7 : decode cX6_date 7 = .ok (.iadd, 1) := by decide +kernel
theorem dX6_date_8 : decode cX6_date 8 = .ok (.iload_n 3, 1) := by decide +kernel
theorem dX6_date_9 : decode cX6_date 9 = .ok (.iadd, 1) := by decide +kernel
theorem dX6_date_10 : decode cX6_date 10 = .ok (.invokevirtual 37, 3) := by decide +kernel
theorem dX6_date_13 : decode cX6_date 13 = .ok (.ireturn, 1) := by decide +kernel
theorem dX6_at_0 : decode cX6_at 0 = .ok (.iconst 0, 1) := by decide +kernel
theorem dX6_at_1 : decode cX6_at 1 = .ok (.istore_n 2, 1) := by decide +kernel
theorem dX6_at_2 : decode cX6_at 2 = .ok (.iload_n 2, 1) := by decide +kernel
theorem dX6_at_3 : decode cX6_at 3 = .ok (.aload_n 0, 1) := by decide +kernel
theorem dX6_at_4 : decode cX6_at 4 = .ok (.getfield 7, 3) := by decide +kernel
theorem dX6_at_7 : decode cX6_at 7 = .ok (.iconst 1, 1) := by decide +kernel
theorem dX6_at_8 : decode cX6_at 8 = .ok (.iaload, 1) := by decide +kernel
theorem dX6_at_9 : decode cX6_at 9 = .ok (.if_icmp .ge 21, 3) := by decide +kernel
theorem dX6_at_12 : decode cX6_at 12 = .ok (.aload_n 0, 1) := by decide +kernel
theorem dX6_at_13 : decode cX6_at 13 = .ok (.iload_n 2, 1) := by decide +kernel
theorem dX6_at_14 : decode cX6_at 14 = .ok (.iconst 0, 1) := by decide +kernel
theorem dX6_at_15 : decode cX6_at 15 = .ok (.invokevirtual 37, 3) := by decide +kernel
theorem dX6_at_18 : decode cX6_at 18 = .ok (.iload_n 1, 1) := by decide +kernel
theorem dX6_at_19 : decode cX6_at 19 = .ok (.if_icmp .ne 5, 3) := by decide +kernel
theorem dX6_at_22 : decode cX6_at 22 = .ok (.iload_n 2, 1) := by decide +kernel
theorem dX6_at_23 : decode cX6_at 23 = .ok (.ireturn, 1) := by decide +kernel
theorem dX6_at_24 : decode cX6_at 24 = .ok (.iinc 2 1, 3) := by decide +kernel
theorem dX6_at_27 : decode cX6_at 27 = .ok (.goto (-25), 3) := by decide +kernel
theorem dX6_at_30 : decode cX6_at 30 = .ok (.iconst (-1), 1) := by decide +kernel
theorem dX6_at_31 : decode cX6_at 31 = .ok (.ireturn, 1) := by decide +kernel
theorem dX6_isExpected_0 : decode cX6_isExpected 0 = .ok (.iload_n 2, 1) := by decide +kernel
theorem dX6_isExpected_1 : decode cX6_isExpected 1 = .ok (.aload_n 0, 1) := by decide +kernel
theorem dX6_isExpected_2 : decode cX6_isExpected 2 = .ok (.iload_n 1, 1) := by decide +kernel
theorem dX6_isExpected_3 : decode cX6_isExpected 3 = .ok (.iconst 1, 1) := by decide +kernel
theorem dX6_isExpected_4 : decode cX6_isExpected 4 = .ok (.invokevirtual 37, 3) := by decide +kernel
theorem dX6_isExpected_7 : decode cX6_isExpected 7 = .ok (.if_icmp .eq 29, 3) := by decide +kernel
theorem dX6_isExpected_10 : decode cX6_isExpected 10 = .ok (.aload_n 0, 1) := by decide +kernel
theorem dX6_isExpected_11 : decode cX6_isExpected 11 = .ok (.iload_n 1, 1) := by decide +kernel
theorem dX6_isExpected_12 : decode cX6_isExpected 12 = .ok (.iconst 4, 1) := by decide +kernel
theorem dX6_isExpected_13 : decode cX6_isExpected 13 = .ok (.iload_n 2, 1) := by decide +kernel
theorem dX6_isExpected_14 : decode cX6_isExpected 14 = .ok (.iadd, 1) := by decide +kernel
theorem dX6_isExpected_15 : decode cX6_isExpected 15 = .ok (.invokevirtual 37, 3) := by decide +kernel
theorem dX6_isExpected_18 : decode cX6_isExpected 18 = .ok (.bipush 111, 2) := by decide +kernel
theorem dX6_isExpected_20 : decode cX6_isExpected 20 = .ok (.if_icmp .eq 16, 3) := by decide +kernel
theorem dX6_isExpected_23 : decode cX6_isExpected 23 = .ok (.aload_n 0, 1) := by decide +kernel
theorem dX6_isExpected_24 : decode cX6_isExpected 24 = .ok (.iload_n 1, 1) := by decide +kernel
theorem dX6_isExpected_25 : decode cX6_isExpected 25 = .ok (.iconst 4, 1) := by decide +kernel
theorem dX6_isExpected_26 : decode cX6_isExpected 26 = .ok (.iload_n 2, 1) := by decide +kernel
theorem dX6_isExpected_27 : decode cX6_isExpected 27 = .ok (.iadd, 1) := by decide +kernel
theorem dX6_isExpected_28 : decode cX6_isExpected 28 = .ok (.invokevirtual 37, 3) := by decide +kernel
theorem dX6_isExpected_31 : decode cX6_isExpected 31 = .ok (.bipush 121, 2) := by decide +kernel
theorem dX6_isExpected_33 : decode cX6_isExpected 33 = .ok (.if_icmp .ne 7, 3) := by decide +kernel
theorem dX6_isExpected_36 : decode cX6_isExpected 36 = .ok (.iconst 1, 1) := by decide +kernel
theorem dX6_isExpected_37 : decode cX6_isExpected 37 = .ok (.goto 4, 3) := by decide +kernel
theorem dX6_isExpected_40 : decode cX6_isExpected 40 = .ok (.iconst 0, 1) := by decide +kernel
theorem dX6_isExpected_41 : decode cX6_isExpected 41 = .ok (.ireturn, 1) := by decide +kernel
theorem dX6_people_0 : decode cX6_people 0 = .ok (.iconst 0, 1) := by decide +kernel
theorem dX6_people_1 : decode cX6_people 1 = .ok (.istore_n 2, 1) := by decide +kernel
theorem dX6_people_2 : decode cX6_people 2 = .ok (.iconst 0, 1) := by decide +kernel
theorem dX6_people_3 : decode cX6_people 3 = .ok (.istore_n 3, 1) := by decide +kernel
theorem dX6_people_4 : decode cX6_people 4 = .ok (.iload_n 3, 1) := by decide +kernel
theorem dX6_people_5 : decode cX6_people 5 = .ok (.bipush 6, 2) := by decide +kernel
theorem dX6_people_7 : decode cX6_people 7 = .ok (.if_icmp .ge 28, 3) := by decide +kernel
theorem dX6_people_10 : decode cX6_people 10 = .ok (.iload_n 2, 1) := by decide +kernel
theorem dX6_people_11 : decode cX6_people 11 = .ok (.aload_n 0, 1) := by decide +kernel
theorem dX6_people_12 : decode cX6_people 12 = .ok (.iload_n 1, 1) := by decide +kernel
theorem dX6_people_13 : decode cX6_people 13 = .ok (.iload_n 3, 1) := by decide +kernel
theorem dX6_people_14 : decode cX6_people 14 = .ok (.invokevirtual 41, 3) := by decide +kernel
theorem dX6_people_17 : decode cX6_people 17 = .ok (.ifCond .eq 9, 3) := by decide +kernel
theorem dX6_people_20 : decode cX6_people 20 = .ok (.iconst 1, 1) := by decide +kernel
theorem dX6_people_21 : decode cX6_people 21 = .ok (.iload_n 3, 1) := by decide +kernel
theorem dX6_people_22 : decode cX6_people 22 = .ok (.ishl, 1) := by decide +kernel
theorem dX6_people_23 : decode cX6_people 23 = .ok (.goto 4, 3) := by decide +kernel
theorem dX6_people_26 : decode cX6_people 26 = .ok (.iconst 0, 1) := by decide +kernel
theorem dX6_people_27 : decode cX6_people 27 = .ok (.ior, 1) := by decide +kernel
theorem dX6_people_28 : decode cX6_people 28 = .ok (.istore_n 2, 1) := by decide +kernel
theorem dX6_people_29 : decode cX6_people 29 = .ok (.iinc 3 1, 3) := by decide +kernel
theorem dX6_people_32 : decode cX6_people 32 = .ok (.goto (-28), 3) := by decide +kernel
theorem dX6_people_35 : decode cX6_people 35 = .ok (.iload_n 2, 1) := by decide +kernel
theorem dX6_people_36 : decode cX6_people 36 = .ok (.ireturn, 1) := by decide +kernel
theorem dX6_many_0 : decode cX6_many 0 = .ok (.iconst 0, 1) := by decide +kernel
theorem dX6_many_1 : decode cX6_many 1 = .ok (.istore_n 1, 1) := by decide +kernel
theorem dX6_many_2 : decode cX6_many 2 = .ok (.iconst 0, 1) := by decide +kernel
theorem dX6_many_3 : decode cX6_many 3 = .ok (.istore_n 2, 1) := by decide +kernel
theorem dX6_many_4 : decode cX6_many 4 = .ok (.iload_n 2, 1) := by decide +kernel
theorem dX6_many_5 : decode cX6_many 5 = .ok (.bipush 6, 2) := by decide +kernel
theorem dX6_many_7 : decode cX6_many 7 = .ok (.if_icmp .ge 17, 3) := by decide +kernel
theorem dX6_many_10 : decode cX6_many 10 = .ok (.iload_n 1, 1) := by decide +kernel
theorem dX6_many_11 : decode cX6_many 11 = .ok (.iload_n 0, 1) := by decide +kernel
theorem dX6_many_12 : decode cX6_many 12 = .ok (.iload_n 2, 1) := by decide +kernel
theorem dX6_many_13 : decode cX6_many 13 = .ok (.ishr, 1) := by decide +kernel
theorem dX6_many_14 : decode cX6_many 14 = .ok (.iconst 1, 1) := by decide +kernel
theorem dX6_many_15 : decode cX6_many 15 = .ok (.iand, 1) := by decide +kernel
theorem dX6_many_16 : decode cX6_many 16 = .ok (.iadd, 1) := by decide +kernel
theorem dX6_many_17 : decode cX6_many 17 = .ok (.istore_n 1, 1) := by decide +kernel
theorem dX6_many_18 : decode cX6_many 18 = .ok (.iinc 2 1, 3) := by decide +kernel
theorem dX6_many_21 : decode cX6_many 21 = .ok (.goto (-17), 3) := by decide +kernel
theorem dX6_many_24 : decode cX6_many 24 = .ok (.iload_n 1, 1) := by decide +kernel
theorem dX6_many_25 : decode cX6_many 25 = .ok (.ireturn, 1) := by decide +kernel
theorem dX6_isOn_0 : decode cX6_isOn 0 = .ok (.aload_n 0, 1) := by decide +kernel
theorem dX6_isOn_1 : decode cX6_isOn 1 = .ok (.iload_n 1, 1) := by decide +kernel
theorem dX6_isOn_2 : decode cX6_isOn 2 = .ok (.iload_n 2, 1) := by decide +kernel
theorem dX6_isOn_3 : decode cX6_isOn 3 = .ok (.iconst 2, 1) := by decide +kernel
theorem dX6_isOn_4 : decode cX6_isOn 4 = .ok (.invokevirtual 45, 3) := by decide +kernel
theorem dX6_isOn_7 : decode cX6_isOn 7 = .ok (.ifCond .ne 7, 3) := by decide +kernel
theorem dX6_isOn_10 : decode cX6_isOn 10 = .ok (.iconst 1, 1) := by decide +kernel
theorem dX6_isOn_11 : decode cX6_isOn 11 = .ok (.goto 4, 3) := by decide +kernel
theorem dX6_isOn_14 : decode cX6_isOn 14 = .ok (.iconst 0, 1) := by decide +kernel
theorem dX6_isOn_15 : decode cX6_isOn 15 = .ok (.ireturn, 1) := by decide +kernel
theorem dX6_between_0 : decode cX6_between 0 = .ok (.aload_n 0, 1) := by decide +kernel
theorem dX6_between_1 : decode cX6_between 1 = .ok (.iload_n 1, 1) := by decide +kernel
theorem dX6_between_2 : decode cX6_between 2 = .ok (.iload_n 2, 1) := by decide +kernel
theorem dX6_between_3 : decode cX6_between 3 = .ok (.iconst 1, 1) := by decide +kernel
theorem dX6_between_4 : decode cX6_between 4 = .ok (.invokevirtual 45, 3) := by decide +kernel
theorem dX6_between_7 : decode cX6_between 7 = .ok (.istore 5, 2) := by decide +kernel
theorem dX6_between_9 : decode cX6_between 9 = .ok (.iload 5, 2) := by decide +kernel
theorem dX6_between_11 : decode cX6_between 11 = .ok (.iload_n 3, 1) := by decide +kernel
theorem dX6_between_12 : decode cX6_between 12 = .ok (.if_icmp .lt 13, 3) := by decide +kernel
theorem dX6_between_15 : decode cX6_between 15 = .ok (.iload 5, 2) := by decide +kernel
theorem dX6_between_17 : decode cX6_between 17 = .ok (.iload_n 3, 1) := by decide +kernel
theorem dX6_between_18 : decode cX6_between 18 = .ok (.isub, 1) := by decide +kernel
theorem dX6_between_19 : decode cX6_between 19 = .ok (.iload 4, 2) := by decide +kernel
theorem dX6_between_21 : decode cX6_between 21 = .ok (.isub, 1) := by decide +kernel
theorem dX6_between_22 : decode cX6_between 22 = .ok (.goto 14, 3) := by decide +kernel
theorem dX6_between_25 : decode cX6_between 25 = .ok (.iload_n 3, 1) := by decide +kernel
theorem dX6_between_26 : decode cX6_between 26 = .ok (.iload 5, 2) := by decide +kernel
theorem dX6_between_28 : decode cX6_between 28 = .ok (.isub, 1) := by decide +kernel
theorem dX6_between_29 : decode cX6_between 29 = .ok (.aload_n 0, 1) := by decide +kernel
theorem dX6_between_30 : decode cX6_between 30 = .ok (.iload_n 1, 1) := by decide +kernel
theorem dX6_between_31 : decode cX6_between 31 = .ok (.iconst 2, 1) := by decide +kernel
theorem dX6_between_32 : decode cX6_between 32 = .ok (.invokevirtual 37, 3) := by decide +kernel
theorem dX6_between_35 : decode cX6_between 35 = .ok (.isub, 1) := by decide +kernel
theorem dX6_between_36 : decode cX6_between 36 = .ok (.ireturn, 1) := by decide +kernel
theorem dX6_counts_0 : decode cX6_counts 0 = .ok (.aload_n 0, 1) := by decide +kernel
theorem dX6_counts_1 : decode cX6_counts 1 = .ok (.iload_n 1, 1) := by decide +kernel
theorem dX6_counts_2 : decode cX6_counts 2 = .ok (.iload_n 2, 1) := by decide +kernel
theorem dX6_counts_3 : decode cX6_counts 3 = .ok (.invokevirtual 49, 3) := by decide +kernel
theorem dX6_counts_6 : decode cX6_counts 6 = .ok (.ifCond .eq 34, 3) := by decide +kernel
theorem dX6_counts_9 : decode cX6_counts 9 = .ok (.aload_n 0, 1) := by decide +kernel
theorem dX6_counts_10 : decode cX6_counts 10 = .ok (.iload_n 1, 1) := by decide +kernel
theorem dX6_counts_11 : decode cX6_counts 11 = .ok (.iload_n 2, 1) := by decide +kernel
theorem dX6_counts_12 : decode cX6_counts 12 = .ok (.iconst 0, 1) := by decide +kernel
theorem dX6_counts_13 : decode cX6_counts 13 = .ok (.invokevirtual 45, 3) := by decide +kernel
theorem dX6_counts_16 : decode cX6_counts 16 = .ok (.iload_n 3, 1) := by decide +kernel
theorem dX6_counts_17 : decode cX6_counts 17 = .ok (.if_icmp .ne 23, 3) := by decide +kernel
theorem dX6_counts_20 : decode cX6_counts 20 = .ok (.iload_n 1, 1) := by decide +kernel
theorem dX6_counts_21 : decode cX6_counts 21 = .ok (.aload_n 0, 1) := by decide +kernel
theorem dX6_counts_22 : decode cX6_counts 22 = .ok (.getfield 13, 3) := by decide +kernel
theorem dX6_counts_25 : decode cX6_counts 25 = .ok (.if_icmp .ne 11, 3) := by decide +kernel
theorem dX6_counts_28 : decode cX6_counts 28 = .ok (.iload_n 2, 1) := by decide +kernel
theorem dX6_counts_29 : decode cX6_counts 29 = .ok (.aload_n 0, 1) := by decide +kernel
theorem dX6_counts_30 : decode cX6_counts 30 = .ok (.getfield 17, 3) := by decide +kernel
theorem dX6_counts_33 : decode cX6_counts 33 = .ok (.if_icmp .eq 7, 3) := by decide +kernel
theorem dX6_counts_36 : decode cX6_counts 36 = .ok (.iconst 1, 1) := by decide +kernel
theorem dX6_counts_37 : decode cX6_counts 37 = .ok (.goto 4, 3) := by decide +kernel
theorem dX6_counts_40 : decode cX6_counts 40 = .ok (.iconst 0, 1) := by decide +kernel
theorem dX6_counts_41 : decode cX6_counts 41 = .ok (.ireturn, 1) := by decide +kernel
theorem dX6_busy_0 : decode cX6_busy 0 = .ok (.iconst 0, 1) := by decide +kernel
theorem dX6_busy_1 : decode cX6_busy 1 = .ok (.istore 5, 2) := by decide +kernel
theorem dX6_busy_3 : decode cX6_busy 3 = .ok (.iconst 0, 1) := by decide +kernel
theorem dX6_busy_4 : decode cX6_busy 4 = .ok (.istore 6, 2) := by decide +kernel
theorem dX6_busy_6 : decode cX6_busy 6 = .ok (.iload 6, 2) := by decide +kernel
theorem dX6_busy_8 : decode cX6_busy 8 = .ok (.aload_n 0, 1) := by decide +kernel
theorem dX6_busy_9 : decode cX6_busy 9 = .ok (.getfield 7, 3) := by decide +kernel
theorem dX6_busy_12 : decode cX6_busy 12 = .ok (.iconst 1, 1) := by decide +kernel
theorem dX6_busy_13 : decode cX6_busy 13 = .ok (.iaload, 1) := by decide +kernel
theorem dX6_busy_14 : decode cX6_busy 14 = .ok (.if_icmp .ge 69, 3) := by decide +kernel
theorem dX6_busy_17 : decode cX6_busy 17 = .ok (.iconst 0, 1) := by decide +kernel
theorem dX6_busy_18 : decode cX6_busy 18 = .ok (.istore 7, 2) := by decide +kernel
theorem dX6_busy_20 : decode cX6_busy 20 = .ok (.iload 7, 2) := by decide +kernel
theorem dX6_busy_22 : decode cX6_busy 22 = .ok (.aload_n 0, 1) := by decide +kernel
theorem dX6_busy_23 : decode cX6_busy 23 = .ok (.iload 6, 2) := by decide +kernel
theorem dX6_busy_25 : decode cX6_busy 25 = .ok (.iconst 3, 1) := by decide +kernel
theorem dX6_busy_26 : decode cX6_busy 26 = .ok (.invokevirtual 37, 3) := by decide +kernel
theorem dX6_busy_29 : decode cX6_busy 29 = .ok (.if_icmp .ge 48, 3) := by decide +kernel
theorem dX6_busy_32 : decode cX6_busy 32 = .ok (.aload_n 0, 1) := by decide +kernel
theorem dX6_busy_33 : decode cX6_busy 33 = .ok (.iload 6, 2) := by decide +kernel
theorem dX6_busy_35 : decode cX6_busy 35 = .ok (.iload 7, 2) := by decide +kernel
theorem dX6_busy_37 : decode cX6_busy 37 = .ok (.iload_n 2, 1) := by decide +kernel
theorem dX6_busy_38 : decode cX6_busy 38 = .ok (.invokevirtual 52, 3) := by decide +kernel
theorem dX6_busy_41 : decode cX6_busy 41 = .ok (.ifCond .eq 30, 3) := by decide +kernel
theorem dX6_busy_44 : decode cX6_busy 44 = .ok (.aload_n 0, 1) := by decide +kernel
theorem dX6_busy_45 : decode cX6_busy 45 = .ok (.iload 6, 2) := by decide +kernel
theorem dX6_busy_47 : decode cX6_busy 47 = .ok (.iload 7, 2) := by decide +kernel
theorem dX6_busy_49 : decode cX6_busy 49 = .ok (.iload_n 3, 1) := by decide +kernel
theorem dX6_busy_50 : decode cX6_busy 50 = .ok (.iload 4, 2) := by decide +kernel
theorem dX6_busy_52 : decode cX6_busy 52 = .ok (.invokevirtual 55, 3) := by decide +kernel
theorem dX6_busy_55 : decode cX6_busy 55 = .ok (.ifCond .ge 16, 3) := by decide +kernel
theorem dX6_busy_58 : decode cX6_busy 58 = .ok (.iload 5, 2) := by decide +kernel
theorem dX6_busy_60 : decode cX6_busy 60 = .ok (.aload_n 0, 1) := by decide +kernel
theorem dX6_busy_61 : decode cX6_busy 61 = .ok (.iload 6, 2) := by decide +kernel
theorem dX6_busy_63 : decode cX6_busy 63 = .ok (.invokevirtual 59, 3) := by decide +kernel
theorem dX6_busy_66 : decode cX6_busy 66 = .ok (.iload_n 1, 1) := by decide +kernel
theorem dX6_busy_67 : decode cX6_busy 67 = .ok (.iand, 1) := by decide +kernel
theorem dX6_busy_68 : decode cX6_busy 68 = .ok (.ior, 1) := by decide +kernel
theorem dX6_busy_69 : decode cX6_busy 69 = .ok (.istore 5, 2) := by decide +kernel
theorem dX6_busy_71 : decode cX6_busy 71 = .ok (.iinc 7 1, 3) := by decide +kernel
theorem dX6_busy_74 : decode cX6_busy 74 = .ok (.goto (-54), 3) := by decide +kernel
theorem dX6_busy_77 : decode cX6_busy 77 = .ok (.iinc 6 1, 3) := by decide +kernel
theorem dX6_busy_80 : decode cX6_busy 80 = .ok (.goto (-74), 3) := by decide +kernel
theorem dX6_busy_83 : decode cX6_busy 83 = .ok (.iconst 0, 1) := by decide +kernel
theorem dX6_busy_84 : decode cX6_busy 84 = .ok (.istore 6, 2) := by decide +kernel
theorem dX6_busy_86 : decode cX6_busy 86 = .ok (.iload 6, 2) := by decide +kernel
theorem dX6_busy_88 : decode cX6_busy 88 = .ok (.bipush 6, 2) := by decide +kernel
theorem dX6_busy_90 : decode cX6_busy 90 = .ok (.if_icmp .ge 23, 3) := by decide +kernel
theorem dX6_busy_93 : decode cX6_busy 93 = .ok (.iload 5, 2) := by decide +kernel
theorem dX6_busy_95 : decode cX6_busy 95 = .ok (.iload 6, 2) := by decide +kernel
theorem dX6_busy_97 : decode cX6_busy 97 = .ok (.ishr, 1) := by decide +kernel
theorem dX6_busy_98 : decode cX6_busy 98 = .ok (.iconst 1, 1) := by decide +kernel
theorem dX6_busy_99 : decode cX6_busy 99 = .ok (.iand, 1) := by decide +kernel
theorem dX6_busy_100 : decode cX6_busy 100 = .ok (.iconst 1, 1) := by decide +kernel
theorem dX6_busy_101 : decode cX6_busy 101 = .ok (.if_icmp .ne 6, 3) := by decide +kernel
theorem dX6_busy_104 : decode cX6_busy 104 = .ok (.iload 6, 2) := by decide +kernel
theorem dX6_busy_106 : decode cX6_busy 106 = .ok (.ireturn, 1) := by decide +kernel
theorem dX6_busy_107 : decode cX6_busy 107 = .ok (.iinc 6 1, 3) := by decide +kernel
theorem dX6_busy_110 : decode cX6_busy 110 = .ok (.goto (-24), 3) := by decide +kernel
theorem dX6_busy_113 : decode cX6_busy 113 = .ok (.iconst (-1), 1) := by decide +kernel
theorem dX6_busy_114 : decode cX6_busy 114 = .ok (.ireturn, 1) := by decide +kernel
theorem dX6_fits_0 : decode cX6_fits 0 = .ok (.aload_n 0, 1) := by decide +kernel
theorem dX6_fits_1 : decode cX6_fits 1 = .ok (.getfield 7, 3) := by decide +kernel
theorem dX6_fits_4 : decode cX6_fits 4 = .ok (.iconst 5, 1) := by decide +kernel
theorem dX6_fits_5 : decode cX6_fits 5 = .ok (.iload_n 1, 1) := by decide +kernel
theorem dX6_fits_6 : decode cX6_fits 6 = .ok (.iadd, 1) := by decide +kernel
theorem dX6_fits_7 : decode cX6_fits 7 = .ok (.iaload, 1) := by decide +kernel
theorem dX6_fits_8 : decode cX6_fits 8 = .ok (.iload_n 2, 1) := by decide +kernel
theorem dX6_fits_9 : decode cX6_fits 9 = .ok (.invokestatic 63, 3) := by decide +kernel
theorem dX6_fits_12 : decode cX6_fits 12 = .ok (.if_icmp .ge 5, 3) := by decide +kernel
theorem dX6_fits_15 : decode cX6_fits 15 = .ok (.iconst 0, 1) := by decide +kernel
theorem dX6_fits_16 : decode cX6_fits 16 = .ok (.ireturn, 1) := by decide +kernel
theorem dX6_fits_17 : decode cX6_fits 17 = .ok (.iconst 0, 1) := by decide +kernel
theorem dX6_fits_18 : decode cX6_fits 18 = .ok (.istore 6, 2) := by decide +kernel
theorem dX6_fits_20 : decode cX6_fits 20 = .ok (.iload 6, 2) := by decide +kernel
theorem dX6_fits_22 : decode cX6_fits 22 = .ok (.aload_n 0, 1) := by decide +kernel
theorem dX6_fits_23 : decode cX6_fits 23 = .ok (.getfield 7, 3) := by decide +kernel
theorem dX6_fits_26 : decode cX6_fits 26 = .ok (.iconst 1, 1) := by decide +kernel
theorem dX6_fits_27 : decode cX6_fits 27 = .ok (.iaload, 1) := by decide +kernel
theorem dX6_fits_28 : decode cX6_fits 28 = .ok (.if_icmp .ge 134, 3) := by decide +kernel
theorem dX6_fits_31 : decode cX6_fits 31 = .ok (.iconst 0, 1) := by decide +kernel
theorem dX6_fits_32 : decode cX6_fits 32 = .ok (.istore 7, 2) := by decide +kernel
theorem dX6_fits_34 : decode cX6_fits 34 = .ok (.iload 7, 2) := by decide +kernel
theorem dX6_fits_36 : decode cX6_fits 36 = .ok (.aload_n 0, 1) := by decide +kernel
theorem dX6_fits_37 : decode cX6_fits 37 = .ok (.iload 6, 2) := by decide +kernel
theorem dX6_fits_39 : decode cX6_fits 39 = .ok (.iconst 3, 1) := by decide +kernel
theorem dX6_fits_40 : decode cX6_fits 40 = .ok (.invokevirtual 37, 3) := by decide +kernel
theorem dX6_fits_43 : decode cX6_fits 43 = .ok (.if_icmp .ge 113, 3) := by decide +kernel
theorem dX6_fits_46 : decode cX6_fits 46 = .ok (.aload_n 0, 1) := by decide +kernel
theorem dX6_fits_47 : decode cX6_fits 47 = .ok (.iload 6, 2) := by decide +kernel
theorem dX6_fits_49 : decode cX6_fits 49 = .ok (.iload 7, 2) := by decide +kernel
theorem dX6_fits_51 : decode cX6_fits 51 = .ok (.iload_n 3, 1) := by decide +kernel
theorem dX6_fits_52 : decode cX6_fits 52 = .ok (.invokevirtual 52, 3) := by decide +kernel
theorem dX6_fits_55 : decode cX6_fits 55 = .ok (.ifCond .ne 6, 3) := by decide +kernel
theorem dX6_fits_58 : decode cX6_fits 58 = .ok (.goto 92, 3) := by decide +kernel
theorem dX6_fits_61 : decode cX6_fits 61 = .ok (.aload_n 0, 1) := by decide +kernel
theorem dX6_fits_62 : decode cX6_fits 62 = .ok (.iload 6, 2) := by decide +kernel
theorem dX6_fits_64 : decode cX6_fits 64 = .ok (.iload 7, 2) := by decide +kernel
theorem dX6_fits_66 : decode cX6_fits 66 = .ok (.iconst 3, 1) := by decide +kernel
theorem dX6_fits_67 : decode cX6_fits 67 = .ok (.invokevirtual 45, 3) := by decide +kernel
theorem dX6_fits_70 : decode cX6_fits 70 = .ok (.istore 8, 2) := by decide +kernel
theorem dX6_fits_72 : decode cX6_fits 72 = .ok (.aload_n 0, 1) := by decide +kernel
theorem dX6_fits_73 : decode cX6_fits 73 = .ok (.iload 6, 2) := by decide +kernel
theorem dX6_fits_75 : decode cX6_fits 75 = .ok (.iload 7, 2) := by decide +kernel
theorem dX6_fits_77 : decode cX6_fits 77 = .ok (.iload 4, 2) := by decide +kernel
theorem dX6_fits_79 : decode cX6_fits 79 = .ok (.iload 5, 2) := by decide +kernel
theorem dX6_fits_81 : decode cX6_fits 81 = .ok (.invokevirtual 55, 3) := by decide +kernel
theorem dX6_fits_84 : decode cX6_fits 84 = .ok (.istore 9, 2) := by decide +kernel
theorem dX6_fits_86 : decode cX6_fits 86 = .ok (.iload 8, 2) := by decide +kernel
theorem dX6_fits_88 : decode cX6_fits 88 = .ok (.iload_n 1, 1) := by decide +kernel
theorem dX6_fits_89 : decode cX6_fits 89 = .ok (.if_icmp .ne 10, 3) := by decide +kernel
theorem dX6_fits_92 : decode cX6_fits 92 = .ok (.iload 9, 2) := by decide +kernel
theorem dX6_fits_94 : decode cX6_fits 94 = .ok (.ifCond .ge 5, 3) := by decide +kernel
theorem dX6_fits_97 : decode cX6_fits 97 = .ok (.iconst 0, 1) := by decide +kernel
theorem dX6_fits_98 : decode cX6_fits 98 = .ok (.ireturn, 1) := by decide +kernel
theorem dX6_fits_99 : decode cX6_fits 99 = .ok (.aload_n 0, 1) := by decide +kernel
theorem dX6_fits_100 : decode cX6_fits 100 = .ok (.iload 6, 2) := by decide +kernel
theorem dX6_fits_102 : decode cX6_fits 102 = .ok (.invokevirtual 59, 3) := by decide +kernel
theorem dX6_fits_105 : decode cX6_fits 105 = .ok (.iload_n 2, 1) := by decide +kernel
theorem dX6_fits_106 : decode cX6_fits 106 = .ok (.iand, 1) := by decide +kernel
theorem dX6_fits_107 : decode cX6_fits 107 = .ok (.ifCond .eq 43, 3) := by decide +kernel
theorem dX6_fits_110 : decode cX6_fits 110 = .ok (.iload 9, 2) := by decide +kernel
theorem dX6_fits_112 : decode cX6_fits 112 = .ok (.ifCond .lt 36, 3) := by decide +kernel
theorem dX6_fits_115 : decode cX6_fits 115 = .ok (.aload_n 0, 1) := by decide +kernel
theorem dX6_fits_116 : decode cX6_fits 116 = .ok (.getfield 7, 3) := by decide +kernel
theorem dX6_fits_119 : decode cX6_fits 119 = .ok (.bipush 9, 2) := by decide +kernel
theorem dX6_fits_121 : decode cX6_fits 121 = .ok (.iload 8, 2) := by decide +kernel
theorem dX6_fits_123 : decode cX6_fits 123 = .ok (.iadd, 1) := by decide +kernel
theorem dX6_fits_124 : decode cX6_fits 124 = .ok (.iaload, 1) := by decide +kernel
theorem dX6_fits_125 : decode cX6_fits 125 = .ok (.aload_n 0, 1) := by decide +kernel
theorem dX6_fits_126 : decode cX6_fits 126 = .ok (.getfield 7, 3) := by decide +kernel
theorem dX6_fits_129 : decode cX6_fits 129 = .ok (.bipush 9, 2) := by decide +kernel
theorem dX6_fits_131 : decode cX6_fits 131 = .ok (.iload_n 1, 1) := by decide +kernel
theorem dX6_fits_132 : decode cX6_fits 132 = .ok (.iadd, 1) := by decide +kernel
theorem dX6_fits_133 : decode cX6_fits 133 = .ok (.iaload, 1) := by decide +kernel
theorem dX6_fits_134 : decode cX6_fits 134 = .ok (.if_icmp .eq 16, 3) := by decide +kernel
theorem dX6_fits_137 : decode cX6_fits 137 = .ok (.iload 9, 2) := by decide +kernel
theorem dX6_fits_139 : decode cX6_fits 139 = .ok (.aload_n 0, 1) := by decide +kernel
theorem dX6_fits_140 : decode cX6_fits 140 = .ok (.getfield 7, 3) := by decide +kernel
theorem dX6_fits_143 : decode cX6_fits 143 = .ok (.iconst 0, 1) := by decide +kernel
theorem dX6_fits_144 : decode cX6_fits 144 = .ok (.iaload, 1) := by decide +kernel
theorem dX6_fits_145 : decode cX6_fits 145 = .ok (.if_icmp .ge 5, 3) := by decide +kernel
theorem dX6_fits_148 : decode cX6_fits 148 = .ok (.iconst 0, 1) := by decide +kernel
theorem dX6_fits_149 : decode cX6_fits 149 = .ok (.ireturn, 1) := by decide +kernel
theorem dX6_fits_150 : decode cX6_fits 150 = .ok (.iinc 7 1, 3) := by decide +kernel
theorem dX6_fits_153 : decode cX6_fits 153 = .ok (.goto (-119), 3) := by decide +kernel
theorem dX6_fits_156 : decode cX6_fits 156 = .ok (.iinc 6 1, 3) := by decide +kernel
theorem dX6_fits_159 : decode cX6_fits 159 = .ok (.goto (-139), 3) := by decide +kernel
theorem dX6_fits_162 : decode cX6_fits 162 = .ok (.iconst 1, 1) := by decide +kernel
theorem dX6_fits_163 : decode cX6_fits 163 = .ok (.ireturn, 1) := by decide +kernel
theorem dX6_smallest_0 : decode cX6_smallest 0 = .ok (.iconst (-1), 1) := by decide +kernel
theorem dX6_smallest_1 : decode cX6_smallest 1 = .ok (.istore 5, 2) := by decide +kernel
theorem dX6_smallest_3 : decode cX6_smallest 3 = .ok (.iconst 0, 1) := by decide +kernel
theorem dX6_smallest_4 : decode cX6_smallest 4 = .ok (.istore 6, 2) := by decide +kernel
theorem dX6_smallest_6 : decode cX6_smallest 6 = .ok (.iload 6, 2) := by decide +kernel
theorem dX6_smallest_8 : decode cX6_smallest 8 = .ok (.iconst 4, 1) := by decide +kernel
theorem dX6_smallest_9 : decode cX6_smallest 9 = .ok (.if_icmp .ge 53, 3) := by decide +kernel
theorem dX6_smallest_12 : decode cX6_smallest 12 = .ok (.aload_n 0, 1) := by decide +kernel
theorem dX6_smallest_13 : decode cX6_smallest 13 = .ok (.iload 6, 2) := by decide +kernel
theorem dX6_smallest_15 : decode cX6_smallest 15 = .ok (.iload_n 1, 1) := by decide +kernel
theorem dX6_smallest_16 : decode cX6_smallest 16 = .ok (.iload_n 2, 1) := by decide +kernel
theorem dX6_smallest_17 : decode cX6_smallest 17 = .ok (.iload_n 3, 1) := by decide +kernel
theorem dX6_smallest_18 : decode cX6_smallest 18 = .ok (.iload 4, 2) := by decide +kernel
theorem dX6_smallest_20 : decode cX6_smallest 20 = .ok (.invokevirtual 66, 3) := by decide +kernel
theorem dX6_smallest_23 : decode cX6_smallest 23 = .ok (.ifCond .eq 33, 3) := by decide +kernel
theorem dX6_smallest_26 : decode cX6_smallest 26 = .ok (.iload 5, 2) := by decide +kernel
theorem dX6_smallest_28 : decode cX6_smallest 28 = .ok (.ifCond .lt 24, 3) := by decide +kernel
theorem dX6_smallest_31 : decode cX6_smallest 31 = .ok (.aload_n 0, 1) := by decide +kernel
theorem dX6_smallest_32 : decode cX6_smallest 32 = .ok (.getfield 7, 3) := by decide +kernel
theorem dX6_smallest_35 : decode cX6_smallest 35 = .ok (.iconst 5, 1) := by decide +kernel
theorem dX6_smallest_36 : decode cX6_smallest 36 = .ok (.iload 6, 2) := by decide +kernel
theorem dX6_smallest_38 : decode cX6_smallest 38 = .ok (.iadd, 1) := by decide +kernel
theorem dX6_smallest_39 : decode cX6_smallest 39 = .ok (.iaload, 1) := by decide +kernel
theorem dX6_smallest_40 : decode cX6_smallest 40 = .ok (.aload_n 0, 1) := by decide +kernel
theorem dX6_smallest_41 : decode cX6_smallest 41 = .ok (.getfield 7, 3) := by decide +kernel
theorem dX6_smallest_44 : decode cX6_smallest 44 = .ok (.iconst 5, 1) := by decide +kernel
theorem dX6_smallest_45 : decode cX6_smallest 45 = .ok (.iload 5, 2) := by decide +kernel
theorem dX6_smallest_47 : decode cX6_smallest 47 = .ok (.iadd, 1) := by decide +kernel
theorem dX6_smallest_48 : decode cX6_smallest 48 = .ok (.iaload, 1) := by decide +kernel
theorem dX6_smallest_49 : decode cX6_smallest 49 = .ok (.if_icmp .ge 7, 3) := by decide +kernel
theorem dX6_smallest_52 : decode cX6_smallest 52 = .ok (.iload 6, 2) := by decide +kernel
theorem dX6_smallest_54 : decode cX6_smallest 54 = .ok (.istore 5, 2) := by decide +kernel
theorem dX6_smallest_56 : decode cX6_smallest 56 = .ok (.iinc 6 1, 3) := by decide +kernel
theorem dX6_smallest_59 : decode cX6_smallest 59 = .ok (.goto (-53), 3) := by decide +kernel
theorem dX6_smallest_62 : decode cX6_smallest 62 = .ok (.iload 5, 2) := by decide +kernel
theorem dX6_smallest_64 : decode cX6_smallest 64 = .ok (.ireturn, 1) := by decide +kernel
theorem dX6_refuses_0 : decode cX6_refuses 0 = .ok (.aload_n 0, 1) := by decide +kernel
theorem dX6_refuses_1 : decode cX6_refuses 1 = .ok (.getfield 7, 3) := by decide +kernel
theorem dX6_refuses_4 : decode cX6_refuses 4 = .ok (.iconst 3, 1) := by decide +kernel
theorem dX6_refuses_5 : decode cX6_refuses 5 = .ok (.iload_n 1, 1) := by decide +kernel
theorem dX6_refuses_6 : decode cX6_refuses 6 = .ok (.iastore, 1) := by decide +kernel
theorem dX6_refuses_7 : decode cX6_refuses 7 = .ok (.aload_n 0, 1) := by decide +kernel
theorem dX6_refuses_8 : decode cX6_refuses 8 = .ok (.getfield 7, 3) := by decide +kernel
theorem dX6_refuses_11 : decode cX6_refuses 11 = .ok (.iconst 4, 1) := by decide +kernel
theorem dX6_refuses_12 : decode cX6_refuses 12 = .ok (.iload_n 2, 1) := by decide +kernel
theorem dX6_refuses_13 : decode cX6_refuses 13 = .ok (.iastore, 1) := by decide +kernel
theorem dX6_refuses_14 : decode cX6_refuses 14 = .ok (.aload_n 0, 1) := by decide +kernel
theorem dX6_refuses_15 : decode cX6_refuses 15 = .ok (.iload_n 3, 1) := by decide +kernel
theorem dX6_refuses_16 : decode cX6_refuses 16 = .ok (.invokevirtual 34, 3) := by decide +kernel
theorem dX6_refuses_19 : decode cX6_refuses 19 = .ok (.ireturn, 1) := by decide +kernel
theorem dX6_dates_0 : decode cX6_dates 0 = .ok (.bipush 10, 2) := by decide +kernel
theorem dX6_dates_2 : decode cX6_dates 2 = .ok (.iconst 4, 1) := by decide +kernel
theorem dX6_dates_3 : decode cX6_dates 3 = .ok (.iload_n 2, 1) := by decide +kernel
theorem dX6_dates_4 : decode cX6_dates 4 = .ok (.imul, 1) := by decide +kernel
theorem dX6_dates_5 : decode cX6_dates 5 = .ok (.iadd, 1) := by decide +kernel
theorem dX6_dates_6 : decode cX6_dates 6 = .ok (.istore 6, 2) := by decide +kernel
theorem dX6_dates_8 : decode cX6_dates 8 = .ok (.aload_n 0, 1) := by decide +kernel
theorem dX6_dates_9 : decode cX6_dates 9 = .ok (.iload_n 1, 1) := by decide +kernel
theorem dX6_dates_10 : decode cX6_dates 10 = .ok (.iload 6, 2) := by decide +kernel
theorem dX6_dates_12 : decode cX6_dates 12 = .ok (.iconst 0, 1) := by decide +kernel
theorem dX6_dates_13 : decode cX6_dates 13 = .ok (.iadd, 1) := by decide +kernel
theorem dX6_dates_14 : decode cX6_dates 14 = .ok (.iload_n 3, 1) := by decide +kernel
theorem dX6_dates_15 : decode cX6_dates 15 = .ok (.invokevirtual 70, 3) := by decide +kernel
theorem dX6_dates_18 : decode cX6_dates 18 = .ok (.aload_n 0, 1) := by decide +kernel
theorem dX6_dates_19 : decode cX6_dates 19 = .ok (.iload_n 1, 1) := by decide +kernel
theorem dX6_dates_20 : decode cX6_dates 20 = .ok (.iload 6, 2) := by decide +kernel
theorem dX6_dates_22 : decode cX6_dates 22 = .ok (.iconst 1, 1) := by decide +kernel
theorem dX6_dates_23 : decode cX6_dates 23 = .ok (.iadd, 1) := by decide +kernel
theorem dX6_dates_24 : decode cX6_dates 24 = .ok (.iload 4, 2) := by decide +kernel
theorem dX6_dates_26 : decode cX6_dates 26 = .ok (.invokevirtual 70, 3) := by decide +kernel
theorem dX6_dates_29 : decode cX6_dates 29 = .ok (.aload_n 0, 1) := by decide +kernel
theorem dX6_dates_30 : decode cX6_dates 30 = .ok (.iload_n 1, 1) := by decide +kernel
theorem dX6_dates_31 : decode cX6_dates 31 = .ok (.iload 6, 2) := by decide +kernel
theorem dX6_dates_33 : decode cX6_dates 33 = .ok (.iconst 2, 1) := by decide +kernel
theorem dX6_dates_34 : decode cX6_dates 34 = .ok (.iadd, 1) := by decide +kernel
theorem dX6_dates_35 : decode cX6_dates 35 = .ok (.iconst 0, 1) := by decide +kernel
theorem dX6_dates_36 : decode cX6_dates 36 = .ok (.invokevirtual 70, 3) := by decide +kernel
theorem dX6_dates_39 : decode cX6_dates 39 = .ok (.aload_n 0, 1) := by decide +kernel
theorem dX6_dates_40 : decode cX6_dates 40 = .ok (.iload_n 1, 1) := by decide +kernel
theorem dX6_dates_41 : decode cX6_dates 41 = .ok (.iload 6, 2) := by decide +kernel
theorem dX6_dates_43 : decode cX6_dates 43 = .ok (.iconst 3, 1) := by decide +kernel
theorem dX6_dates_44 : decode cX6_dates 44 = .ok (.iadd, 1) := by decide +kernel
theorem dX6_dates_45 : decode cX6_dates 45 = .ok (.iload 5, 2) := by decide +kernel
theorem dX6_dates_47 : decode cX6_dates 47 = .ok (.invokevirtual 70, 3) := by decide +kernel
theorem dX6_dates_50 : decode cX6_dates 50 = .ok (.return_, 1) := by decide +kernel
theorem dX6_ask_0 : decode cX6_ask 0 = .ok (.iload_n 1, 1) := by decide +kernel
theorem dX6_ask_1 : decode cX6_ask 1 = .ok (.invokestatic 74, 3) := by decide +kernel
theorem dX6_ask_4 : decode cX6_ask 4 = .ok (.ifCond .eq 53, 3) := by decide +kernel
theorem dX6_ask_7 : decode cX6_ask 7 = .ok (.iload_n 2, 1) := by decide +kernel
theorem dX6_ask_8 : decode cX6_ask 8 = .ok (.iconst 0, 1) := by decide +kernel
theorem dX6_ask_9 : decode cX6_ask 9 = .ok (.bipush 63, 2) := by decide +kernel
theorem dX6_ask_11 : decode cX6_ask 11 = .ok (.invokestatic 26, 3) := by decide +kernel
theorem dX6_ask_14 : decode cX6_ask 14 = .ok (.ifCond .eq 43, 3) := by decide +kernel
theorem dX6_ask_17 : decode cX6_ask 17 = .ok (.iload_n 3, 1) := by decide +kernel
theorem dX6_ask_18 : decode cX6_ask 18 = .ok (.invokestatic 77, 3) := by decide +kernel
theorem dX6_ask_21 : decode cX6_ask 21 = .ok (.ifCond .eq 36, 3) := by decide +kernel
theorem dX6_ask_24 : decode cX6_ask 24 = .ok (.iload 4, 2) := by decide +kernel
theorem dX6_ask_26 : decode cX6_ask 26 = .ok (.invokestatic 80, 3) := by decide +kernel
theorem dX6_ask_29 : decode cX6_ask 29 = .ok (.ifCond .eq 28, 3) := by decide +kernel
theorem dX6_ask_32 : decode cX6_ask 32 = .ok (.iload 5, 2) := by decide +kernel
theorem dX6_ask_34 : decode cX6_ask 34 = .ok (.iconst 1, 1) := by decide +kernel
theorem dX6_ask_35 : decode cX6_ask 35 = .ok (.bipush 6, 2) := by decide +kernel
theorem dX6_ask_37 : decode cX6_ask 37 = .ok (.invokestatic 26, 3) := by decide +kernel
theorem dX6_ask_40 : decode cX6_ask 40 = .ok (.ifCond .eq 17, 3) := by decide +kernel
theorem dX6_ask_43 : decode cX6_ask 43 = .ok (.iload 4, 2) := by decide +kernel
theorem dX6_ask_45 : decode cX6_ask 45 = .ok (.iload 5, 2) := by decide +kernel
theorem dX6_ask_47 : decode cX6_ask 47 = .ok (.iadd, 1) := by decide +kernel
theorem dX6_ask_48 : decode cX6_ask 48 = .ok (.bipush 16, 2) := by decide +kernel
theorem dX6_ask_50 : decode cX6_ask 50 = .ok (.if_icmp .gt 7, 3) := by decide +kernel
theorem dX6_ask_53 : decode cX6_ask 53 = .ok (.iconst 1, 1) := by decide +kernel
theorem dX6_ask_54 : decode cX6_ask 54 = .ok (.goto 4, 3) := by decide +kernel
theorem dX6_ask_57 : decode cX6_ask 57 = .ok (.iconst 0, 1) := by decide +kernel
theorem dX6_ask_58 : decode cX6_ask 58 = .ok (.istore 6, 2) := by decide +kernel
theorem dX6_ask_60 : decode cX6_ask 60 = .ok (.aload_n 0, 1) := by decide +kernel
theorem dX6_ask_61 : decode cX6_ask 61 = .ok (.iload 6, 2) := by decide +kernel
theorem dX6_ask_63 : decode cX6_ask 63 = .ok (.ifCond .ne 7, 3) := by decide +kernel
theorem dX6_ask_66 : decode cX6_ask 66 = .ok (.iconst 1, 1) := by decide +kernel
theorem dX6_ask_67 : decode cX6_ask 67 = .ok (.goto 19, 3) := by decide +kernel
theorem dX6_ask_70 : decode cX6_ask 70 = .ok (.aload_n 0, 1) := by decide +kernel
theorem dX6_ask_71 : decode cX6_ask 71 = .ok (.getfield 7, 3) := by decide +kernel
theorem dX6_ask_74 : decode cX6_ask 74 = .ok (.iconst 1, 1) := by decide +kernel
theorem dX6_ask_75 : decode cX6_ask 75 = .ok (.iaload, 1) := by decide +kernel
theorem dX6_ask_76 : decode cX6_ask 76 = .ok (.bipush 8, 2) := by decide +kernel
theorem dX6_ask_78 : decode cX6_ask 78 = .ok (.if_icmp .ne 7, 3) := by decide +kernel
theorem dX6_ask_81 : decode cX6_ask 81 = .ok (.iconst 2, 1) := by decide +kernel
theorem dX6_ask_82 : decode cX6_ask 82 = .ok (.goto 4, 3) := by decide +kernel
theorem dX6_ask_85 : decode cX6_ask 85 = .ok (.iconst 0, 1) := by decide +kernel
theorem dX6_ask_86 : decode cX6_ask 86 = .ok (.invokevirtual 34, 3) := by decide +kernel
theorem dX6_ask_89 : decode cX6_ask 89 = .ok (.ifCond .eq 5, 3) := by decide +kernel
theorem dX6_ask_92 : decode cX6_ask 92 = .ok (.iconst 0, 1) := by decide +kernel
theorem dX6_ask_93 : decode cX6_ask 93 = .ok (.ireturn, 1) := by decide +kernel
theorem dX6_ask_94 : decode cX6_ask 94 = .ok (.iload_n 2, 1) := by decide +kernel
theorem dX6_ask_95 : decode cX6_ask 95 = .ok (.iconst 1, 1) := by decide +kernel
theorem dX6_ask_96 : decode cX6_ask 96 = .ok (.iload_n 1, 1) := by decide +kernel
theorem dX6_ask_97 : decode cX6_ask 97 = .ok (.ishl, 1) := by decide +kernel
theorem dX6_ask_98 : decode cX6_ask 98 = .ok (.ior, 1) := by decide +kernel
theorem dX6_ask_99 : decode cX6_ask 99 = .ok (.istore 7, 2) := by decide +kernel
theorem dX6_ask_101 : decode cX6_ask 101 = .ok (.aload_n 0, 1) := by decide +kernel
theorem dX6_ask_102 : decode cX6_ask 102 = .ok (.iload 7, 2) := by decide +kernel
theorem dX6_ask_104 : decode cX6_ask 104 = .ok (.iload_n 3, 1) := by decide +kernel
theorem dX6_ask_105 : decode cX6_ask 105 = .ok (.iload 4, 2) := by decide +kernel
theorem dX6_ask_107 : decode cX6_ask 107 = .ok (.iload 5, 2) := by decide +kernel
theorem dX6_ask_109 : decode cX6_ask 109 = .ok (.invokevirtual 83, 3) := by decide +kernel
theorem dX6_ask_112 : decode cX6_ask 112 = .ok (.istore 8, 2) := by decide +kernel
theorem dX6_ask_114 : decode cX6_ask 114 = .ok (.iload 8, 2) := by decide +kernel
theorem dX6_ask_116 : decode cX6_ask 116 = .ok (.ifCond .lt 16, 3) := by decide +kernel
theorem dX6_ask_119 : decode cX6_ask 119 = .ok (.aload_n 0, 1) := by decide +kernel
theorem dX6_ask_120 : decode cX6_ask 120 = .ok (.iconst 1, 1) := by decide +kernel
theorem dX6_ask_121 : decode cX6_ask 121 = .ok (.iload 8, 2) := by decide +kernel
theorem dX6_ask_123 : decode cX6_ask 123 = .ok (.iconst 3, 1) := by decide +kernel
theorem dX6_ask_124 : decode cX6_ask 124 = .ok (.invokevirtual 86, 3) := by decide +kernel
theorem dX6_ask_127 : decode cX6_ask 127 = .ok (.ifCond .eq 5, 3) := by decide +kernel
theorem dX6_ask_130 : decode cX6_ask 130 = .ok (.iconst 0, 1) := by decide +kernel
theorem dX6_ask_131 : decode cX6_ask 131 = .ok (.ireturn, 1) := by decide +kernel
theorem dX6_ask_132 : decode cX6_ask 132 = .ok (.aload_n 0, 1) := by decide +kernel
theorem dX6_ask_133 : decode cX6_ask 133 = .ok (.iload 7, 2) := by decide +kernel
theorem dX6_ask_135 : decode cX6_ask 135 = .ok (.iload_n 3, 1) := by decide +kernel
theorem dX6_ask_136 : decode cX6_ask 136 = .ok (.iload 4, 2) := by decide +kernel
theorem dX6_ask_138 : decode cX6_ask 138 = .ok (.iload 5, 2) := by decide +kernel
theorem dX6_ask_140 : decode cX6_ask 140 = .ok (.invokevirtual 89, 3) := by decide +kernel
theorem dX6_ask_143 : decode cX6_ask 143 = .ok (.istore 9, 2) := by decide +kernel
theorem dX6_ask_145 : decode cX6_ask 145 = .ok (.iload 9, 2) := by decide +kernel
theorem dX6_ask_147 : decode cX6_ask 147 = .ok (.ifCond .ge 15, 3) := by decide +kernel
theorem dX6_ask_150 : decode cX6_ask 150 = .ok (.aload_n 0, 1) := by decide +kernel
theorem dX6_ask_151 : decode cX6_ask 151 = .ok (.iconst 2, 1) := by decide +kernel
theorem dX6_ask_152 : decode cX6_ask 152 = .ok (.iconst 0, 1) := by decide +kernel
theorem dX6_ask_153 : decode cX6_ask 153 = .ok (.iconst 3, 1) := by decide +kernel
theorem dX6_ask_154 : decode cX6_ask 154 = .ok (.invokevirtual 86, 3) := by decide +kernel
theorem dX6_ask_157 : decode cX6_ask 157 = .ok (.ifCond .eq 5, 3) := by decide +kernel
theorem dX6_ask_160 : decode cX6_ask 160 = .ok (.iconst 0, 1) := by decide +kernel
theorem dX6_ask_161 : decode cX6_ask 161 = .ok (.ireturn, 1) := by decide +kernel
theorem dX6_ask_162 : decode cX6_ask 162 = .ok (.aload_n 0, 1) := by decide +kernel
theorem dX6_ask_163 : decode cX6_ask 163 = .ok (.getfield 7, 3) := by decide +kernel
theorem dX6_ask_166 : decode cX6_ask 166 = .ok (.iconst 1, 1) := by decide +kernel
theorem dX6_ask_167 : decode cX6_ask 167 = .ok (.iaload, 1) := by decide +kernel
theorem dX6_ask_168 : decode cX6_ask 168 = .ok (.istore 10, 2) := by decide +kernel
theorem dX6_ask_170 : decode cX6_ask 170 = .ok (.aload_n 0, 1) := by decide +kernel
theorem dX6_ask_171 : decode cX6_ask 171 = .ok (.iload 10, 2) := by decide +kernel
theorem dX6_ask_173 : decode cX6_ask 173 = .ok (.iconst 0, 1) := by decide +kernel
theorem dX6_ask_174 : decode cX6_ask 174 = .ok (.aload_n 0, 1) := by decide +kernel
theorem dX6_ask_175 : decode cX6_ask 175 = .ok (.getfield 7, 3) := by decide +kernel
theorem dX6_ask_178 : decode cX6_ask 178 = .ok (.iconst 2, 1) := by decide +kernel
theorem dX6_ask_179 : decode cX6_ask 179 = .ok (.iaload, 1) := by decide +kernel
theorem dX6_ask_180 : decode cX6_ask 180 = .ok (.invokevirtual 70, 3) := by decide +kernel
theorem dX6_ask_183 : decode cX6_ask 183 = .ok (.aload_n 0, 1) := by decide +kernel
theorem dX6_ask_184 : decode cX6_ask 184 = .ok (.iload 10, 2) := by decide +kernel
theorem dX6_ask_186 : decode cX6_ask 186 = .ok (.iconst 1, 1) := by decide +kernel
theorem dX6_ask_187 : decode cX6_ask 187 = .ok (.iload_n 1, 1) := by decide +kernel
theorem dX6_ask_188 : decode cX6_ask 188 = .ok (.invokevirtual 70, 3) := by decide +kernel
theorem dX6_ask_191 : decode cX6_ask 191 = .ok (.aload_n 0, 1) := by decide +kernel
theorem dX6_ask_192 : decode cX6_ask 192 = .ok (.iload 10, 2) := by decide +kernel
theorem dX6_ask_194 : decode cX6_ask 194 = .ok (.iconst 2, 1) := by decide +kernel
theorem dX6_ask_195 : decode cX6_ask 195 = .ok (.iload 5, 2) := by decide +kernel
theorem dX6_ask_197 : decode cX6_ask 197 = .ok (.invokevirtual 70, 3) := by decide +kernel
theorem dX6_ask_200 : decode cX6_ask 200 = .ok (.aload_n 0, 1) := by decide +kernel
theorem dX6_ask_201 : decode cX6_ask 201 = .ok (.iload 10, 2) := by decide +kernel
theorem dX6_ask_203 : decode cX6_ask 203 = .ok (.iconst 3, 1) := by decide +kernel
theorem dX6_ask_204 : decode cX6_ask 204 = .ok (.iconst 1, 1) := by decide +kernel
theorem dX6_ask_205 : decode cX6_ask 205 = .ok (.invokevirtual 70, 3) := by decide +kernel
theorem dX6_ask_208 : decode cX6_ask 208 = .ok (.iconst 0, 1) := by decide +kernel
theorem dX6_ask_209 : decode cX6_ask 209 = .ok (.istore 11, 2) := by decide +kernel
theorem dX6_ask_211 : decode cX6_ask 211 = .ok (.iload 11, 2) := by decide +kernel
theorem dX6_ask_213 : decode cX6_ask 213 = .ok (.bipush 6, 2) := by decide +kernel
theorem dX6_ask_215 : decode cX6_ask 215 = .ok (.if_icmp .ge 42, 3) := by decide +kernel
theorem dX6_ask_218 : decode cX6_ask 218 = .ok (.aload_n 0, 1) := by decide +kernel
theorem dX6_ask_219 : decode cX6_ask 219 = .ok (.iload 10, 2) := by decide +kernel
theorem dX6_ask_221 : decode cX6_ask 221 = .ok (.iconst 4, 1) := by decide +kernel
theorem dX6_ask_222 : decode cX6_ask 222 = .ok (.iload 11, 2) := by decide +kernel
theorem dX6_ask_224 : decode cX6_ask 224 = .ok (.iadd, 1) := by decide +kernel
theorem dX6_ask_225 : decode cX6_ask 225 = .ok (.iload 11, 2) := by decide +kernel
theorem dX6_ask_227 : decode cX6_ask 227 = .ok (.iload_n 1, 1) := by decide +kernel
theorem dX6_ask_228 : decode cX6_ask 228 = .ok (.if_icmp .eq 18, 3) := by decide +kernel
theorem dX6_ask_231 : decode cX6_ask 231 = .ok (.iload_n 2, 1) := by decide +kernel
theorem dX6_ask_232 : decode cX6_ask 232 = .ok (.iload 11, 2) := by decide +kernel
theorem dX6_ask_234 : decode cX6_ask 234 = .ok (.ishr, 1) := by decide +kernel
theorem dX6_ask_235 : decode cX6_ask 235 = .ok (.iconst 1, 1) := by decide +kernel
theorem dX6_ask_236 : decode cX6_ask 236 = .ok (.iand, 1) := by decide +kernel
theorem dX6_ask_237 : decode cX6_ask 237 = .ok (.iconst 1, 1) := by decide +kernel
theorem dX6_ask_238 : decode cX6_ask 238 = .ok (.if_icmp .ne 8, 3) := by decide +kernel
theorem dX6_ask_241 : decode cX6_ask 241 = .ok (.bipush 111, 2) := by decide +kernel
theorem dX6_ask_243 : decode cX6_ask 243 = .ok (.goto 5, 3) := by decide +kernel
theorem dX6_ask_246 : decode cX6_ask 246 = .ok (.bipush 45, 2) := by decide +kernel
theorem dX6_ask_248 : decode cX6_ask 248 = .ok (.invokevirtual 70, 3) := by decide +kernel
theorem dX6_ask_251 : decode cX6_ask 251 = .ok (.iinc 11 1, 3) := by decide +kernel
theorem dX6_ask_254 : decode cX6_ask 254 = .ok (.goto (-43), 3) := by decide +kernel
theorem dX6_ask_257 : decode cX6_ask 257 = .ok (.aload_n 0, 1) := by decide +kernel
theorem dX6_ask_258 : decode cX6_ask 258 = .ok (.iload 10, 2) := by decide +kernel
theorem dX6_ask_260 : decode cX6_ask 260 = .ok (.iconst 0, 1) := by decide +kernel
theorem dX6_ask_261 : decode cX6_ask 261 = .ok (.iload_n 3, 1) := by decide +kernel
theorem dX6_ask_262 : decode cX6_ask 262 = .ok (.iload 4, 2) := by decide +kernel
theorem dX6_ask_264 : decode cX6_ask 264 = .ok (.iload 9, 2) := by decide +kernel
theorem dX6_ask_266 : decode cX6_ask 266 = .ok (.invokevirtual 92, 3) := by decide +kernel
theorem dX6_ask_269 : decode cX6_ask 269 = .ok (.aload_n 0, 1) := by decide +kernel
theorem dX6_ask_270 : decode cX6_ask 270 = .ok (.getfield 7, 3) := by decide +kernel
theorem dX6_ask_273 : decode cX6_ask 273 = .ok (.iconst 1, 1) := by decide +kernel
theorem dX6_ask_274 : decode cX6_ask 274 = .ok (.dup2, 1) := by decide +kernel
theorem dX6_ask_275 : decode cX6_ask 275 = .ok (.iaload, 1) := by decide +kernel
theorem dX6_ask_276 : decode cX6_ask 276 = .ok (.iconst 1, 1) := by decide +kernel
theorem dX6_ask_277 : decode cX6_ask 277 = .ok (.iadd, 1) := by decide +kernel
theorem dX6_ask_278 : decode cX6_ask 278 = .ok (.iastore, 1) := by decide +kernel
theorem dX6_ask_279 : decode cX6_ask 279 = .ok (.aload_n 0, 1) := by decide +kernel
theorem dX6_ask_280 : decode cX6_ask 280 = .ok (.getfield 7, 3) := by decide +kernel
theorem dX6_ask_283 : decode cX6_ask 283 = .ok (.iconst 2, 1) := by decide +kernel
theorem dX6_ask_284 : decode cX6_ask 284 = .ok (.dup2, 1) := by decide +kernel
theorem dX6_ask_285 : decode cX6_ask 285 = .ok (.iaload, 1) := by decide +kernel
theorem dX6_ask_286 : decode cX6_ask 286 = .ok (.iconst 1, 1) := by decide +kernel
theorem dX6_ask_287 : decode cX6_ask 287 = .ok (.iadd, 1) := by decide +kernel
theorem dX6_ask_288 : decode cX6_ask 288 = .ok (.iastore, 1) := by decide +kernel
theorem dX6_ask_289 : decode cX6_ask 289 = .ok (.aload_n 0, 1) := by decide +kernel
theorem dX6_ask_290 : decode cX6_ask 290 = .ok (.iload 10, 2) := by decide +kernel
theorem dX6_ask_292 : decode cX6_ask 292 = .ok (.iconst 0, 1) := by decide +kernel
theorem dX6_ask_293 : decode cX6_ask 293 = .ok (.invokevirtual 37, 3) := by decide +kernel
theorem dX6_ask_296 : decode cX6_ask 296 = .ok (.ireturn, 1) := by decide +kernel
theorem dX6_extend_0 : decode cX6_extend 0 = .ok (.aload_n 0, 1) := by decide +kernel
theorem dX6_extend_1 : decode cX6_extend 1 = .ok (.iload_n 1, 1) := by decide +kernel
theorem dX6_extend_2 : decode cX6_extend 2 = .ok (.invokevirtual 96, 3) := by decide +kernel
theorem dX6_extend_5 : decode cX6_extend 5 = .ok (.istore 4, 2) := by decide +kernel
theorem dX6_extend_7 : decode cX6_extend 7 = .ok (.aload_n 0, 1) := by decide +kernel
theorem dX6_extend_8 : decode cX6_extend 8 = .ok (.iload 4, 2) := by decide +kernel
theorem dX6_extend_10 : decode cX6_extend 10 = .ok (.ifCond .ge 7, 3) := by decide +kernel
theorem dX6_extend_13 : decode cX6_extend 13 = .ok (.iconst 1, 1) := by decide +kernel
theorem dX6_extend_14 : decode cX6_extend 14 = .ok (.goto 27, 3) := by decide +kernel
theorem dX6_extend_17 : decode cX6_extend 17 = .ok (.iload_n 2, 1) := by decide +kernel
theorem dX6_extend_18 : decode cX6_extend 18 = .ok (.iconst 1, 1) := by decide +kernel
theorem dX6_extend_19 : decode cX6_extend 19 = .ok (.bipush 14, 2) := by decide +kernel
theorem dX6_extend_21 : decode cX6_extend 21 = .ok (.invokestatic 26, 3) := by decide +kernel
theorem dX6_extend_24 : decode cX6_extend 24 = .ok (.ifCond .eq 16, 3) := by decide +kernel
theorem dX6_extend_27 : decode cX6_extend 27 = .ok (.iload_n 3, 1) := by decide +kernel
theorem dX6_extend_28 : decode cX6_extend 28 = .ok (.iconst 1, 1) := by decide +kernel
theorem dX6_extend_29 : decode cX6_extend 29 = .ok (.iconst 5, 1) := by decide +kernel
theorem dX6_extend_30 : decode cX6_extend 30 = .ok (.invokestatic 26, 3) := by decide +kernel
theorem dX6_extend_33 : decode cX6_extend 33 = .ok (.ifCond .eq 7, 3) := by decide +kernel
theorem dX6_extend_36 : decode cX6_extend 36 = .ok (.iconst 0, 1) := by decide +kernel
theorem dX6_extend_37 : decode cX6_extend 37 = .ok (.goto 4, 3) := by decide +kernel
theorem dX6_extend_40 : decode cX6_extend 40 = .ok (.iconst 2, 1) := by decide +kernel
theorem dX6_extend_41 : decode cX6_extend 41 = .ok (.invokevirtual 34, 3) := by decide +kernel
theorem dX6_extend_44 : decode cX6_extend 44 = .ok (.ifCond .eq 5, 3) := by decide +kernel
theorem dX6_extend_47 : decode cX6_extend 47 = .ok (.iconst 0, 1) := by decide +kernel
theorem dX6_extend_48 : decode cX6_extend 48 = .ok (.ireturn, 1) := by decide +kernel
theorem dX6_extend_49 : decode cX6_extend 49 = .ok (.aload_n 0, 1) := by decide +kernel
theorem dX6_extend_50 : decode cX6_extend 50 = .ok (.iload 4, 2) := by decide +kernel
theorem dX6_extend_52 : decode cX6_extend 52 = .ok (.iconst 3, 1) := by decide +kernel
theorem dX6_extend_53 : decode cX6_extend 53 = .ok (.invokevirtual 37, 3) := by decide +kernel
theorem dX6_extend_56 : decode cX6_extend 56 = .ok (.iconst 1, 1) := by decide +kernel
theorem dX6_extend_57 : decode cX6_extend 57 = .ok (.isub, 1) := by decide +kernel
theorem dX6_extend_58 : decode cX6_extend 58 = .ok (.istore 5, 2) := by decide +kernel
theorem dX6_extend_60 : decode cX6_extend 60 = .ok (.aload_n 0, 1) := by decide +kernel
theorem dX6_extend_61 : decode cX6_extend 61 = .ok (.iload 4, 2) := by decide +kernel
theorem dX6_extend_63 : decode cX6_extend 63 = .ok (.iload 5, 2) := by decide +kernel
theorem dX6_extend_65 : decode cX6_extend 65 = .ok (.iconst 0, 1) := by decide +kernel
theorem dX6_extend_66 : decode cX6_extend 66 = .ok (.invokevirtual 45, 3) := by decide +kernel
theorem dX6_extend_69 : decode cX6_extend 69 = .ok (.istore 6, 2) := by decide +kernel
theorem dX6_extend_71 : decode cX6_extend 71 = .ok (.aload_n 0, 1) := by decide +kernel
theorem dX6_extend_72 : decode cX6_extend 72 = .ok (.iload 4, 2) := by decide +kernel
theorem dX6_extend_74 : decode cX6_extend 74 = .ok (.iload 5, 2) := by decide +kernel
theorem dX6_extend_76 : decode cX6_extend 76 = .ok (.iconst 1, 1) := by decide +kernel
theorem dX6_extend_77 : decode cX6_extend 77 = .ok (.invokevirtual 45, 3) := by decide +kernel
theorem dX6_extend_80 : decode cX6_extend 80 = .ok (.istore 7, 2) := by decide +kernel
theorem dX6_extend_82 : decode cX6_extend 82 = .ok (.aload_n 0, 1) := by decide +kernel
theorem dX6_extend_83 : decode cX6_extend 83 = .ok (.iload 6, 2) := by decide +kernel
theorem dX6_extend_85 : decode cX6_extend 85 = .ok (.iload_n 2, 1) := by decide +kernel
theorem dX6_extend_86 : decode cX6_extend 86 = .ok (.iload_n 3, 1) := by decide +kernel
theorem dX6_extend_87 : decode cX6_extend 87 = .ok (.imul, 1) := by decide +kernel
theorem dX6_extend_88 : decode cX6_extend 88 = .ok (.iadd, 1) := by decide +kernel
theorem dX6_extend_89 : decode cX6_extend 89 = .ok (.bipush 28, 2) := by decide +kernel
theorem dX6_extend_91 : decode cX6_extend 91 = .ok (.if_icmp .lt 7, 3) := by decide +kernel
theorem dX6_extend_94 : decode cX6_extend 94 = .ok (.iconst 2, 1) := by decide +kernel
theorem dX6_extend_95 : decode cX6_extend 95 = .ok (.goto 22, 3) := by decide +kernel
theorem dX6_extend_98 : decode cX6_extend 98 = .ok (.aload_n 0, 1) := by decide +kernel
theorem dX6_extend_99 : decode cX6_extend 99 = .ok (.iload 4, 2) := by decide +kernel
theorem dX6_extend_101 : decode cX6_extend 101 = .ok (.iconst 3, 1) := by decide +kernel
theorem dX6_extend_102 : decode cX6_extend 102 = .ok (.invokevirtual 37, 3) := by decide +kernel
theorem dX6_extend_105 : decode cX6_extend 105 = .ok (.iload_n 3, 1) := by decide +kernel
theorem dX6_extend_106 : decode cX6_extend 106 = .ok (.iadd, 1) := by decide +kernel
theorem dX6_extend_107 : decode cX6_extend 107 = .ok (.bipush 6, 2) := by decide +kernel
theorem dX6_extend_109 : decode cX6_extend 109 = .ok (.if_icmp .le 7, 3) := by decide +kernel
theorem dX6_extend_112 : decode cX6_extend 112 = .ok (.iconst 3, 1) := by decide +kernel
theorem dX6_extend_113 : decode cX6_extend 113 = .ok (.goto 4, 3) := by decide +kernel
theorem dX6_extend_116 : decode cX6_extend 116 = .ok (.iconst 0, 1) := by decide +kernel
theorem dX6_extend_117 : decode cX6_extend 117 = .ok (.invokevirtual 34, 3) := by decide +kernel
theorem dX6_extend_120 : decode cX6_extend 120 = .ok (.ifCond .eq 5, 3) := by decide +kernel
theorem dX6_extend_123 : decode cX6_extend 123 = .ok (.iconst 0, 1) := by decide +kernel
theorem dX6_extend_124 : decode cX6_extend 124 = .ok (.ireturn, 1) := by decide +kernel
theorem dX6_extend_125 : decode cX6_extend 125 = .ok (.iconst 1, 1) := by decide +kernel
theorem dX6_extend_126 : decode cX6_extend 126 = .ok (.istore 8, 2) := by decide +kernel
theorem dX6_extend_128 : decode cX6_extend 128 = .ok (.iload 8, 2) := by decide +kernel
theorem dX6_extend_130 : decode cX6_extend 130 = .ok (.iload_n 3, 1) := by decide +kernel
theorem dX6_extend_131 : decode cX6_extend 131 = .ok (.if_icmp .gt 55, 3) := by decide +kernel
theorem dX6_extend_134 : decode cX6_extend 134 = .ok (.aload_n 0, 1) := by decide +kernel
theorem dX6_extend_135 : decode cX6_extend 135 = .ok (.aload_n 0, 1) := by decide +kernel
theorem dX6_extend_136 : decode cX6_extend 136 = .ok (.iload 4, 2) := by decide +kernel
theorem dX6_extend_138 : decode cX6_extend 138 = .ok (.invokevirtual 59, 3) := by decide +kernel
theorem dX6_extend_141 : decode cX6_extend 141 = .ok (.iload 6, 2) := by decide +kernel
theorem dX6_extend_143 : decode cX6_extend 143 = .ok (.iload_n 2, 1) := by decide +kernel
theorem dX6_extend_144 : decode cX6_extend 144 = .ok (.iload 8, 2) := by decide +kernel
theorem dX6_extend_146 : decode cX6_extend 146 = .ok (.imul, 1) := by decide +kernel
theorem dX6_extend_147 : decode cX6_extend 147 = .ok (.iadd, 1) := by decide +kernel
theorem dX6_extend_148 : decode cX6_extend 148 = .ok (.iload 7, 2) := by decide +kernel
theorem dX6_extend_150 : decode cX6_extend 150 = .ok (.aload_n 0, 1) := by decide +kernel
theorem dX6_extend_151 : decode cX6_extend 151 = .ok (.iload 4, 2) := by decide +kernel
theorem dX6_extend_153 : decode cX6_extend 153 = .ok (.iconst 2, 1) := by decide +kernel
theorem dX6_extend_154 : decode cX6_extend 154 = .ok (.invokevirtual 37, 3) := by decide +kernel
theorem dX6_extend_157 : decode cX6_extend 157 = .ok (.invokevirtual 83, 3) := by decide +kernel
theorem dX6_extend_160 : decode cX6_extend 160 = .ok (.istore 9, 2) := by decide +kernel
theorem dX6_extend_162 : decode cX6_extend 162 = .ok (.iload 9, 2) := by decide +kernel
theorem dX6_extend_164 : decode cX6_extend 164 = .ok (.ifCond .lt 16, 3) := by decide +kernel
theorem dX6_extend_167 : decode cX6_extend 167 = .ok (.aload_n 0, 1) := by decide +kernel
theorem dX6_extend_168 : decode cX6_extend 168 = .ok (.iconst 1, 1) := by decide +kernel
theorem dX6_extend_169 : decode cX6_extend 169 = .ok (.iload 9, 2) := by decide +kernel
theorem dX6_extend_171 : decode cX6_extend 171 = .ok (.iconst 4, 1) := by decide +kernel
theorem dX6_extend_172 : decode cX6_extend 172 = .ok (.invokevirtual 86, 3) := by decide +kernel
theorem dX6_extend_175 : decode cX6_extend 175 = .ok (.ifCond .eq 5, 3) := by decide +kernel
theorem dX6_extend_178 : decode cX6_extend 178 = .ok (.iconst 0, 1) := by decide +kernel
theorem dX6_extend_179 : decode cX6_extend 179 = .ok (.ireturn, 1) := by decide +kernel
theorem dX6_extend_180 : decode cX6_extend 180 = .ok (.iinc 8 1, 3) := by decide +kernel
theorem dX6_extend_183 : decode cX6_extend 183 = .ok (.goto (-55), 3) := by decide +kernel
theorem dX6_extend_186 : decode cX6_extend 186 = .ok (.iconst 1, 1) := by decide +kernel
theorem dX6_extend_187 : decode cX6_extend 187 = .ok (.istore 8, 2) := by decide +kernel
theorem dX6_extend_189 : decode cX6_extend 189 = .ok (.iload 8, 2) := by decide +kernel
theorem dX6_extend_191 : decode cX6_extend 191 = .ok (.iload_n 3, 1) := by decide +kernel
theorem dX6_extend_192 : decode cX6_extend 192 = .ok (.if_icmp .gt 68, 3) := by decide +kernel
theorem dX6_extend_195 : decode cX6_extend 195 = .ok (.aload_n 0, 1) := by decide +kernel
theorem dX6_extend_196 : decode cX6_extend 196 = .ok (.getfield 20, 3) := by decide +kernel
theorem dX6_extend_199 : decode cX6_extend 199 = .ok (.iload 8, 2) := by decide +kernel
theorem dX6_extend_201 : decode cX6_extend 201 = .ok (.aload_n 0, 1) := by decide +kernel
theorem dX6_extend_202 : decode cX6_extend 202 = .ok (.aload_n 0, 1) := by decide +kernel
theorem dX6_extend_203 : decode cX6_extend 203 = .ok (.iload 4, 2) := by decide +kernel
theorem dX6_extend_205 : decode cX6_extend 205 = .ok (.invokevirtual 59, 3) := by decide +kernel
theorem dX6_extend_208 : decode cX6_extend 208 = .ok (.iload 6, 2) := by decide +kernel
theorem dX6_extend_210 : decode cX6_extend 210 = .ok (.iload_n 2, 1) := by decide +kernel
theorem dX6_extend_211 : decode cX6_extend 211 = .ok (.iload 8, 2) := by decide +kernel
theorem dX6_extend_213 : decode cX6_extend 213 = .ok (.imul, 1) := by decide +kernel
theorem dX6_extend_214 : decode cX6_extend 214 = .ok (.iadd, 1) := by decide +kernel
theorem dX6_extend_215 : decode cX6_extend 215 = .ok (.iload 7, 2) := by decide +kernel
theorem dX6_extend_217 : decode cX6_extend 217 = .ok (.aload_n 0, 1) := by decide +kernel
theorem dX6_extend_218 : decode cX6_extend 218 = .ok (.iload 4, 2) := by decide +kernel
theorem dX6_extend_220 : decode cX6_extend 220 = .ok (.iconst 2, 1) := by decide +kernel
theorem dX6_extend_221 : decode cX6_extend 221 = .ok (.invokevirtual 37, 3) := by decide +kernel
theorem dX6_extend_224 : decode cX6_extend 224 = .ok (.invokevirtual 89, 3) := by decide +kernel
theorem dX6_extend_227 : decode cX6_extend 227 = .ok (.iastore, 1) := by decide +kernel
theorem dX6_extend_228 : decode cX6_extend 228 = .ok (.aload_n 0, 1) := by decide +kernel
theorem dX6_extend_229 : decode cX6_extend 229 = .ok (.getfield 20, 3) := by decide +kernel
theorem dX6_extend_232 : decode cX6_extend 232 = .ok (.iload 8, 2) := by decide +kernel
theorem dX6_extend_234 : decode cX6_extend 234 = .ok (.iaload, 1) := by decide +kernel
theorem dX6_extend_235 : decode cX6_extend 235 = .ok (.ifCond .ge 19, 3) := by decide +kernel
theorem dX6_extend_238 : decode cX6_extend 238 = .ok (.aload_n 0, 1) := by decide +kernel
theorem dX6_extend_239 : decode cX6_extend 239 = .ok (.iconst 2, 1) := by decide +kernel
theorem dX6_extend_240 : decode cX6_extend 240 = .ok (.iload 5, 2) := by decide +kernel
theorem dX6_extend_242 : decode cX6_extend 242 = .ok (.iload 8, 2) := by decide +kernel
theorem dX6_extend_244 : decode cX6_extend 244 = .ok (.iadd, 1) := by decide +kernel
theorem dX6_extend_245 : decode cX6_extend 245 = .ok (.iconst 4, 1) := by decide +kernel
theorem dX6_extend_246 : decode cX6_extend 246 = .ok (.invokevirtual 86, 3) := by decide +kernel
theorem dX6_extend_249 : decode cX6_extend 249 = .ok (.ifCond .eq 5, 3) := by decide +kernel
theorem dX6_extend_252 : decode cX6_extend 252 = .ok (.iconst 0, 1) := by decide +kernel
theorem dX6_extend_253 : decode cX6_extend 253 = .ok (.ireturn, 1) := by decide +kernel
theorem dX6_extend_254 : decode cX6_extend 254 = .ok (.iinc 8 1, 3) := by decide +kernel
theorem dX6_extend_257 : decode cX6_extend 257 = .ok (.goto (-68), 3) := by decide +kernel
theorem dX6_extend_260 : decode cX6_extend 260 = .ok (.iconst 1, 1) := by decide +kernel
theorem dX6_extend_261 : decode cX6_extend 261 = .ok (.istore 8, 2) := by decide +kernel
theorem dX6_extend_263 : decode cX6_extend 263 = .ok (.iload 8, 2) := by decide +kernel
theorem dX6_extend_265 : decode cX6_extend 265 = .ok (.iload_n 3, 1) := by decide +kernel
theorem dX6_extend_266 : decode cX6_extend 266 = .ok (.if_icmp .gt 36, 3) := by decide +kernel
theorem dX6_extend_269 : decode cX6_extend 269 = .ok (.aload_n 0, 1) := by decide +kernel
theorem dX6_extend_270 : decode cX6_extend 270 = .ok (.iload 4, 2) := by decide +kernel
theorem dX6_extend_272 : decode cX6_extend 272 = .ok (.iload 5, 2) := by decide +kernel
theorem dX6_extend_274 : decode cX6_extend 274 = .ok (.iload 8, 2) := by decide +kernel
theorem dX6_extend_276 : decode cX6_extend 276 = .ok (.iadd, 1) := by decide +kernel
theorem dX6_extend_277 : decode cX6_extend 277 = .ok (.iload 6, 2) := by decide +kernel
theorem dX6_extend_279 : decode cX6_extend 279 = .ok (.iload_n 2, 1) := by decide +kernel
theorem dX6_extend_280 : decode cX6_extend 280 = .ok (.iload 8, 2) := by decide +kernel
theorem dX6_extend_282 : decode cX6_extend 282 = .ok (.imul, 1) := by decide +kernel
theorem dX6_extend_283 : decode cX6_extend 283 = .ok (.iadd, 1) := by decide +kernel
theorem dX6_extend_284 : decode cX6_extend 284 = .ok (.iload 7, 2) := by decide +kernel
theorem dX6_extend_286 : decode cX6_extend 286 = .ok (.aload_n 0, 1) := by decide +kernel
theorem dX6_extend_287 : decode cX6_extend 287 = .ok (.getfield 20, 3) := by decide +kernel
theorem dX6_extend_290 : decode cX6_extend 290 = .ok (.iload 8, 2) := by decide +kernel
theorem dX6_extend_292 : decode cX6_extend 292 = .ok (.iaload, 1) := by decide +kernel
theorem dX6_extend_293 : decode cX6_extend 293 = .ok (.invokevirtual 92, 3) := by decide +kernel
theorem dX6_extend_296 : decode cX6_extend 296 = .ok (.iinc 8 1, 3) := by decide +kernel
theorem dX6_extend_299 : decode cX6_extend 299 = .ok (.goto (-36), 3) := by decide +kernel
theorem dX6_extend_302 : decode cX6_extend 302 = .ok (.aload_n 0, 1) := by decide +kernel
theorem dX6_extend_303 : decode cX6_extend 303 = .ok (.iload 4, 2) := by decide +kernel
theorem dX6_extend_305 : decode cX6_extend 305 = .ok (.iconst 3, 1) := by decide +kernel
theorem dX6_extend_306 : decode cX6_extend 306 = .ok (.iload 5, 2) := by decide +kernel
theorem dX6_extend_308 : decode cX6_extend 308 = .ok (.iconst 1, 1) := by decide +kernel
theorem dX6_extend_309 : decode cX6_extend 309 = .ok (.iadd, 1) := by decide +kernel
theorem dX6_extend_310 : decode cX6_extend 310 = .ok (.iload_n 3, 1) := by decide +kernel
theorem dX6_extend_311 : decode cX6_extend 311 = .ok (.iadd, 1) := by decide +kernel
theorem dX6_extend_312 : decode cX6_extend 312 = .ok (.invokevirtual 70, 3) := by decide +kernel
theorem dX6_extend_315 : decode cX6_extend 315 = .ok (.aload_n 0, 1) := by decide +kernel
theorem dX6_extend_316 : decode cX6_extend 316 = .ok (.iload 4, 2) := by decide +kernel
theorem dX6_extend_318 : decode cX6_extend 318 = .ok (.iconst 3, 1) := by decide +kernel
theorem dX6_extend_319 : decode cX6_extend 319 = .ok (.invokevirtual 37, 3) := by decide +kernel
theorem dX6_extend_322 : decode cX6_extend 322 = .ok (.ireturn, 1) := by decide +kernel
theorem dX6_isNone_0 : decode cX6_isNone 0 = .ok (.aload_n 0, 1) := by decide +kernel
theorem dX6_isNone_1 : decode cX6_isNone 1 = .ok (.aload_n 0, 1) := by decide +kernel
theorem dX6_isNone_2 : decode cX6_isNone 2 = .ok (.iload_n 1, 1) := by decide +kernel
theorem dX6_isNone_3 : decode cX6_isNone 3 = .ok (.invokevirtual 96, 3) := by decide +kernel
theorem dX6_isNone_6 : decode cX6_isNone 6 = .ok (.ifCond .ge 7, 3) := by decide +kernel
theorem dX6_isNone_9 : decode cX6_isNone 9 = .ok (.iconst 1, 1) := by decide +kernel
theorem dX6_isNone_10 : decode cX6_isNone 10 = .ok (.goto 4, 3) := by decide +kernel
theorem dX6_isNone_13 : decode cX6_isNone 13 = .ok (.iconst 0, 1) := by decide +kernel
theorem dX6_isNone_14 : decode cX6_isNone 14 = .ok (.invokevirtual 34, 3) := by decide +kernel
theorem dX6_isNone_17 : decode cX6_isNone 17 = .ok (.ireturn, 1) := by decide +kernel
theorem dX6_isNoDate_0 : decode cX6_isNoDate 0 = .ok (.aload_n 0, 1) := by decide +kernel
theorem dX6_isNoDate_1 : decode cX6_isNoDate 1 = .ok (.iload_n 1, 1) := by decide +kernel
theorem dX6_isNoDate_2 : decode cX6_isNoDate 2 = .ok (.invokevirtual 99, 3) := by decide +kernel
theorem dX6_isNoDate_5 : decode cX6_isNoDate 5 = .ok (.ifCond .ne 35, 3) := by decide +kernel
theorem dX6_isNoDate_8 : decode cX6_isNoDate 8 = .ok (.aload_n 0, 1) := by decide +kernel
theorem dX6_isNoDate_9 : decode cX6_isNoDate 9 = .ok (.iload_n 2, 1) := by decide +kernel
theorem dX6_isNoDate_10 : decode cX6_isNoDate 10 = .ok (.iconst 0, 1) := by decide +kernel
theorem dX6_isNoDate_11 : decode cX6_isNoDate 11 = .ok (.aload_n 0, 1) := by decide +kernel
theorem dX6_isNoDate_12 : decode cX6_isNoDate 12 = .ok (.aload_n 0, 1) := by decide +kernel
theorem dX6_isNoDate_13 : decode cX6_isNoDate 13 = .ok (.iload_n 1, 1) := by decide +kernel
theorem dX6_isNoDate_14 : decode cX6_isNoDate 14 = .ok (.invokevirtual 96, 3) := by decide +kernel
theorem dX6_isNoDate_17 : decode cX6_isNoDate 17 = .ok (.iconst 3, 1) := by decide +kernel
theorem dX6_isNoDate_18 : decode cX6_isNoDate 18 = .ok (.invokevirtual 37, 3) := by decide +kernel
theorem dX6_isNoDate_21 : decode cX6_isNoDate 21 = .ok (.iconst 1, 1) := by decide +kernel
theorem dX6_isNoDate_22 : decode cX6_isNoDate 22 = .ok (.isub, 1) := by decide +kernel
theorem dX6_isNoDate_23 : decode cX6_isNoDate 23 = .ok (.invokestatic 26, 3) := by decide +kernel
theorem dX6_isNoDate_26 : decode cX6_isNoDate 26 = .ok (.ifCond .eq 7, 3) := by decide +kernel
theorem dX6_isNoDate_29 : decode cX6_isNoDate 29 = .ok (.iconst 0, 1) := by decide +kernel
theorem dX6_isNoDate_30 : decode cX6_isNoDate 30 = .ok (.goto 4, 3) := by decide +kernel
theorem dX6_isNoDate_33 : decode cX6_isNoDate 33 = .ok (.iconst 2, 1) := by decide +kernel
theorem dX6_isNoDate_34 : decode cX6_isNoDate 34 = .ok (.invokevirtual 34, 3) := by decide +kernel
theorem dX6_isNoDate_37 : decode cX6_isNoDate 37 = .ok (.ifCond .eq 7, 3) := by decide +kernel
theorem dX6_isNoDate_40 : decode cX6_isNoDate 40 = .ok (.iconst 1, 1) := by decide +kernel
theorem dX6_isNoDate_41 : decode cX6_isNoDate 41 = .ok (.goto 4, 3) := by decide +kernel
theorem dX6_isNoDate_44 : decode cX6_isNoDate 44 = .ok (.iconst 0, 1) := by decide +kernel
theorem dX6_isNoDate_45 : decode cX6_isNoDate 45 = .ok (.ireturn, 1) := by decide +kernel
theorem dX6_remove_0 : decode cX6_remove 0 = .ok (.aload_n 0, 1) := by decide +kernel
theorem dX6_remove_1 : decode cX6_remove 1 = .ok (.iload_n 1, 1) := by decide +kernel
theorem dX6_remove_2 : decode cX6_remove 2 = .ok (.invokevirtual 99, 3) := by decide +kernel
theorem dX6_remove_5 : decode cX6_remove 5 = .ok (.ifCond .eq 5, 3) := by decide +kernel
theorem dX6_remove_8 : decode cX6_remove 8 = .ok (.iconst 0, 1) := by decide +kernel
theorem dX6_remove_9 : decode cX6_remove 9 = .ok (.ireturn, 1) := by decide +kernel
theorem dX6_remove_10 : decode cX6_remove 10 = .ok (.bipush 20, 2) := by decide +kernel
theorem dX6_remove_12 : decode cX6_remove 12 = .ok (.bipush 40, 2) := by decide +kernel
theorem dX6_remove_14 : decode cX6_remove 14 = .ok (.aload_n 0, 1) := by decide +kernel
theorem dX6_remove_15 : decode cX6_remove 15 = .ok (.iload_n 1, 1) := by decide +kernel
theorem dX6_remove_16 : decode cX6_remove 16 = .ok (.invokevirtual 96, 3) := by decide +kernel
theorem dX6_remove_19 : decode cX6_remove 19 = .ok (.imul, 1) := by decide +kernel
theorem dX6_remove_20 : decode cX6_remove 20 = .ok (.iadd, 1) := by decide +kernel
theorem dX6_remove_21 : decode cX6_remove 21 = .ok (.istore_n 2, 1) := by decide +kernel
theorem dX6_remove_22 : decode cX6_remove 22 = .ok (.aload_n 0, 1) := by decide +kernel
theorem dX6_remove_23 : decode cX6_remove 23 = .ok (.getfield 7, 3) := by decide +kernel
theorem dX6_remove_26 : decode cX6_remove 26 = .ok (.iconst 1, 1) := by decide +kernel
theorem dX6_remove_27 : decode cX6_remove 27 = .ok (.dup2, 1) := by decide +kernel
theorem dX6_remove_28 : decode cX6_remove 28 = .ok (.iaload, 1) := by decide +kernel
theorem dX6_remove_29 : decode cX6_remove 29 = .ok (.iconst 1, 1) := by decide +kernel
theorem dX6_remove_30 : decode cX6_remove 30 = .ok (.isub, 1) := by decide +kernel
theorem dX6_remove_31 : decode cX6_remove 31 = .ok (.iastore, 1) := by decide +kernel
theorem dX6_remove_32 : decode cX6_remove 32 = .ok (.iload_n 2, 1) := by decide +kernel
theorem dX6_remove_33 : decode cX6_remove 33 = .ok (.istore_n 3, 1) := by decide +kernel
theorem dX6_remove_34 : decode cX6_remove 34 = .ok (.iload_n 3, 1) := by decide +kernel
theorem dX6_remove_35 : decode cX6_remove 35 = .ok (.bipush 20, 2) := by decide +kernel
theorem dX6_remove_37 : decode cX6_remove 37 = .ok (.bipush 40, 2) := by decide +kernel
theorem dX6_remove_39 : decode cX6_remove 39 = .ok (.aload_n 0, 1) := by decide +kernel
theorem dX6_remove_40 : decode cX6_remove 40 = .ok (.getfield 7, 3) := by decide +kernel
theorem dX6_remove_43 : decode cX6_remove 43 = .ok (.iconst 1, 1) := by decide +kernel
theorem dX6_remove_44 : decode cX6_remove 44 = .ok (.iaload, 1) := by decide +kernel
theorem dX6_remove_45 : decode cX6_remove 45 = .ok (.imul, 1) := by decide +kernel
theorem dX6_remove_46 : decode cX6_remove 46 = .ok (.iadd, 1) := by decide +kernel
theorem dX6_remove_47 : decode cX6_remove 47 = .ok (.if_icmp .ge 24, 3) := by decide +kernel
theorem dX6_remove_50 : decode cX6_remove 50 = .ok (.aload_n 0, 1) := by decide +kernel
theorem dX6_remove_51 : decode cX6_remove 51 = .ok (.getfield 7, 3) := by decide +kernel
theorem dX6_remove_54 : decode cX6_remove 54 = .ok (.iload_n 3, 1) := by decide +kernel
theorem dX6_remove_55 : decode cX6_remove 55 = .ok (.aload_n 0, 1) := by decide +kernel
theorem dX6_remove_56 : decode cX6_remove 56 = .ok (.getfield 7, 3) := by decide +kernel
theorem dX6_remove_59 : decode cX6_remove 59 = .ok (.iload_n 3, 1) := by decide +kernel
theorem dX6_remove_60 : decode cX6_remove 60 = .ok (.bipush 40, 2) := by decide +kernel
theorem dX6_remove_62 : decode cX6_remove 62 = .ok (.iadd, 1) := by decide +kernel
theorem dX6_remove_63 : decode cX6_remove 63 = .ok (.iaload, 1) := by decide +kernel
theorem dX6_remove_64 : decode cX6_remove 64 = .ok (.iastore, 1) := by decide +kernel
theorem dX6_remove_65 : decode cX6_remove 65 = .ok (.iinc 3 1, 3) := by decide +kernel
theorem dX6_remove_68 : decode cX6_remove 68 = .ok (.goto (-34), 3) := by decide +kernel
theorem dX6_remove_71 : decode cX6_remove 71 = .ok (.aload_n 0, 1) := by decide +kernel
theorem dX6_remove_72 : decode cX6_remove 72 = .ok (.getfield 7, 3) := by decide +kernel
theorem dX6_remove_75 : decode cX6_remove 75 = .ok (.iconst 1, 1) := by decide +kernel
theorem dX6_remove_76 : decode cX6_remove 76 = .ok (.iaload, 1) := by decide +kernel
theorem dX6_remove_77 : decode cX6_remove 77 = .ok (.ireturn, 1) := by decide +kernel
theorem dX6_isKeptOut_0 : decode cX6_isKeptOut 0 = .ok (.iconst 0, 1) := by decide +kernel
theorem dX6_isKeptOut_1 : decode cX6_isKeptOut 1 = .ok (.istore_n 3, 1) := by decide +kernel
theorem dX6_isKeptOut_2 : decode cX6_isKeptOut 2 = .ok (.iload_n 3, 1) := by decide +kernel
theorem dX6_isKeptOut_3 : decode cX6_isKeptOut 3 = .ok (.aload_n 0, 1) := by decide +kernel
theorem dX6_isKeptOut_4 : decode cX6_isKeptOut 4 = .ok (.iload_n 1, 1) := by decide +kernel
theorem dX6_isKeptOut_5 : decode cX6_isKeptOut 5 = .ok (.iconst 3, 1) := by decide +kernel
theorem dX6_isKeptOut_6 : decode cX6_isKeptOut 6 = .ok (.invokevirtual 37, 3) := by decide +kernel
theorem dX6_isKeptOut_9 : decode cX6_isKeptOut 9 = .ok (.if_icmp .ge 51, 3) := by decide +kernel
theorem dX6_isKeptOut_12 : decode cX6_isKeptOut 12 = .ok (.aload_n 0, 1) := by decide +kernel
theorem dX6_isKeptOut_13 : decode cX6_isKeptOut 13 = .ok (.iload_n 1, 1) := by decide +kernel
theorem dX6_isKeptOut_14 : decode cX6_isKeptOut 14 = .ok (.iload_n 3, 1) := by decide +kernel
theorem dX6_isKeptOut_15 : decode cX6_isKeptOut 15 = .ok (.invokevirtual 49, 3) := by decide +kernel
theorem dX6_isKeptOut_18 : decode cX6_isKeptOut 18 = .ok (.ifCond .eq 36, 3) := by decide +kernel
theorem dX6_isKeptOut_21 : decode cX6_isKeptOut 21 = .ok (.aload_n 0, 1) := by decide +kernel
theorem dX6_isKeptOut_22 : decode cX6_isKeptOut 22 = .ok (.getfield 7, 3) := by decide +kernel
theorem dX6_isKeptOut_25 : decode cX6_isKeptOut 25 = .ok (.iconst 5, 1) := by decide +kernel
theorem dX6_isKeptOut_26 : decode cX6_isKeptOut 26 = .ok (.aload_n 0, 1) := by decide +kernel
theorem dX6_isKeptOut_27 : decode cX6_isKeptOut 27 = .ok (.iload_n 1, 1) := by decide +kernel
theorem dX6_isKeptOut_28 : decode cX6_isKeptOut 28 = .ok (.iload_n 3, 1) := by decide +kernel
theorem dX6_isKeptOut_29 : decode cX6_isKeptOut 29 = .ok (.iconst 3, 1) := by decide +kernel
theorem dX6_isKeptOut_30 : decode cX6_isKeptOut 30 = .ok (.invokevirtual 45, 3) := by decide +kernel
theorem dX6_isKeptOut_33 : decode cX6_isKeptOut 33 = .ok (.iadd, 1) := by decide +kernel
theorem dX6_isKeptOut_34 : decode cX6_isKeptOut 34 = .ok (.iaload, 1) := by decide +kernel
theorem dX6_isKeptOut_35 : decode cX6_isKeptOut 35 = .ok (.aload_n 0, 1) := by decide +kernel
theorem dX6_isKeptOut_36 : decode cX6_isKeptOut 36 = .ok (.iload_n 1, 1) := by decide +kernel
theorem dX6_isKeptOut_37 : decode cX6_isKeptOut 37 = .ok (.invokevirtual 59, 3) := by decide +kernel
theorem dX6_isKeptOut_40 : decode cX6_isKeptOut 40 = .ok (.invokestatic 63, 3) := by decide +kernel
theorem dX6_isKeptOut_43 : decode cX6_isKeptOut 43 = .ok (.if_icmp .gt 11, 3) := by decide +kernel
theorem dX6_isKeptOut_46 : decode cX6_isKeptOut 46 = .ok (.aload_n 0, 1) := by decide +kernel
theorem dX6_isKeptOut_47 : decode cX6_isKeptOut 47 = .ok (.iconst 3, 1) := by decide +kernel
theorem dX6_isKeptOut_48 : decode cX6_isKeptOut 48 = .ok (.iload_n 3, 1) := by decide +kernel
theorem dX6_isKeptOut_49 : decode cX6_isKeptOut 49 = .ok (.iconst 4, 1) := by decide +kernel
theorem dX6_isKeptOut_50 : decode cX6_isKeptOut 50 = .ok (.invokevirtual 86, 3) := by decide +kernel
theorem dX6_isKeptOut_53 : decode cX6_isKeptOut 53 = .ok (.ireturn, 1) := by decide +kernel
theorem dX6_isKeptOut_54 : decode cX6_isKeptOut 54 = .ok (.iinc 3 1, 3) := by decide +kernel
theorem dX6_isKeptOut_57 : decode cX6_isKeptOut 57 = .ok (.goto (-55), 3) := by decide +kernel
theorem dX6_isKeptOut_60 : decode cX6_isKeptOut 60 = .ok (.iconst 0, 1) := by decide +kernel
theorem dX6_isKeptOut_61 : decode cX6_isKeptOut 61 = .ok (.istore_n 3, 1) := by decide +kernel
theorem dX6_isKeptOut_62 : decode cX6_isKeptOut 62 = .ok (.iload_n 3, 1) := by decide +kernel
theorem dX6_isKeptOut_63 : decode cX6_isKeptOut 63 = .ok (.aload_n 0, 1) := by decide +kernel
theorem dX6_isKeptOut_64 : decode cX6_isKeptOut 64 = .ok (.iload_n 1, 1) := by decide +kernel
theorem dX6_isKeptOut_65 : decode cX6_isKeptOut 65 = .ok (.iconst 3, 1) := by decide +kernel
theorem dX6_isKeptOut_66 : decode cX6_isKeptOut 66 = .ok (.invokevirtual 37, 3) := by decide +kernel
theorem dX6_isKeptOut_69 : decode cX6_isKeptOut 69 = .ok (.if_icmp .ge 36, 3) := by decide +kernel
theorem dX6_isKeptOut_72 : decode cX6_isKeptOut 72 = .ok (.aload_n 0, 1) := by decide +kernel
theorem dX6_isKeptOut_73 : decode cX6_isKeptOut 73 = .ok (.iload_n 1, 1) := by decide +kernel
theorem dX6_isKeptOut_74 : decode cX6_isKeptOut 74 = .ok (.iload_n 3, 1) := by decide +kernel
theorem dX6_isKeptOut_75 : decode cX6_isKeptOut 75 = .ok (.invokevirtual 49, 3) := by decide +kernel
theorem dX6_isKeptOut_78 : decode cX6_isKeptOut 78 = .ok (.ifCond .eq 21, 3) := by decide +kernel
theorem dX6_isKeptOut_81 : decode cX6_isKeptOut 81 = .ok (.aload_n 0, 1) := by decide +kernel
theorem dX6_isKeptOut_82 : decode cX6_isKeptOut 82 = .ok (.iload_n 1, 1) := by decide +kernel
theorem dX6_isKeptOut_83 : decode cX6_isKeptOut 83 = .ok (.iload_n 3, 1) := by decide +kernel
theorem dX6_isKeptOut_84 : decode cX6_isKeptOut 84 = .ok (.iload_n 2, 1) := by decide +kernel
theorem dX6_isKeptOut_85 : decode cX6_isKeptOut 85 = .ok (.invokevirtual 102, 3) := by decide +kernel
theorem dX6_isKeptOut_88 : decode cX6_isKeptOut 88 = .ok (.ifCond .eq 11, 3) := by decide +kernel
theorem dX6_isKeptOut_91 : decode cX6_isKeptOut 91 = .ok (.aload_n 0, 1) := by decide +kernel
theorem dX6_isKeptOut_92 : decode cX6_isKeptOut 92 = .ok (.iconst 4, 1) := by decide +kernel
theorem dX6_isKeptOut_93 : decode cX6_isKeptOut 93 = .ok (.iload_n 3, 1) := by decide +kernel
theorem dX6_isKeptOut_94 : decode cX6_isKeptOut 94 = .ok (.iconst 4, 1) := by decide +kernel
theorem dX6_isKeptOut_95 : decode cX6_isKeptOut 95 = .ok (.invokevirtual 86, 3) := by decide +kernel
theorem dX6_isKeptOut_98 : decode cX6_isKeptOut 98 = .ok (.ireturn, 1) := by decide +kernel
theorem dX6_isKeptOut_99 : decode cX6_isKeptOut 99 = .ok (.iinc 3 1, 3) := by decide +kernel
theorem dX6_isKeptOut_102 : decode cX6_isKeptOut 102 = .ok (.goto (-40), 3) := by decide +kernel
theorem dX6_isKeptOut_105 : decode cX6_isKeptOut 105 = .ok (.iconst 0, 1) := by decide +kernel
theorem dX6_isKeptOut_106 : decode cX6_isKeptOut 106 = .ok (.ireturn, 1) := by decide +kernel
theorem dX6_clashes_0 : decode cX6_clashes 0 = .ok (.aload_n 0, 1) := by decide +kernel
theorem dX6_clashes_1 : decode cX6_clashes 1 = .ok (.getfield 7, 3) := by decide +kernel
theorem dX6_clashes_4 : decode cX6_clashes 4 = .ok (.bipush 9, 2) := by decide +kernel
theorem dX6_clashes_6 : decode cX6_clashes 6 = .ok (.aload_n 0, 1) := by decide +kernel
theorem dX6_clashes_7 : decode cX6_clashes 7 = .ok (.iload_n 1, 1) := by decide +kernel
theorem dX6_clashes_8 : decode cX6_clashes 8 = .ok (.iload_n 2, 1) := by decide +kernel
theorem dX6_clashes_9 : decode cX6_clashes 9 = .ok (.iconst 3, 1) := by decide +kernel
theorem dX6_clashes_10 : decode cX6_clashes 10 = .ok (.invokevirtual 45, 3) := by decide +kernel
theorem dX6_clashes_13 : decode cX6_clashes 13 = .ok (.iadd, 1) := by decide +kernel
theorem dX6_clashes_14 : decode cX6_clashes 14 = .ok (.iaload, 1) := by decide +kernel
theorem dX6_clashes_15 : decode cX6_clashes 15 = .ok (.istore 4, 2) := by decide +kernel
theorem dX6_clashes_17 : decode cX6_clashes 17 = .ok (.iconst 0, 1) := by decide +kernel
theorem dX6_clashes_18 : decode cX6_clashes 18 = .ok (.istore 5, 2) := by decide +kernel
theorem dX6_clashes_20 : decode cX6_clashes 20 = .ok (.iload 5, 2) := by decide +kernel
theorem dX6_clashes_22 : decode cX6_clashes 22 = .ok (.aload_n 0, 1) := by decide +kernel
theorem dX6_clashes_23 : decode cX6_clashes 23 = .ok (.getfield 7, 3) := by decide +kernel
theorem dX6_clashes_26 : decode cX6_clashes 26 = .ok (.iconst 1, 1) := by decide +kernel
theorem dX6_clashes_27 : decode cX6_clashes 27 = .ok (.iaload, 1) := by decide +kernel
theorem dX6_clashes_28 : decode cX6_clashes 28 = .ok (.if_icmp .ge 154, 3) := by decide +kernel
theorem dX6_clashes_31 : decode cX6_clashes 31 = .ok (.iconst 0, 1) := by decide +kernel
theorem dX6_clashes_32 : decode cX6_clashes 32 = .ok (.istore 6, 2) := by decide +kernel
theorem dX6_clashes_34 : decode cX6_clashes 34 = .ok (.iload 6, 2) := by decide +kernel
theorem dX6_clashes_36 : decode cX6_clashes 36 = .ok (.aload_n 0, 1) := by decide +kernel
theorem dX6_clashes_37 : decode cX6_clashes 37 = .ok (.iload 5, 2) := by decide +kernel
theorem dX6_clashes_39 : decode cX6_clashes 39 = .ok (.iconst 3, 1) := by decide +kernel
theorem dX6_clashes_40 : decode cX6_clashes 40 = .ok (.invokevirtual 37, 3) := by decide +kernel
theorem dX6_clashes_43 : decode cX6_clashes 43 = .ok (.if_icmp .ge 133, 3) := by decide +kernel
theorem dX6_clashes_46 : decode cX6_clashes 46 = .ok (.iload 5, 2) := by decide +kernel
theorem dX6_clashes_48 : decode cX6_clashes 48 = .ok (.iload_n 1, 1) := by decide +kernel
theorem dX6_clashes_49 : decode cX6_clashes 49 = .ok (.if_icmp .ne 9, 3) := by decide +kernel
theorem dX6_clashes_52 : decode cX6_clashes 52 = .ok (.iload 6, 2) := by decide +kernel
theorem dX6_clashes_54 : decode cX6_clashes 54 = .ok (.iload_n 2, 1) := by decide +kernel
theorem dX6_clashes_55 : decode cX6_clashes 55 = .ok (.if_icmp .eq 115, 3) := by decide +kernel
theorem dX6_clashes_58 : decode cX6_clashes 58 = .ok (.aload_n 0, 1) := by decide +kernel
theorem dX6_clashes_59 : decode cX6_clashes 59 = .ok (.iload 5, 2) := by decide +kernel
theorem dX6_clashes_61 : decode cX6_clashes 61 = .ok (.iload 6, 2) := by decide +kernel
theorem dX6_clashes_63 : decode cX6_clashes 63 = .ok (.invokevirtual 49, 3) := by decide +kernel
theorem dX6_clashes_66 : decode cX6_clashes 66 = .ok (.ifCond .eq 104, 3) := by decide +kernel
theorem dX6_clashes_69 : decode cX6_clashes 69 = .ok (.iload 5, 2) := by decide +kernel
theorem dX6_clashes_71 : decode cX6_clashes 71 = .ok (.iload_n 1, 1) := by decide +kernel
theorem dX6_clashes_72 : decode cX6_clashes 72 = .ok (.if_icmp .eq 13, 3) := by decide +kernel
theorem dX6_clashes_75 : decode cX6_clashes 75 = .ok (.aload_n 0, 1) := by decide +kernel
theorem dX6_clashes_76 : decode cX6_clashes 76 = .ok (.iload 5, 2) := by decide +kernel
theorem dX6_clashes_78 : decode cX6_clashes 78 = .ok (.iload_n 3, 1) := by decide +kernel
theorem dX6_clashes_79 : decode cX6_clashes 79 = .ok (.invokevirtual 41, 3) := by decide +kernel
theorem dX6_clashes_82 : decode cX6_clashes 82 = .ok (.ifCond .eq 88, 3) := by decide +kernel
theorem dX6_clashes_85 : decode cX6_clashes 85 = .ok (.aload_n 0, 1) := by decide +kernel
theorem dX6_clashes_86 : decode cX6_clashes 86 = .ok (.iload 5, 2) := by decide +kernel
theorem dX6_clashes_88 : decode cX6_clashes 88 = .ok (.iload 6, 2) := by decide +kernel
theorem dX6_clashes_90 : decode cX6_clashes 90 = .ok (.iconst 0, 1) := by decide +kernel
theorem dX6_clashes_91 : decode cX6_clashes 91 = .ok (.invokevirtual 45, 3) := by decide +kernel
theorem dX6_clashes_94 : decode cX6_clashes 94 = .ok (.aload_n 0, 1) := by decide +kernel
theorem dX6_clashes_95 : decode cX6_clashes 95 = .ok (.iload_n 1, 1) := by decide +kernel
theorem dX6_clashes_96 : decode cX6_clashes 96 = .ok (.iload_n 2, 1) := by decide +kernel
theorem dX6_clashes_97 : decode cX6_clashes 97 = .ok (.iconst 0, 1) := by decide +kernel
theorem dX6_clashes_98 : decode cX6_clashes 98 = .ok (.invokevirtual 45, 3) := by decide +kernel
theorem dX6_clashes_101 : decode cX6_clashes 101 = .ok (.if_icmp .eq 6, 3) := by decide +kernel
theorem dX6_clashes_104 : decode cX6_clashes 104 = .ok (.goto 66, 3) := by decide +kernel
theorem dX6_clashes_107 : decode cX6_clashes 107 = .ok (.aload_n 0, 1) := by decide +kernel
theorem dX6_clashes_108 : decode cX6_clashes 108 = .ok (.iload 5, 2) := by decide +kernel
theorem dX6_clashes_110 : decode cX6_clashes 110 = .ok (.iload 6, 2) := by decide +kernel
theorem dX6_clashes_112 : decode cX6_clashes 112 = .ok (.aload_n 0, 1) := by decide +kernel
theorem dX6_clashes_113 : decode cX6_clashes 113 = .ok (.iload_n 1, 1) := by decide +kernel
theorem dX6_clashes_114 : decode cX6_clashes 114 = .ok (.iload_n 2, 1) := by decide +kernel
theorem dX6_clashes_115 : decode cX6_clashes 115 = .ok (.iconst 1, 1) := by decide +kernel
theorem dX6_clashes_116 : decode cX6_clashes 116 = .ok (.invokevirtual 45, 3) := by decide +kernel
theorem dX6_clashes_119 : decode cX6_clashes 119 = .ok (.aload_n 0, 1) := by decide +kernel
theorem dX6_clashes_120 : decode cX6_clashes 120 = .ok (.iload_n 1, 1) := by decide +kernel
theorem dX6_clashes_121 : decode cX6_clashes 121 = .ok (.iconst 2, 1) := by decide +kernel
theorem dX6_clashes_122 : decode cX6_clashes 122 = .ok (.invokevirtual 37, 3) := by decide +kernel
theorem dX6_clashes_125 : decode cX6_clashes 125 = .ok (.invokevirtual 55, 3) := by decide +kernel
theorem dX6_clashes_128 : decode cX6_clashes 128 = .ok (.istore 7, 2) := by decide +kernel
theorem dX6_clashes_130 : decode cX6_clashes 130 = .ok (.iload 7, 2) := by decide +kernel
theorem dX6_clashes_132 : decode cX6_clashes 132 = .ok (.ifCond .lt 36, 3) := by decide +kernel
theorem dX6_clashes_135 : decode cX6_clashes 135 = .ok (.aload_n 0, 1) := by decide +kernel
theorem dX6_clashes_136 : decode cX6_clashes 136 = .ok (.getfield 7, 3) := by decide +kernel
theorem dX6_clashes_139 : decode cX6_clashes 139 = .ok (.bipush 9, 2) := by decide +kernel
theorem dX6_clashes_141 : decode cX6_clashes 141 = .ok (.aload_n 0, 1) := by decide +kernel
theorem dX6_clashes_142 : decode cX6_clashes 142 = .ok (.iload 5, 2) := by decide +kernel
theorem dX6_clashes_144 : decode cX6_clashes 144 = .ok (.iload 6, 2) := by decide +kernel
theorem dX6_clashes_146 : decode cX6_clashes 146 = .ok (.iconst 3, 1) := by decide +kernel
theorem dX6_clashes_147 : decode cX6_clashes 147 = .ok (.invokevirtual 45, 3) := by decide +kernel
theorem dX6_clashes_150 : decode cX6_clashes 150 = .ok (.iadd, 1) := by decide +kernel
theorem dX6_clashes_151 : decode cX6_clashes 151 = .ok (.iaload, 1) := by decide +kernel
theorem dX6_clashes_152 : decode cX6_clashes 152 = .ok (.iload 4, 2) := by decide +kernel
theorem dX6_clashes_154 : decode cX6_clashes 154 = .ok (.if_icmp .eq 16, 3) := by decide +kernel
theorem dX6_clashes_157 : decode cX6_clashes 157 = .ok (.iload 7, 2) := by decide +kernel
theorem dX6_clashes_159 : decode cX6_clashes 159 = .ok (.aload_n 0, 1) := by decide +kernel
theorem dX6_clashes_160 : decode cX6_clashes 160 = .ok (.getfield 7, 3) := by decide +kernel
theorem dX6_clashes_163 : decode cX6_clashes 163 = .ok (.iconst 0, 1) := by decide +kernel
theorem dX6_clashes_164 : decode cX6_clashes 164 = .ok (.iaload, 1) := by decide +kernel
theorem dX6_clashes_165 : decode cX6_clashes 165 = .ok (.if_icmp .ge 5, 3) := by decide +kernel
theorem dX6_clashes_168 : decode cX6_clashes 168 = .ok (.iconst 1, 1) := by decide +kernel
theorem dX6_clashes_169 : decode cX6_clashes 169 = .ok (.ireturn, 1) := by decide +kernel
theorem dX6_clashes_170 : decode cX6_clashes 170 = .ok (.iinc 6 1, 3) := by decide +kernel
theorem dX6_clashes_173 : decode cX6_clashes 173 = .ok (.goto (-139), 3) := by decide +kernel
theorem dX6_clashes_176 : decode cX6_clashes 176 = .ok (.iinc 5 1, 3) := by decide +kernel
theorem dX6_clashes_179 : decode cX6_clashes 179 = .ok (.goto (-159), 3) := by decide +kernel
theorem dX6_clashes_182 : decode cX6_clashes 182 = .ok (.iconst 0, 1) := by decide +kernel
theorem dX6_clashes_183 : decode cX6_clashes 183 = .ok (.ireturn, 1) := by decide +kernel
theorem dX6_answer_0 : decode cX6_answer 0 = .ok (.aload_n 0, 1) := by decide +kernel
theorem dX6_answer_1 : decode cX6_answer 1 = .ok (.iload_n 1, 1) := by decide +kernel
theorem dX6_answer_2 : decode cX6_answer 2 = .ok (.invokevirtual 96, 3) := by decide +kernel
theorem dX6_answer_5 : decode cX6_answer 5 = .ok (.istore 4, 2) := by decide +kernel
theorem dX6_answer_7 : decode cX6_answer 7 = .ok (.aload_n 0, 1) := by decide +kernel
theorem dX6_answer_8 : decode cX6_answer 8 = .ok (.iload 4, 2) := by decide +kernel
theorem dX6_answer_10 : decode cX6_answer 10 = .ok (.ifCond .ge 7, 3) := by decide +kernel
theorem dX6_answer_13 : decode cX6_answer 13 = .ok (.iconst 1, 1) := by decide +kernel
theorem dX6_answer_14 : decode cX6_answer 14 = .ok (.goto 51, 3) := by decide +kernel
theorem dX6_answer_17 : decode cX6_answer 17 = .ok (.iload_n 2, 1) := by decide +kernel
theorem dX6_answer_18 : decode cX6_answer 18 = .ok (.invokestatic 74, 3) := by decide +kernel
theorem dX6_answer_21 : decode cX6_answer 21 = .ok (.ifCond .eq 21, 3) := by decide +kernel
theorem dX6_answer_24 : decode cX6_answer 24 = .ok (.iload_n 3, 1) := by decide +kernel
theorem dX6_answer_25 : decode cX6_answer 25 = .ok (.bipush 121, 2) := by decide +kernel
theorem dX6_answer_27 : decode cX6_answer 27 = .ok (.if_icmp .eq 19, 3) := by decide +kernel
theorem dX6_answer_30 : decode cX6_answer 30 = .ok (.iload_n 3, 1) := by decide +kernel
theorem dX6_answer_31 : decode cX6_answer 31 = .ok (.bipush 110, 2) := by decide +kernel
theorem dX6_answer_33 : decode cX6_answer 33 = .ok (.if_icmp .eq 13, 3) := by decide +kernel
theorem dX6_answer_36 : decode cX6_answer 36 = .ok (.iload_n 3, 1) := by decide +kernel
theorem dX6_answer_37 : decode cX6_answer 37 = .ok (.bipush 111, 2) := by decide +kernel
theorem dX6_answer_39 : decode cX6_answer 39 = .ok (.if_icmp .eq 7, 3) := by decide +kernel
theorem dX6_answer_42 : decode cX6_answer 42 = .ok (.iconst 2, 1) := by decide +kernel
theorem dX6_answer_43 : decode cX6_answer 43 = .ok (.goto 22, 3) := by decide +kernel
theorem dX6_answer_46 : decode cX6_answer 46 = .ok (.aload_n 0, 1) := by decide +kernel
theorem dX6_answer_47 : decode cX6_answer 47 = .ok (.iload 4, 2) := by decide +kernel
theorem dX6_answer_49 : decode cX6_answer 49 = .ok (.iconst 4, 1) := by decide +kernel
theorem dX6_answer_50 : decode cX6_answer 50 = .ok (.iload_n 2, 1) := by decide +kernel
theorem dX6_answer_51 : decode cX6_answer 51 = .ok (.iadd, 1) := by decide +kernel
theorem dX6_answer_52 : decode cX6_answer 52 = .ok (.invokevirtual 37, 3) := by decide +kernel
theorem dX6_answer_55 : decode cX6_answer 55 = .ok (.bipush 45, 2) := by decide +kernel
theorem dX6_answer_57 : decode cX6_answer 57 = .ok (.if_icmp .ne 7, 3) := by decide +kernel
theorem dX6_answer_60 : decode cX6_answer 60 = .ok (.iconst 3, 1) := by decide +kernel
theorem dX6_answer_61 : decode cX6_answer 61 = .ok (.goto 4, 3) := by decide +kernel
theorem dX6_answer_64 : decode cX6_answer 64 = .ok (.iconst 0, 1) := by decide +kernel
theorem dX6_answer_65 : decode cX6_answer 65 = .ok (.invokevirtual 34, 3) := by decide +kernel
theorem dX6_answer_68 : decode cX6_answer 68 = .ok (.ifCond .eq 6, 3) := by decide +kernel
theorem dX6_answer_71 : decode cX6_answer 71 = .ok (.bipush 32, 2) := by decide +kernel
theorem dX6_answer_73 : decode cX6_answer 73 = .ok (.ireturn, 1) := by decide +kernel
theorem dX6_answer_74 : decode cX6_answer 74 = .ok (.aload_n 0, 1) := by decide +kernel
theorem dX6_answer_75 : decode cX6_answer 75 = .ok (.iload 4, 2) := by decide +kernel
theorem dX6_answer_77 : decode cX6_answer 77 = .ok (.iconst 4, 1) := by decide +kernel
theorem dX6_answer_78 : decode cX6_answer 78 = .ok (.iload_n 2, 1) := by decide +kernel
theorem dX6_answer_79 : decode cX6_answer 79 = .ok (.iadd, 1) := by decide +kernel
theorem dX6_answer_80 : decode cX6_answer 80 = .ok (.invokevirtual 37, 3) := by decide +kernel
theorem dX6_answer_83 : decode cX6_answer 83 = .ok (.istore 5, 2) := by decide +kernel
theorem dX6_answer_85 : decode cX6_answer 85 = .ok (.iload 5, 2) := by decide +kernel
theorem dX6_answer_87 : decode cX6_answer 87 = .ok (.bipush 110, 2) := by decide +kernel
theorem dX6_answer_89 : decode cX6_answer 89 = .ok (.if_icmp .ne 22, 3) := by decide +kernel
theorem dX6_answer_92 : decode cX6_answer 92 = .ok (.iload_n 3, 1) := by decide +kernel
theorem dX6_answer_93 : decode cX6_answer 93 = .ok (.bipush 110, 2) := by decide +kernel
theorem dX6_answer_95 : decode cX6_answer 95 = .ok (.if_icmp .eq 16, 3) := by decide +kernel
theorem dX6_answer_98 : decode cX6_answer 98 = .ok (.aload_n 0, 1) := by decide +kernel
theorem dX6_answer_99 : decode cX6_answer 99 = .ok (.iload 4, 2) := by decide +kernel
theorem dX6_answer_101 : decode cX6_answer 101 = .ok (.iload_n 2, 1) := by decide +kernel
theorem dX6_answer_102 : decode cX6_answer 102 = .ok (.invokevirtual 105, 3) := by decide +kernel
theorem dX6_answer_105 : decode cX6_answer 105 = .ok (.ifCond .eq 6, 3) := by decide +kernel
theorem dX6_answer_108 : decode cX6_answer 108 = .ok (.bipush 32, 2) := by decide +kernel
theorem dX6_answer_110 : decode cX6_answer 110 = .ok (.ireturn, 1) := by decide +kernel
theorem dX6_answer_111 : decode cX6_answer 111 = .ok (.aload_n 0, 1) := by decide +kernel
theorem dX6_answer_112 : decode cX6_answer 112 = .ok (.iload 4, 2) := by decide +kernel
theorem dX6_answer_114 : decode cX6_answer 114 = .ok (.iconst 4, 1) := by decide +kernel
theorem dX6_answer_115 : decode cX6_answer 115 = .ok (.iload_n 2, 1) := by decide +kernel
theorem dX6_answer_116 : decode cX6_answer 116 = .ok (.iadd, 1) := by decide +kernel
theorem dX6_answer_117 : decode cX6_answer 117 = .ok (.iload_n 3, 1) := by decide +kernel
theorem dX6_answer_118 : decode cX6_answer 118 = .ok (.invokevirtual 70, 3) := by decide +kernel
theorem dX6_answer_121 : decode cX6_answer 121 = .ok (.iload 5, 2) := by decide +kernel
theorem dX6_answer_123 : decode cX6_answer 123 = .ok (.i2c, 1) := by decide +kernel
theorem dX6_answer_124 : decode cX6_answer 124 = .ok (.ireturn, 1) := by decide +kernel
theorem dX6_cancel_0 : decode cX6_cancel 0 = .ok (.aload_n 0, 1) := by decide +kernel
theorem dX6_cancel_1 : decode cX6_cancel 1 = .ok (.iload_n 1, 1) := by decide +kernel
theorem dX6_cancel_2 : decode cX6_cancel 2 = .ok (.iload_n 2, 1) := by decide +kernel
theorem dX6_cancel_3 : decode cX6_cancel 3 = .ok (.invokevirtual 108, 3) := by decide +kernel
theorem dX6_cancel_6 : decode cX6_cancel 6 = .ok (.ifCond .ne 28, 3) := by decide +kernel
theorem dX6_cancel_9 : decode cX6_cancel 9 = .ok (.aload_n 0, 1) := by decide +kernel
theorem dX6_cancel_10 : decode cX6_cancel 10 = .ok (.aload_n 0, 1) := by decide +kernel
theorem dX6_cancel_11 : decode cX6_cancel 11 = .ok (.aload_n 0, 1) := by decide +kernel
theorem dX6_cancel_12 : decode cX6_cancel 12 = .ok (.iload_n 1, 1) := by decide +kernel
theorem dX6_cancel_13 : decode cX6_cancel 13 = .ok (.invokevirtual 96, 3) := by decide +kernel
theorem dX6_cancel_16 : decode cX6_cancel 16 = .ok (.iload_n 2, 1) := by decide +kernel
theorem dX6_cancel_17 : decode cX6_cancel 17 = .ok (.invokevirtual 49, 3) := by decide +kernel
theorem dX6_cancel_20 : decode cX6_cancel 20 = .ok (.ifCond .eq 7, 3) := by decide +kernel
theorem dX6_cancel_23 : decode cX6_cancel 23 = .ok (.iconst 0, 1) := by decide +kernel
theorem dX6_cancel_24 : decode cX6_cancel 24 = .ok (.goto 4, 3) := by decide +kernel
theorem dX6_cancel_27 : decode cX6_cancel 27 = .ok (.iconst 3, 1) := by decide +kernel
theorem dX6_cancel_28 : decode cX6_cancel 28 = .ok (.invokevirtual 34, 3) := by decide +kernel
theorem dX6_cancel_31 : decode cX6_cancel 31 = .ok (.ifCond .eq 5, 3) := by decide +kernel
theorem dX6_cancel_34 : decode cX6_cancel 34 = .ok (.iconst 0, 1) := by decide +kernel
theorem dX6_cancel_35 : decode cX6_cancel 35 = .ok (.ireturn, 1) := by decide +kernel
theorem dX6_cancel_36 : decode cX6_cancel 36 = .ok (.aload_n 0, 1) := by decide +kernel
theorem dX6_cancel_37 : decode cX6_cancel 37 = .ok (.iload_n 1, 1) := by decide +kernel
theorem dX6_cancel_38 : decode cX6_cancel 38 = .ok (.invokevirtual 96, 3) := by decide +kernel
theorem dX6_cancel_41 : decode cX6_cancel 41 = .ok (.istore_n 3, 1) := by decide +kernel
theorem dX6_cancel_42 : decode cX6_cancel 42 = .ok (.aload_n 0, 1) := by decide +kernel
theorem dX6_cancel_43 : decode cX6_cancel 43 = .ok (.iload_n 3, 1) := by decide +kernel
theorem dX6_cancel_44 : decode cX6_cancel 44 = .ok (.bipush 10, 2) := by decide +kernel
theorem dX6_cancel_46 : decode cX6_cancel 46 = .ok (.iconst 4, 1) := by decide +kernel
theorem dX6_cancel_47 : decode cX6_cancel 47 = .ok (.iload_n 2, 1) := by decide +kernel
theorem dX6_cancel_48 : decode cX6_cancel 48 = .ok (.imul, 1) := by decide +kernel
theorem dX6_cancel_49 : decode cX6_cancel 49 = .ok (.iadd, 1) := by decide +kernel
theorem dX6_cancel_50 : decode cX6_cancel 50 = .ok (.iconst 2, 1) := by decide +kernel
theorem dX6_cancel_51 : decode cX6_cancel 51 = .ok (.iadd, 1) := by decide +kernel
theorem dX6_cancel_52 : decode cX6_cancel 52 = .ok (.iconst 1, 1) := by decide +kernel
theorem dX6_cancel_53 : decode cX6_cancel 53 = .ok (.invokevirtual 70, 3) := by decide +kernel
theorem dX6_cancel_56 : decode cX6_cancel 56 = .ok (.iconst 0, 1) := by decide +kernel
theorem dX6_cancel_57 : decode cX6_cancel 57 = .ok (.istore 4, 2) := by decide +kernel
theorem dX6_cancel_59 : decode cX6_cancel 59 = .ok (.iconst 0, 1) := by decide +kernel
theorem dX6_cancel_60 : decode cX6_cancel 60 = .ok (.istore 5, 2) := by decide +kernel
theorem dX6_cancel_62 : decode cX6_cancel 62 = .ok (.iload 5, 2) := by decide +kernel
theorem dX6_cancel_64 : decode cX6_cancel 64 = .ok (.aload_n 0, 1) := by decide +kernel
theorem dX6_cancel_65 : decode cX6_cancel 65 = .ok (.iload_n 3, 1) := by decide +kernel
theorem dX6_cancel_66 : decode cX6_cancel 66 = .ok (.iconst 3, 1) := by decide +kernel
theorem dX6_cancel_67 : decode cX6_cancel 67 = .ok (.invokevirtual 37, 3) := by decide +kernel
theorem dX6_cancel_70 : decode cX6_cancel 70 = .ok (.if_icmp .ge 29, 3) := by decide +kernel
theorem dX6_cancel_73 : decode cX6_cancel 73 = .ok (.iload 4, 2) := by decide +kernel
theorem dX6_cancel_75 : decode cX6_cancel 75 = .ok (.aload_n 0, 1) := by decide +kernel
theorem dX6_cancel_76 : decode cX6_cancel 76 = .ok (.iload_n 3, 1) := by decide +kernel
theorem dX6_cancel_77 : decode cX6_cancel 77 = .ok (.iload 5, 2) := by decide +kernel
theorem dX6_cancel_79 : decode cX6_cancel 79 = .ok (.invokevirtual 49, 3) := by decide +kernel
theorem dX6_cancel_82 : decode cX6_cancel 82 = .ok (.ifCond .eq 7, 3) := by decide +kernel
theorem dX6_cancel_85 : decode cX6_cancel 85 = .ok (.iconst 1, 1) := by decide +kernel
theorem dX6_cancel_86 : decode cX6_cancel 86 = .ok (.goto 4, 3) := by decide +kernel
theorem dX6_cancel_89 : decode cX6_cancel 89 = .ok (.iconst 0, 1) := by decide +kernel
theorem dX6_cancel_90 : decode cX6_cancel 90 = .ok (.iadd, 1) := by decide +kernel
theorem dX6_cancel_91 : decode cX6_cancel 91 = .ok (.istore 4, 2) := by decide +kernel
theorem dX6_cancel_93 : decode cX6_cancel 93 = .ok (.iinc 5 1, 3) := by decide +kernel
theorem dX6_cancel_96 : decode cX6_cancel 96 = .ok (.goto (-34), 3) := by decide +kernel
theorem dX6_cancel_99 : decode cX6_cancel 99 = .ok (.iload 4, 2) := by decide +kernel
theorem dX6_cancel_101 : decode cX6_cancel 101 = .ok (.ireturn, 1) := by decide +kernel
theorem dX6_move_0 : decode cX6_move 0 = .ok (.aload_n 0, 1) := by decide +kernel
theorem dX6_move_1 : decode cX6_move 1 = .ok (.iload_n 1, 1) := by decide +kernel
theorem dX6_move_2 : decode cX6_move 2 = .ok (.iload_n 2, 1) := by decide +kernel
theorem dX6_move_3 : decode cX6_move 3 = .ok (.invokevirtual 108, 3) := by decide +kernel
theorem dX6_move_6 : decode cX6_move 6 = .ok (.ifCond .eq 5, 3) := by decide +kernel
theorem dX6_move_9 : decode cX6_move 9 = .ok (.iconst 0, 1) := by decide +kernel
theorem dX6_move_10 : decode cX6_move 10 = .ok (.ireturn, 1) := by decide +kernel
theorem dX6_move_11 : decode cX6_move 11 = .ok (.aload_n 0, 1) := by decide +kernel
theorem dX6_move_12 : decode cX6_move 12 = .ok (.iload_n 1, 1) := by decide +kernel
theorem dX6_move_13 : decode cX6_move 13 = .ok (.invokevirtual 96, 3) := by decide +kernel
theorem dX6_move_16 : decode cX6_move 16 = .ok (.istore 5, 2) := by decide +kernel
theorem dX6_move_18 : decode cX6_move 18 = .ok (.aload_n 0, 1) := by decide +kernel
theorem dX6_move_19 : decode cX6_move 19 = .ok (.iload_n 3, 1) := by decide +kernel
theorem dX6_move_20 : decode cX6_move 20 = .ok (.invokestatic 77, 3) := by decide +kernel
theorem dX6_move_23 : decode cX6_move 23 = .ok (.ifCond .eq 30, 3) := by decide +kernel
theorem dX6_move_26 : decode cX6_move 26 = .ok (.iload 4, 2) := by decide +kernel
theorem dX6_move_28 : decode cX6_move 28 = .ok (.invokestatic 80, 3) := by decide +kernel
theorem dX6_move_31 : decode cX6_move 31 = .ok (.ifCond .eq 22, 3) := by decide +kernel
theorem dX6_move_34 : decode cX6_move 34 = .ok (.iload 4, 2) := by decide +kernel
theorem dX6_move_36 : decode cX6_move 36 = .ok (.aload_n 0, 1) := by decide +kernel
theorem dX6_move_37 : decode cX6_move 37 = .ok (.iload 5, 2) := by decide +kernel
theorem dX6_move_39 : decode cX6_move 39 = .ok (.iconst 2, 1) := by decide +kernel
theorem dX6_move_40 : decode cX6_move 40 = .ok (.invokevirtual 37, 3) := by decide +kernel
theorem dX6_move_43 : decode cX6_move 43 = .ok (.iadd, 1) := by decide +kernel
theorem dX6_move_44 : decode cX6_move 44 = .ok (.bipush 16, 2) := by decide +kernel
theorem dX6_move_46 : decode cX6_move 46 = .ok (.if_icmp .gt 7, 3) := by decide +kernel
theorem dX6_move_49 : decode cX6_move 49 = .ok (.iconst 0, 1) := by decide +kernel
theorem dX6_move_50 : decode cX6_move 50 = .ok (.goto 4, 3) := by decide +kernel
theorem dX6_move_53 : decode cX6_move 53 = .ok (.iconst 3, 1) := by decide +kernel
theorem dX6_move_54 : decode cX6_move 54 = .ok (.invokevirtual 34, 3) := by decide +kernel
theorem dX6_move_57 : decode cX6_move 57 = .ok (.ifCond .eq 5, 3) := by decide +kernel
theorem dX6_move_60 : decode cX6_move 60 = .ok (.iconst 0, 1) := by decide +kernel
theorem dX6_move_61 : decode cX6_move 61 = .ok (.ireturn, 1) := by decide +kernel
theorem dX6_move_62 : decode cX6_move 62 = .ok (.aload_n 0, 1) := by decide +kernel
theorem dX6_move_63 : decode cX6_move 63 = .ok (.iload 5, 2) := by decide +kernel
theorem dX6_move_65 : decode cX6_move 65 = .ok (.putfield 13, 3) := by decide +kernel
theorem dX6_move_68 : decode cX6_move 68 = .ok (.aload_n 0, 1) := by decide +kernel
theorem dX6_move_69 : decode cX6_move 69 = .ok (.iload_n 2, 1) := by decide +kernel
theorem dX6_move_70 : decode cX6_move 70 = .ok (.putfield 17, 3) := by decide +kernel
theorem dX6_move_73 : decode cX6_move 73 = .ok (.aload_n 0, 1) := by decide +kernel
theorem dX6_move_74 : decode cX6_move 74 = .ok (.aload_n 0, 1) := by decide +kernel
theorem dX6_move_75 : decode cX6_move 75 = .ok (.iload 5, 2) := by decide +kernel
theorem dX6_move_77 : decode cX6_move 77 = .ok (.invokevirtual 59, 3) := by decide +kernel
theorem dX6_move_80 : decode cX6_move 80 = .ok (.iload_n 3, 1) := by decide +kernel
theorem dX6_move_81 : decode cX6_move 81 = .ok (.iload 4, 2) := by decide +kernel
theorem dX6_move_83 : decode cX6_move 83 = .ok (.aload_n 0, 1) := by decide +kernel
theorem dX6_move_84 : decode cX6_move 84 = .ok (.iload 5, 2) := by decide +kernel
theorem dX6_move_86 : decode cX6_move 86 = .ok (.iconst 2, 1) := by decide +kernel
theorem dX6_move_87 : decode cX6_move 87 = .ok (.invokevirtual 37, 3) := by decide +kernel
theorem dX6_move_90 : decode cX6_move 90 = .ok (.invokevirtual 83, 3) := by decide +kernel
theorem dX6_move_93 : decode cX6_move 93 = .ok (.istore 6, 2) := by decide +kernel
theorem dX6_move_95 : decode cX6_move 95 = .ok (.aload_n 0, 1) := by decide +kernel
theorem dX6_move_96 : decode cX6_move 96 = .ok (.aload_n 0, 1) := by decide +kernel
theorem dX6_move_97 : decode cX6_move 97 = .ok (.iload 5, 2) := by decide +kernel
theorem dX6_move_99 : decode cX6_move 99 = .ok (.invokevirtual 59, 3) := by decide +kernel
theorem dX6_move_102 : decode cX6_move 102 = .ok (.iload_n 3, 1) := by decide +kernel
theorem dX6_move_103 : decode cX6_move 103 = .ok (.iload 4, 2) := by decide +kernel
theorem dX6_move_105 : decode cX6_move 105 = .ok (.aload_n 0, 1) := by decide +kernel
theorem dX6_move_106 : decode cX6_move 106 = .ok (.iload 5, 2) := by decide +kernel
theorem dX6_move_108 : decode cX6_move 108 = .ok (.iconst 2, 1) := by decide +kernel
theorem dX6_move_109 : decode cX6_move 109 = .ok (.invokevirtual 37, 3) := by decide +kernel
theorem dX6_move_112 : decode cX6_move 112 = .ok (.invokevirtual 89, 3) := by decide +kernel
theorem dX6_move_115 : decode cX6_move 115 = .ok (.istore 7, 2) := by decide +kernel
theorem dX6_move_117 : decode cX6_move 117 = .ok (.aload_n 0, 1) := by decide +kernel
theorem dX6_move_118 : decode cX6_move 118 = .ok (.iconst (-1), 1) := by decide +kernel
theorem dX6_move_119 : decode cX6_move 119 = .ok (.putfield 13, 3) := by decide +kernel
theorem dX6_move_122 : decode cX6_move 122 = .ok (.aload_n 0, 1) := by decide +kernel
theorem dX6_move_123 : decode cX6_move 123 = .ok (.iconst (-1), 1) := by decide +kernel
theorem dX6_move_124 : decode cX6_move 124 = .ok (.putfield 17, 3) := by decide +kernel
theorem dX6_move_127 : decode cX6_move 127 = .ok (.iload 6, 2) := by decide +kernel
theorem dX6_move_129 : decode cX6_move 129 = .ok (.ifCond .lt 14, 3) := by decide +kernel
theorem dX6_move_132 : decode cX6_move 132 = .ok (.aload_n 0, 1) := by decide +kernel
theorem dX6_move_133 : decode cX6_move 133 = .ok (.iconst 1, 1) := by decide +kernel
theorem dX6_move_134 : decode cX6_move 134 = .ok (.iload 6, 2) := by decide +kernel
theorem dX6_move_136 : decode cX6_move 136 = .ok (.iconst 4, 1) := by decide +kernel
theorem dX6_move_137 : decode cX6_move 137 = .ok (.invokevirtual 86, 3) := by decide +kernel
theorem dX6_move_140 : decode cX6_move 140 = .ok (.ifCond .ne 18, 3) := by decide +kernel
theorem dX6_move_143 : decode cX6_move 143 = .ok (.iload 7, 2) := by decide +kernel
theorem dX6_move_145 : decode cX6_move 145 = .ok (.ifCond .ge 15, 3) := by decide +kernel
theorem dX6_move_148 : decode cX6_move 148 = .ok (.aload_n 0, 1) := by decide +kernel
theorem dX6_move_149 : decode cX6_move 149 = .ok (.iconst 2, 1) := by decide +kernel
theorem dX6_move_150 : decode cX6_move 150 = .ok (.iload_n 2, 1) := by decide +kernel
theorem dX6_move_151 : decode cX6_move 151 = .ok (.iconst 4, 1) := by decide +kernel
theorem dX6_move_152 : decode cX6_move 152 = .ok (.invokevirtual 86, 3) := by decide +kernel
theorem dX6_move_155 : decode cX6_move 155 = .ok (.ifCond .eq 5, 3) := by decide +kernel
theorem dX6_move_158 : decode cX6_move 158 = .ok (.iconst 0, 1) := by decide +kernel
theorem dX6_move_159 : decode cX6_move 159 = .ok (.ireturn, 1) := by decide +kernel
theorem dX6_move_160 : decode cX6_move 160 = .ok (.aload_n 0, 1) := by decide +kernel
theorem dX6_move_161 : decode cX6_move 161 = .ok (.iload 5, 2) := by decide +kernel
theorem dX6_move_163 : decode cX6_move 163 = .ok (.iload_n 2, 1) := by decide +kernel
theorem dX6_move_164 : decode cX6_move 164 = .ok (.iload_n 3, 1) := by decide +kernel
theorem dX6_move_165 : decode cX6_move 165 = .ok (.iload 4, 2) := by decide +kernel
theorem dX6_move_167 : decode cX6_move 167 = .ok (.iload 7, 2) := by decide +kernel
theorem dX6_move_169 : decode cX6_move 169 = .ok (.invokevirtual 92, 3) := by decide +kernel
theorem dX6_move_172 : decode cX6_move 172 = .ok (.iload 7, 2) := by decide +kernel
theorem dX6_move_174 : decode cX6_move 174 = .ok (.ireturn, 1) := by decide +kernel
theorem dX6_meetingCount_0 : decode cX6_meetingCount 0 = .ok (.aload_n 0, 1) := by decide +kernel
theorem dX6_meetingCount_1 : decode cX6_meetingCount 1 = .ok (.iconst 0, 1) := by decide +kernel
theorem dX6_meetingCount_2 : decode cX6_meetingCount 2 = .ok (.putfield 23, 3) := by decide +kernel
theorem dX6_meetingCount_5 : decode cX6_meetingCount 5 = .ok (.aload_n 0, 1) := by decide +kernel
theorem dX6_meetingCount_6 : decode cX6_meetingCount 6 = .ok (.getfield 7, 3) := by decide +kernel
theorem dX6_meetingCount_9 : decode cX6_meetingCount 9 = .ok (.iconst 1, 1) := by decide +kernel
theorem dX6_meetingCount_10 : decode cX6_meetingCount 10 = .ok (.iaload, 1) := by decide +kernel
theorem dX6_meetingCount_11 : decode cX6_meetingCount 11 = .ok (.ireturn, 1) := by decide +kernel
theorem dX6_meetingAt_0 : decode cX6_meetingAt 0 = .ok (.aload_n 0, 1) := by decide +kernel
theorem dX6_meetingAt_1 : decode cX6_meetingAt 1 = .ok (.iload_n 1, 1) := by decide +kernel
theorem dX6_meetingAt_2 : decode cX6_meetingAt 2 = .ok (.iconst 0, 1) := by decide +kernel
theorem dX6_meetingAt_3 : decode cX6_meetingAt 3 = .ok (.aload_n 0, 1) := by decide +kernel
theorem dX6_meetingAt_4 : decode cX6_meetingAt 4 = .ok (.getfield 7, 3) := by decide +kernel
theorem dX6_meetingAt_7 : decode cX6_meetingAt 7 = .ok (.iconst 1, 1) := by decide +kernel
theorem dX6_meetingAt_8 : decode cX6_meetingAt 8 = .ok (.iaload, 1) := by decide +kernel
theorem dX6_meetingAt_9 : decode cX6_meetingAt 9 = .ok (.iconst 1, 1) := by decide +kernel
theorem dX6_meetingAt_10 : decode cX6_meetingAt 10 = .ok (.isub, 1) := by decide +kernel
theorem dX6_meetingAt_11 : decode cX6_meetingAt 11 = .ok (.invokestatic 26, 3) := by decide +kernel
theorem dX6_meetingAt_14 : decode cX6_meetingAt 14 = .ok (.ifCond .eq 7, 3) := by decide +kernel
theorem dX6_meetingAt_17 : decode cX6_meetingAt 17 = .ok (.iconst 0, 1) := by decide +kernel
theorem dX6_meetingAt_18 : decode cX6_meetingAt 18 = .ok (.goto 4, 3) := by decide +kernel
theorem dX6_meetingAt_21 : decode cX6_meetingAt 21 = .ok (.iconst 1, 1) := by decide +kernel
theorem dX6_meetingAt_22 : decode cX6_meetingAt 22 = .ok (.invokevirtual 34, 3) := by decide +kernel
theorem dX6_meetingAt_25 : decode cX6_meetingAt 25 = .ok (.ifCond .eq 7, 3) := by decide +kernel
theorem dX6_meetingAt_28 : decode cX6_meetingAt 28 = .ok (.iconst 0, 1) := by decide +kernel
theorem dX6_meetingAt_29 : decode cX6_meetingAt 29 = .ok (.goto 9, 3) := by decide +kernel
theorem dX6_meetingAt_32 : decode cX6_meetingAt 32 = .ok (.aload_n 0, 1) := by decide +kernel
theorem dX6_meetingAt_33 : decode cX6_meetingAt 33 = .ok (.iload_n 1, 1) := by decide +kernel
theorem dX6_meetingAt_34 : decode cX6_meetingAt 34 = .ok (.iconst 0, 1) := by decide +kernel
theorem dX6_meetingAt_35 : decode cX6_meetingAt 35 = .ok (.invokevirtual 37, 3) := by decide +kernel
theorem dX6_meetingAt_38 : decode cX6_meetingAt 38 = .ok (.ireturn, 1) := by decide +kernel
theorem dX6_hostOf_0 : decode cX6_hostOf 0 = .ok (.aload_n 0, 1) := by decide +kernel
theorem dX6_hostOf_1 : decode cX6_hostOf 1 = .ok (.iload_n 1, 1) := by decide +kernel
theorem dX6_hostOf_2 : decode cX6_hostOf 2 = .ok (.invokevirtual 99, 3) := by decide +kernel
theorem dX6_hostOf_5 : decode cX6_hostOf 5 = .ok (.ifCond .eq 7, 3) := by decide +kernel
theorem dX6_hostOf_8 : decode cX6_hostOf 8 = .ok (.iconst 0, 1) := by decide +kernel
theorem dX6_hostOf_9 : decode cX6_hostOf 9 = .ok (.goto 13, 3) := by decide +kernel
theorem dX6_hostOf_12 : decode cX6_hostOf 12 = .ok (.aload_n 0, 1) := by decide +kernel
theorem dX6_hostOf_13 : decode cX6_hostOf 13 = .ok (.aload_n 0, 1) := by decide +kernel
theorem dX6_hostOf_14 : decode cX6_hostOf 14 = .ok (.iload_n 1, 1) := by decide +kernel
theorem dX6_hostOf_15 : decode cX6_hostOf 15 = .ok (.invokevirtual 96, 3) := by decide +kernel
theorem dX6_hostOf_18 : decode cX6_hostOf 18 = .ok (.iconst 1, 1) := by decide +kernel
theorem dX6_hostOf_19 : decode cX6_hostOf 19 = .ok (.invokevirtual 37, 3) := by decide +kernel
theorem dX6_hostOf_22 : decode cX6_hostOf 22 = .ok (.ireturn, 1) := by decide +kernel
theorem dX6_answerOf_0 : decode cX6_answerOf 0 = .ok (.aload_n 0, 1) := by decide +kernel
theorem dX6_answerOf_1 : decode cX6_answerOf 1 = .ok (.iload_n 1, 1) := by decide +kernel
theorem dX6_answerOf_2 : decode cX6_answerOf 2 = .ok (.invokevirtual 99, 3) := by decide +kernel
theorem dX6_answerOf_5 : decode cX6_answerOf 5 = .ok (.ifCond .ne 22, 3) := by decide +kernel
theorem dX6_answerOf_8 : decode cX6_answerOf 8 = .ok (.aload_n 0, 1) := by decide +kernel
theorem dX6_answerOf_9 : decode cX6_answerOf 9 = .ok (.iload_n 2, 1) := by decide +kernel
theorem dX6_answerOf_10 : decode cX6_answerOf 10 = .ok (.invokestatic 74, 3) := by decide +kernel
theorem dX6_answerOf_13 : decode cX6_answerOf 13 = .ok (.ifCond .eq 7, 3) := by decide +kernel
theorem dX6_answerOf_16 : decode cX6_answerOf 16 = .ok (.iconst 0, 1) := by decide +kernel
theorem dX6_answerOf_17 : decode cX6_answerOf 17 = .ok (.goto 4, 3) := by decide +kernel
theorem dX6_answerOf_20 : decode cX6_answerOf 20 = .ok (.iconst 2, 1) := by decide +kernel
theorem dX6_answerOf_21 : decode cX6_answerOf 21 = .ok (.invokevirtual 34, 3) := by decide +kernel
theorem dX6_answerOf_24 : decode cX6_answerOf 24 = .ok (.ifCond .eq 6, 3) := by decide +kernel
theorem dX6_answerOf_27 : decode cX6_answerOf 27 = .ok (.bipush 32, 2) := by decide +kernel
theorem dX6_answerOf_29 : decode cX6_answerOf 29 = .ok (.ireturn, 1) := by decide +kernel
theorem dX6_answerOf_30 : decode cX6_answerOf 30 = .ok (.iload_n 2, 1) := by decide +kernel
theorem dX6_answerOf_31 : decode cX6_answerOf 31 = .ok (.aload_n 0, 1) := by decide +kernel
theorem dX6_answerOf_32 : decode cX6_answerOf 32 = .ok (.iload_n 1, 1) := by decide +kernel
theorem dX6_answerOf_33 : decode cX6_answerOf 33 = .ok (.invokevirtual 111, 3) := by decide +kernel
theorem dX6_answerOf_36 : decode cX6_answerOf 36 = .ok (.if_icmp .ne 8, 3) := by decide +kernel
theorem dX6_answerOf_39 : decode cX6_answerOf 39 = .ok (.bipush 104, 2) := by decide +kernel
theorem dX6_answerOf_41 : decode cX6_answerOf 41 = .ok (.goto 16, 3) := by decide +kernel
theorem dX6_answerOf_44 : decode cX6_answerOf 44 = .ok (.aload_n 0, 1) := by decide +kernel
theorem dX6_answerOf_45 : decode cX6_answerOf 45 = .ok (.aload_n 0, 1) := by decide +kernel
theorem dX6_answerOf_46 : decode cX6_answerOf 46 = .ok (.iload_n 1, 1) := by decide +kernel
theorem dX6_answerOf_47 : decode cX6_answerOf 47 = .ok (.invokevirtual 96, 3) := by decide +kernel
theorem dX6_answerOf_50 : decode cX6_answerOf 50 = .ok (.iconst 4, 1) := by decide +kernel
theorem dX6_answerOf_51 : decode cX6_answerOf 51 = .ok (.iload_n 2, 1) := by decide +kernel
theorem dX6_answerOf_52 : decode cX6_answerOf 52 = .ok (.iadd, 1) := by decide +kernel
theorem dX6_answerOf_53 : decode cX6_answerOf 53 = .ok (.invokevirtual 37, 3) := by decide +kernel
theorem dX6_answerOf_56 : decode cX6_answerOf 56 = .ok (.i2c, 1) := by decide +kernel
theorem dX6_answerOf_57 : decode cX6_answerOf 57 = .ok (.ireturn, 1) := by decide +kernel
theorem dX6_expected_0 : decode cX6_expected 0 = .ok (.aload_n 0, 1) := by decide +kernel
theorem dX6_expected_1 : decode cX6_expected 1 = .ok (.iload_n 1, 1) := by decide +kernel
theorem dX6_expected_2 : decode cX6_expected 2 = .ok (.invokevirtual 99, 3) := by decide +kernel
theorem dX6_expected_5 : decode cX6_expected 5 = .ok (.ifCond .eq 7, 3) := by decide +kernel
theorem dX6_expected_8 : decode cX6_expected 8 = .ok (.iconst 0, 1) := by decide +kernel
theorem dX6_expected_9 : decode cX6_expected 9 = .ok (.goto 15, 3) := by decide +kernel
theorem dX6_expected_12 : decode cX6_expected 12 = .ok (.aload_n 0, 1) := by decide +kernel
theorem dX6_expected_13 : decode cX6_expected 13 = .ok (.aload_n 0, 1) := by decide +kernel
theorem dX6_expected_14 : decode cX6_expected 14 = .ok (.iload_n 1, 1) := by decide +kernel
theorem dX6_expected_15 : decode cX6_expected 15 = .ok (.invokevirtual 96, 3) := by decide +kernel
theorem dX6_expected_18 : decode cX6_expected 18 = .ok (.invokevirtual 59, 3) := by decide +kernel
theorem dX6_expected_21 : decode cX6_expected 21 = .ok (.invokestatic 63, 3) := by decide +kernel
theorem dX6_expected_24 : decode cX6_expected 24 = .ok (.ireturn, 1) := by decide +kernel
theorem dX6_dateCount_0 : decode cX6_dateCount 0 = .ok (.aload_n 0, 1) := by decide +kernel
theorem dX6_dateCount_1 : decode cX6_dateCount 1 = .ok (.iload_n 1, 1) := by decide +kernel
theorem dX6_dateCount_2 : decode cX6_dateCount 2 = .ok (.invokevirtual 99, 3) := by decide +kernel
theorem dX6_dateCount_5 : decode cX6_dateCount 5 = .ok (.ifCond .eq 7, 3) := by decide +kernel
theorem dX6_dateCount_8 : decode cX6_dateCount 8 = .ok (.iconst 0, 1) := by decide +kernel
theorem dX6_dateCount_9 : decode cX6_dateCount 9 = .ok (.goto 13, 3) := by decide +kernel
theorem dX6_dateCount_12 : decode cX6_dateCount 12 = .ok (.aload_n 0, 1) := by decide +kernel
theorem dX6_dateCount_13 : decode cX6_dateCount 13 = .ok (.aload_n 0, 1) := by decide +kernel
theorem dX6_dateCount_14 : decode cX6_dateCount 14 = .ok (.iload_n 1, 1) := by decide +kernel
theorem dX6_dateCount_15 : decode cX6_dateCount 15 = .ok (.invokevirtual 96, 3) := by decide +kernel
theorem dX6_dateCount_18 : decode cX6_dateCount 18 = .ok (.iconst 3, 1) := by decide +kernel
theorem dX6_dateCount_19 : decode cX6_dateCount 19 = .ok (.invokevirtual 37, 3) := by decide +kernel
theorem dX6_dateCount_22 : decode cX6_dateCount 22 = .ok (.ireturn, 1) := by decide +kernel
theorem dX6_dayOf_0 : decode cX6_dayOf 0 = .ok (.aload_n 0, 1) := by decide +kernel
theorem dX6_dayOf_1 : decode cX6_dayOf 1 = .ok (.iload_n 1, 1) := by decide +kernel
theorem dX6_dayOf_2 : decode cX6_dayOf 2 = .ok (.iload_n 2, 1) := by decide +kernel
theorem dX6_dayOf_3 : decode cX6_dayOf 3 = .ok (.invokevirtual 108, 3) := by decide +kernel
theorem dX6_dayOf_6 : decode cX6_dayOf 6 = .ok (.ifCond .eq 7, 3) := by decide +kernel
theorem dX6_dayOf_9 : decode cX6_dayOf 9 = .ok (.iconst 0, 1) := by decide +kernel
theorem dX6_dayOf_10 : decode cX6_dayOf 10 = .ok (.goto 14, 3) := by decide +kernel
theorem dX6_dayOf_13 : decode cX6_dayOf 13 = .ok (.aload_n 0, 1) := by decide +kernel
theorem dX6_dayOf_14 : decode cX6_dayOf 14 = .ok (.aload_n 0, 1) := by decide +kernel
theorem dX6_dayOf_15 : decode cX6_dayOf 15 = .ok (.iload_n 1, 1) := by decide +kernel
theorem dX6_dayOf_16 : decode cX6_dayOf 16 = .ok (.invokevirtual 96, 3) := by decide +kernel
theorem dX6_dayOf_19 : decode cX6_dayOf 19 = .ok (.iload_n 2, 1) := by decide +kernel
theorem dX6_dayOf_20 : decode cX6_dayOf 20 = .ok (.iconst 0, 1) := by decide +kernel
theorem dX6_dayOf_21 : decode cX6_dayOf 21 = .ok (.invokevirtual 45, 3) := by decide +kernel
theorem dX6_dayOf_24 : decode cX6_dayOf 24 = .ok (.ireturn, 1) := by decide +kernel
theorem dX6_timeOf_0 : decode cX6_timeOf 0 = .ok (.aload_n 0, 1) := by decide +kernel
theorem dX6_timeOf_1 : decode cX6_timeOf 1 = .ok (.iload_n 1, 1) := by decide +kernel
theorem dX6_timeOf_2 : decode cX6_timeOf 2 = .ok (.iload_n 2, 1) := by decide +kernel
theorem dX6_timeOf_3 : decode cX6_timeOf 3 = .ok (.invokevirtual 108, 3) := by decide +kernel
theorem dX6_timeOf_6 : decode cX6_timeOf 6 = .ok (.ifCond .eq 7, 3) := by decide +kernel
theorem dX6_timeOf_9 : decode cX6_timeOf 9 = .ok (.iconst 0, 1) := by decide +kernel
theorem dX6_timeOf_10 : decode cX6_timeOf 10 = .ok (.goto 14, 3) := by decide +kernel
theorem dX6_timeOf_13 : decode cX6_timeOf 13 = .ok (.aload_n 0, 1) := by decide +kernel
theorem dX6_timeOf_14 : decode cX6_timeOf 14 = .ok (.aload_n 0, 1) := by decide +kernel
theorem dX6_timeOf_15 : decode cX6_timeOf 15 = .ok (.iload_n 1, 1) := by decide +kernel
theorem dX6_timeOf_16 : decode cX6_timeOf 16 = .ok (.invokevirtual 96, 3) := by decide +kernel
theorem dX6_timeOf_19 : decode cX6_timeOf 19 = .ok (.iload_n 2, 1) := by decide +kernel
theorem dX6_timeOf_20 : decode cX6_timeOf 20 = .ok (.iconst 1, 1) := by decide +kernel
theorem dX6_timeOf_21 : decode cX6_timeOf 21 = .ok (.invokevirtual 45, 3) := by decide +kernel
theorem dX6_timeOf_24 : decode cX6_timeOf 24 = .ok (.ireturn, 1) := by decide +kernel
theorem dX6_isCancelled_0 : decode cX6_isCancelled 0 = .ok (.aload_n 0, 1) := by decide +kernel
theorem dX6_isCancelled_1 : decode cX6_isCancelled 1 = .ok (.iload_n 1, 1) := by decide +kernel
theorem dX6_isCancelled_2 : decode cX6_isCancelled 2 = .ok (.iload_n 2, 1) := by decide +kernel
theorem dX6_isCancelled_3 : decode cX6_isCancelled 3 = .ok (.invokevirtual 108, 3) := by decide +kernel
theorem dX6_isCancelled_6 : decode cX6_isCancelled 6 = .ok (.ifCond .ne 20, 3) := by decide +kernel
theorem dX6_isCancelled_9 : decode cX6_isCancelled 9 = .ok (.aload_n 0, 1) := by decide +kernel
theorem dX6_isCancelled_10 : decode cX6_isCancelled 10 = .ok (.aload_n 0, 1) := by decide +kernel
theorem dX6_isCancelled_11 : decode cX6_isCancelled 11 = .ok (.iload_n 1, 1) := by decide +kernel
theorem dX6_isCancelled_12 : decode cX6_isCancelled 12 = .ok (.invokevirtual 96, 3) := by decide +kernel
theorem dX6_isCancelled_15 : decode cX6_isCancelled 15 = .ok (.iload_n 2, 1) := by decide +kernel
theorem dX6_isCancelled_16 : decode cX6_isCancelled 16 = .ok (.invokevirtual 49, 3) := by decide +kernel
theorem dX6_isCancelled_19 : decode cX6_isCancelled 19 = .ok (.ifCond .ne 7, 3) := by decide +kernel
theorem dX6_isCancelled_22 : decode cX6_isCancelled 22 = .ok (.iconst 1, 1) := by decide +kernel
theorem dX6_isCancelled_23 : decode cX6_isCancelled 23 = .ok (.goto 4, 3) := by decide +kernel
theorem dX6_isCancelled_26 : decode cX6_isCancelled 26 = .ok (.iconst 0, 1) := by decide +kernel
theorem dX6_isCancelled_27 : decode cX6_isCancelled 27 = .ok (.ireturn, 1) := by decide +kernel
theorem dX6_roomOf_0 : decode cX6_roomOf 0 = .ok (.aload_n 0, 1) := by decide +kernel
theorem dX6_roomOf_1 : decode cX6_roomOf 1 = .ok (.iload_n 1, 1) := by decide +kernel
theorem dX6_roomOf_2 : decode cX6_roomOf 2 = .ok (.iload_n 2, 1) := by decide +kernel
theorem dX6_roomOf_3 : decode cX6_roomOf 3 = .ok (.invokevirtual 108, 3) := by decide +kernel
theorem dX6_roomOf_6 : decode cX6_roomOf 6 = .ok (.ifCond .ne 28, 3) := by decide +kernel
theorem dX6_roomOf_9 : decode cX6_roomOf 9 = .ok (.aload_n 0, 1) := by decide +kernel
theorem dX6_roomOf_10 : decode cX6_roomOf 10 = .ok (.aload_n 0, 1) := by decide +kernel
theorem dX6_roomOf_11 : decode cX6_roomOf 11 = .ok (.aload_n 0, 1) := by decide +kernel
theorem dX6_roomOf_12 : decode cX6_roomOf 12 = .ok (.iload_n 1, 1) := by decide +kernel
theorem dX6_roomOf_13 : decode cX6_roomOf 13 = .ok (.invokevirtual 96, 3) := by decide +kernel
theorem dX6_roomOf_16 : decode cX6_roomOf 16 = .ok (.iload_n 2, 1) := by decide +kernel
theorem dX6_roomOf_17 : decode cX6_roomOf 17 = .ok (.invokevirtual 49, 3) := by decide +kernel
theorem dX6_roomOf_20 : decode cX6_roomOf 20 = .ok (.ifCond .eq 7, 3) := by decide +kernel
theorem dX6_roomOf_23 : decode cX6_roomOf 23 = .ok (.iconst 0, 1) := by decide +kernel
theorem dX6_roomOf_24 : decode cX6_roomOf 24 = .ok (.goto 4, 3) := by decide +kernel
theorem dX6_roomOf_27 : decode cX6_roomOf 27 = .ok (.iconst 3, 1) := by decide +kernel
theorem dX6_roomOf_28 : decode cX6_roomOf 28 = .ok (.invokevirtual 34, 3) := by decide +kernel
theorem dX6_roomOf_31 : decode cX6_roomOf 31 = .ok (.ifCond .eq 7, 3) := by decide +kernel
theorem dX6_roomOf_34 : decode cX6_roomOf 34 = .ok (.iconst 0, 1) := by decide +kernel
theorem dX6_roomOf_35 : decode cX6_roomOf 35 = .ok (.goto 14, 3) := by decide +kernel
theorem dX6_roomOf_38 : decode cX6_roomOf 38 = .ok (.aload_n 0, 1) := by decide +kernel
theorem dX6_roomOf_39 : decode cX6_roomOf 39 = .ok (.aload_n 0, 1) := by decide +kernel
theorem dX6_roomOf_40 : decode cX6_roomOf 40 = .ok (.iload_n 1, 1) := by decide +kernel
theorem dX6_roomOf_41 : decode cX6_roomOf 41 = .ok (.invokevirtual 96, 3) := by decide +kernel
theorem dX6_roomOf_44 : decode cX6_roomOf 44 = .ok (.iload_n 2, 1) := by decide +kernel
theorem dX6_roomOf_45 : decode cX6_roomOf 45 = .ok (.iconst 3, 1) := by decide +kernel
theorem dX6_roomOf_46 : decode cX6_roomOf 46 = .ok (.invokevirtual 45, 3) := by decide +kernel
theorem dX6_roomOf_49 : decode cX6_roomOf 49 = .ok (.ireturn, 1) := by decide +kernel
theorem dX6_refusalReason_0 : decode cX6_refusalReason 0 = .ok (.aload_n 0, 1) := by decide +kernel
theorem dX6_refusalReason_1 : decode cX6_refusalReason 1 = .ok (.aload_n 0, 1) := by decide +kernel
theorem dX6_refusalReason_2 : decode cX6_refusalReason 2 = .ok (.getfield 7, 3) := by decide +kernel
theorem dX6_refusalReason_5 : decode cX6_refusalReason 5 = .ok (.iconst 3, 1) := by decide +kernel
theorem dX6_refusalReason_6 : decode cX6_refusalReason 6 = .ok (.iaload, 1) := by decide +kernel
theorem dX6_refusalReason_7 : decode cX6_refusalReason 7 = .ok (.ifCond .ne 7, 3) := by decide +kernel
theorem dX6_refusalReason_10 : decode cX6_refusalReason 10 = .ok (.iconst 1, 1) := by decide +kernel
theorem dX6_refusalReason_11 : decode cX6_refusalReason 11 = .ok (.goto 4, 3) := by decide +kernel
theorem dX6_refusalReason_14 : decode cX6_refusalReason 14 = .ok (.iconst 0, 1) := by decide +kernel
theorem dX6_refusalReason_15 : decode cX6_refusalReason 15 = .ok (.invokevirtual 34, 3) := by decide +kernel
theorem dX6_refusalReason_18 : decode cX6_refusalReason 18 = .ok (.ifCond .eq 7, 3) := by decide +kernel
theorem dX6_refusalReason_21 : decode cX6_refusalReason 21 = .ok (.iconst 0, 1) := by decide +kernel
theorem dX6_refusalReason_22 : decode cX6_refusalReason 22 = .ok (.goto 9, 3) := by decide +kernel
theorem dX6_refusalReason_25 : decode cX6_refusalReason 25 = .ok (.aload_n 0, 1) := by decide +kernel
theorem dX6_refusalReason_26 : decode cX6_refusalReason 26 = .ok (.getfield 7, 3) := by decide +kernel
theorem dX6_refusalReason_29 : decode cX6_refusalReason 29 = .ok (.iconst 3, 1) := by decide +kernel
theorem dX6_refusalReason_30 : decode cX6_refusalReason 30 = .ok (.iaload, 1) := by decide +kernel
theorem dX6_refusalReason_31 : decode cX6_refusalReason 31 = .ok (.ireturn, 1) := by decide +kernel
theorem dX6_refusalDetail_0 : decode cX6_refusalDetail 0 = .ok (.aload_n 0, 1) := by decide +kernel
theorem dX6_refusalDetail_1 : decode cX6_refusalDetail 1 = .ok (.aload_n 0, 1) := by decide +kernel
theorem dX6_refusalDetail_2 : decode cX6_refusalDetail 2 = .ok (.getfield 7, 3) := by decide +kernel
theorem dX6_refusalDetail_5 : decode cX6_refusalDetail 5 = .ok (.iconst 3, 1) := by decide +kernel
theorem dX6_refusalDetail_6 : decode cX6_refusalDetail 6 = .ok (.iaload, 1) := by decide +kernel
theorem dX6_refusalDetail_7 : decode cX6_refusalDetail 7 = .ok (.ifCond .ne 7, 3) := by decide +kernel
theorem dX6_refusalDetail_10 : decode cX6_refusalDetail 10 = .ok (.iconst 1, 1) := by decide +kernel
theorem dX6_refusalDetail_11 : decode cX6_refusalDetail 11 = .ok (.goto 4, 3) := by decide +kernel
theorem dX6_refusalDetail_14 : decode cX6_refusalDetail 14 = .ok (.iconst 0, 1) := by decide +kernel
theorem dX6_refusalDetail_15 : decode cX6_refusalDetail 15 = .ok (.invokevirtual 34, 3) := by decide +kernel
theorem dX6_refusalDetail_18 : decode cX6_refusalDetail 18 = .ok (.ifCond .eq 7, 3) := by decide +kernel
theorem dX6_refusalDetail_21 : decode cX6_refusalDetail 21 = .ok (.iconst 0, 1) := by decide +kernel
theorem dX6_refusalDetail_22 : decode cX6_refusalDetail 22 = .ok (.goto 9, 3) := by decide +kernel
theorem dX6_refusalDetail_25 : decode cX6_refusalDetail 25 = .ok (.aload_n 0, 1) := by decide +kernel
theorem dX6_refusalDetail_26 : decode cX6_refusalDetail 26 = .ok (.getfield 7, 3) := by decide +kernel
theorem dX6_refusalDetail_29 : decode cX6_refusalDetail 29 = .ok (.iconst 4, 1) := by decide +kernel
theorem dX6_refusalDetail_30 : decode cX6_refusalDetail 30 = .ok (.iaload, 1) := by decide +kernel
theorem dX6_refusalDetail_31 : decode cX6_refusalDetail 31 = .ok (.ireturn, 1) := by decide +kernel
theorem dX6_isFreeAt_0 : decode cX6_isFreeAt 0 = .ok (.aload_n 0, 1) := by decide +kernel
theorem dX6_isFreeAt_1 : decode cX6_isFreeAt 1 = .ok (.iconst 1, 1) := by decide +kernel
theorem dX6_isFreeAt_2 : decode cX6_isFreeAt 2 = .ok (.iload_n 1, 1) := by decide +kernel
theorem dX6_isFreeAt_3 : decode cX6_isFreeAt 3 = .ok (.ishl, 1) := by decide +kernel
theorem dX6_isFreeAt_4 : decode cX6_isFreeAt 4 = .ok (.iload_n 2, 1) := by decide +kernel
theorem dX6_isFreeAt_5 : decode cX6_isFreeAt 5 = .ok (.iload_n 3, 1) := by decide +kernel
theorem dX6_isFreeAt_6 : decode cX6_isFreeAt 6 = .ok (.iconst 1, 1) := by decide +kernel
theorem dX6_isFreeAt_7 : decode cX6_isFreeAt 7 = .ok (.invokevirtual 83, 3) := by decide +kernel
theorem dX6_isFreeAt_10 : decode cX6_isFreeAt 10 = .ok (.ifCond .ge 7, 3) := by decide +kernel
theorem dX6_isFreeAt_13 : decode cX6_isFreeAt 13 = .ok (.iconst 1, 1) := by decide +kernel
theorem dX6_isFreeAt_14 : decode cX6_isFreeAt 14 = .ok (.goto 4, 3) := by decide +kernel
theorem dX6_isFreeAt_17 : decode cX6_isFreeAt 17 = .ok (.iconst 0, 1) := by decide +kernel
theorem dX6_isFreeAt_18 : decode cX6_isFreeAt 18 = .ok (.ireturn, 1) := by decide +kernel
theorem dX6_isNoTime_0 : decode cX6_isNoTime 0 = .ok (.iload_n 0, 1) := by decide +kernel
theorem dX6_isNoTime_1 : decode cX6_isNoTime 1 = .ok (.invokestatic 74, 3) := by decide +kernel
theorem dX6_isNoTime_4 : decode cX6_isNoTime 4 = .ok (.ifCond .eq 17, 3) := by decide +kernel
theorem dX6_isNoTime_7 : decode cX6_isNoTime 7 = .ok (.iload_n 1, 1) := by decide +kernel
theorem dX6_isNoTime_8 : decode cX6_isNoTime 8 = .ok (.invokestatic 77, 3) := by decide +kernel
theorem dX6_isNoTime_11 : decode cX6_isNoTime 11 = .ok (.ifCond .eq 10, 3) := by decide +kernel
theorem dX6_isNoTime_14 : decode cX6_isNoTime 14 = .ok (.iload_n 2, 1) := by decide +kernel
theorem dX6_isNoTime_15 : decode cX6_isNoTime 15 = .ok (.invokestatic 80, 3) := by decide +kernel
theorem dX6_isNoTime_18 : decode cX6_isNoTime 18 = .ok (.ifCond .ne 7, 3) := by decide +kernel
theorem dX6_isNoTime_21 : decode cX6_isNoTime 21 = .ok (.iconst 1, 1) := by decide +kernel
theorem dX6_isNoTime_22 : decode cX6_isNoTime 22 = .ok (.goto 4, 3) := by decide +kernel
theorem dX6_isNoTime_25 : decode cX6_isNoTime 25 = .ok (.iconst 0, 1) := by decide +kernel
theorem dX6_isNoTime_26 : decode cX6_isNoTime 26 = .ok (.ireturn, 1) := by decide +kernel
theorem dX6_isFree_0 : decode cX6_isFree 0 = .ok (.aload_n 0, 1) := by decide +kernel
theorem dX6_isFree_1 : decode cX6_isFree 1 = .ok (.iload_n 1, 1) := by decide +kernel
theorem dX6_isFree_2 : decode cX6_isFree 2 = .ok (.iload_n 2, 1) := by decide +kernel
theorem dX6_isFree_3 : decode cX6_isFree 3 = .ok (.iload_n 3, 1) := by decide +kernel
theorem dX6_isFree_4 : decode cX6_isFree 4 = .ok (.invokestatic 114, 3) := by decide +kernel
theorem dX6_isFree_7 : decode cX6_isFree 7 = .ok (.ifCond .eq 7, 3) := by decide +kernel
theorem dX6_isFree_10 : decode cX6_isFree 10 = .ok (.iconst 1, 1) := by decide +kernel
theorem dX6_isFree_11 : decode cX6_isFree 11 = .ok (.goto 4, 3) := by decide +kernel
theorem dX6_isFree_14 : decode cX6_isFree 14 = .ok (.iconst 0, 1) := by decide +kernel
theorem dX6_isFree_15 : decode cX6_isFree 15 = .ok (.invokevirtual 34, 3) := by decide +kernel
theorem dX6_isFree_18 : decode cX6_isFree 18 = .ok (.ifCond .ne 17, 3) := by decide +kernel
theorem dX6_isFree_21 : decode cX6_isFree 21 = .ok (.aload_n 0, 1) := by decide +kernel
theorem dX6_isFree_22 : decode cX6_isFree 22 = .ok (.iload_n 1, 1) := by decide +kernel
theorem dX6_isFree_23 : decode cX6_isFree 23 = .ok (.iload_n 2, 1) := by decide +kernel
theorem dX6_isFree_24 : decode cX6_isFree 24 = .ok (.iload_n 3, 1) := by decide +kernel
theorem dX6_isFree_25 : decode cX6_isFree 25 = .ok (.invokevirtual 117, 3) := by decide +kernel
theorem dX6_isFree_28 : decode cX6_isFree 28 = .ok (.ifCond .eq 7, 3) := by decide +kernel
theorem dX6_isFree_31 : decode cX6_isFree 31 = .ok (.iconst 1, 1) := by decide +kernel
theorem dX6_isFree_32 : decode cX6_isFree 32 = .ok (.goto 4, 3) := by decide +kernel
theorem dX6_isFree_35 : decode cX6_isFree 35 = .ok (.iconst 0, 1) := by decide +kernel
theorem dX6_isFree_36 : decode cX6_isFree 36 = .ok (.ireturn, 1) := by decide +kernel
theorem dX6_meetingOf_0 : decode cX6_meetingOf 0 = .ok (.aload_n 0, 1) := by decide +kernel
theorem dX6_meetingOf_1 : decode cX6_meetingOf 1 = .ok (.iload_n 1, 1) := by decide +kernel
theorem dX6_meetingOf_2 : decode cX6_meetingOf 2 = .ok (.iload_n 2, 1) := by decide +kernel
theorem dX6_meetingOf_3 : decode cX6_meetingOf 3 = .ok (.iload_n 3, 1) := by decide +kernel
theorem dX6_meetingOf_4 : decode cX6_meetingOf 4 = .ok (.invokestatic 114, 3) := by decide +kernel
theorem dX6_meetingOf_7 : decode cX6_meetingOf 7 = .ok (.ifCond .eq 7, 3) := by decide +kernel
theorem dX6_meetingOf_10 : decode cX6_meetingOf 10 = .ok (.iconst 1, 1) := by decide +kernel
theorem dX6_meetingOf_11 : decode cX6_meetingOf 11 = .ok (.goto 18, 3) := by decide +kernel
theorem dX6_meetingOf_14 : decode cX6_meetingOf 14 = .ok (.aload_n 0, 1) := by decide +kernel
theorem dX6_meetingOf_15 : decode cX6_meetingOf 15 = .ok (.iload_n 1, 1) := by decide +kernel
theorem dX6_meetingOf_16 : decode cX6_meetingOf 16 = .ok (.iload_n 2, 1) := by decide +kernel
theorem dX6_meetingOf_17 : decode cX6_meetingOf 17 = .ok (.iload_n 3, 1) := by decide +kernel
theorem dX6_meetingOf_18 : decode cX6_meetingOf 18 = .ok (.invokevirtual 117, 3) := by decide +kernel
theorem dX6_meetingOf_21 : decode cX6_meetingOf 21 = .ok (.ifCond .eq 7, 3) := by decide +kernel
theorem dX6_meetingOf_24 : decode cX6_meetingOf 24 = .ok (.iconst 2, 1) := by decide +kernel
theorem dX6_meetingOf_25 : decode cX6_meetingOf 25 = .ok (.goto 4, 3) := by decide +kernel
theorem dX6_meetingOf_28 : decode cX6_meetingOf 28 = .ok (.iconst 0, 1) := by decide +kernel
theorem dX6_meetingOf_29 : decode cX6_meetingOf 29 = .ok (.invokevirtual 34, 3) := by decide +kernel
theorem dX6_meetingOf_32 : decode cX6_meetingOf 32 = .ok (.ifCond .eq 5, 3) := by decide +kernel
theorem dX6_meetingOf_35 : decode cX6_meetingOf 35 = .ok (.iconst 0, 1) := by decide +kernel
theorem dX6_meetingOf_36 : decode cX6_meetingOf 36 = .ok (.ireturn, 1) := by decide +kernel
theorem dX6_meetingOf_37 : decode cX6_meetingOf 37 = .ok (.iconst (-1), 1) := by decide +kernel
theorem dX6_meetingOf_38 : decode cX6_meetingOf 38 = .ok (.istore 4, 2) := by decide +kernel
theorem dX6_meetingOf_40 : decode cX6_meetingOf 40 = .ok (.iconst 0, 1) := by decide +kernel
theorem dX6_meetingOf_41 : decode cX6_meetingOf 41 = .ok (.istore 5, 2) := by decide +kernel
theorem dX6_meetingOf_43 : decode cX6_meetingOf 43 = .ok (.iload 5, 2) := by decide +kernel
theorem dX6_meetingOf_45 : decode cX6_meetingOf 45 = .ok (.aload_n 0, 1) := by decide +kernel
theorem dX6_meetingOf_46 : decode cX6_meetingOf 46 = .ok (.getfield 7, 3) := by decide +kernel
theorem dX6_meetingOf_49 : decode cX6_meetingOf 49 = .ok (.iconst 1, 1) := by decide +kernel
theorem dX6_meetingOf_50 : decode cX6_meetingOf 50 = .ok (.iaload, 1) := by decide +kernel
theorem dX6_meetingOf_51 : decode cX6_meetingOf 51 = .ok (.if_icmp .ge 74, 3) := by decide +kernel
theorem dX6_meetingOf_54 : decode cX6_meetingOf 54 = .ok (.iconst 0, 1) := by decide +kernel
theorem dX6_meetingOf_55 : decode cX6_meetingOf 55 = .ok (.istore 6, 2) := by decide +kernel
theorem dX6_meetingOf_57 : decode cX6_meetingOf 57 = .ok (.iload 6, 2) := by decide +kernel
theorem dX6_meetingOf_59 : decode cX6_meetingOf 59 = .ok (.aload_n 0, 1) := by decide +kernel
theorem dX6_meetingOf_60 : decode cX6_meetingOf 60 = .ok (.iload 5, 2) := by decide +kernel
theorem dX6_meetingOf_62 : decode cX6_meetingOf 62 = .ok (.iconst 3, 1) := by decide +kernel
theorem dX6_meetingOf_63 : decode cX6_meetingOf 63 = .ok (.invokevirtual 37, 3) := by decide +kernel
theorem dX6_meetingOf_66 : decode cX6_meetingOf 66 = .ok (.if_icmp .ge 53, 3) := by decide +kernel
theorem dX6_meetingOf_69 : decode cX6_meetingOf 69 = .ok (.aload_n 0, 1) := by decide +kernel
theorem dX6_meetingOf_70 : decode cX6_meetingOf 70 = .ok (.iload 5, 2) := by decide +kernel
theorem dX6_meetingOf_72 : decode cX6_meetingOf 72 = .ok (.iload_n 1, 1) := by decide +kernel
theorem dX6_meetingOf_73 : decode cX6_meetingOf 73 = .ok (.invokevirtual 41, 3) := by decide +kernel
theorem dX6_meetingOf_76 : decode cX6_meetingOf 76 = .ok (.ifCond .eq 37, 3) := by decide +kernel
theorem dX6_meetingOf_79 : decode cX6_meetingOf 79 = .ok (.aload_n 0, 1) := by decide +kernel
theorem dX6_meetingOf_80 : decode cX6_meetingOf 80 = .ok (.iload 5, 2) := by decide +kernel
theorem dX6_meetingOf_82 : decode cX6_meetingOf 82 = .ok (.iload 6, 2) := by decide +kernel
theorem dX6_meetingOf_84 : decode cX6_meetingOf 84 = .ok (.iload_n 2, 1) := by decide +kernel
theorem dX6_meetingOf_85 : decode cX6_meetingOf 85 = .ok (.invokevirtual 52, 3) := by decide +kernel
theorem dX6_meetingOf_88 : decode cX6_meetingOf 88 = .ok (.ifCond .eq 25, 3) := by decide +kernel
theorem dX6_meetingOf_91 : decode cX6_meetingOf 91 = .ok (.aload_n 0, 1) := by decide +kernel
theorem dX6_meetingOf_92 : decode cX6_meetingOf 92 = .ok (.iload 5, 2) := by decide +kernel
theorem dX6_meetingOf_94 : decode cX6_meetingOf 94 = .ok (.iload 6, 2) := by decide +kernel
theorem dX6_meetingOf_96 : decode cX6_meetingOf 96 = .ok (.iload_n 3, 1) := by decide +kernel
theorem dX6_meetingOf_97 : decode cX6_meetingOf 97 = .ok (.iconst 1, 1) := by decide +kernel
theorem dX6_meetingOf_98 : decode cX6_meetingOf 98 = .ok (.invokevirtual 55, 3) := by decide +kernel
theorem dX6_meetingOf_101 : decode cX6_meetingOf 101 = .ok (.ifCond .ge 12, 3) := by decide +kernel
theorem dX6_meetingOf_104 : decode cX6_meetingOf 104 = .ok (.aload_n 0, 1) := by decide +kernel
theorem dX6_meetingOf_105 : decode cX6_meetingOf 105 = .ok (.iload 5, 2) := by decide +kernel
theorem dX6_meetingOf_107 : decode cX6_meetingOf 107 = .ok (.iconst 0, 1) := by decide +kernel
theorem dX6_meetingOf_108 : decode cX6_meetingOf 108 = .ok (.invokevirtual 37, 3) := by decide +kernel
theorem dX6_meetingOf_111 : decode cX6_meetingOf 111 = .ok (.istore 4, 2) := by decide +kernel
theorem dX6_meetingOf_113 : decode cX6_meetingOf 113 = .ok (.iinc 6 1, 3) := by decide +kernel
theorem dX6_meetingOf_116 : decode cX6_meetingOf 116 = .ok (.goto (-59), 3) := by decide +kernel
theorem dX6_meetingOf_119 : decode cX6_meetingOf 119 = .ok (.iinc 5 1, 3) := by decide +kernel
theorem dX6_meetingOf_122 : decode cX6_meetingOf 122 = .ok (.goto (-79), 3) := by decide +kernel
theorem dX6_meetingOf_125 : decode cX6_meetingOf 125 = .ok (.iload 4, 2) := by decide +kernel
theorem dX6_meetingOf_127 : decode cX6_meetingOf 127 = .ok (.ireturn, 1) := by decide +kernel
theorem dX6_frees_0 : decode cX6_frees 0 = .ok (.aload_n 0, 1) := by decide +kernel
theorem dX6_frees_1 : decode cX6_frees 1 = .ok (.iload_n 1, 1) := by decide +kernel
theorem dX6_frees_2 : decode cX6_frees 2 = .ok (.invokestatic 74, 3) := by decide +kernel
theorem dX6_frees_5 : decode cX6_frees 5 = .ok (.ifCond .eq 14, 3) := by decide +kernel
theorem dX6_frees_8 : decode cX6_frees 8 = .ok (.iload_n 2, 1) := by decide +kernel
theorem dX6_frees_9 : decode cX6_frees 9 = .ok (.invokestatic 77, 3) := by decide +kernel
theorem dX6_frees_12 : decode cX6_frees 12 = .ok (.ifCond .eq 7, 3) := by decide +kernel
theorem dX6_frees_15 : decode cX6_frees 15 = .ok (.iconst 0, 1) := by decide +kernel
theorem dX6_frees_16 : decode cX6_frees 16 = .ok (.goto 4, 3) := by decide +kernel
theorem dX6_frees_19 : decode cX6_frees 19 = .ok (.iconst 1, 1) := by decide +kernel
theorem dX6_frees_20 : decode cX6_frees 20 = .ok (.invokevirtual 34, 3) := by decide +kernel
theorem dX6_frees_23 : decode cX6_frees 23 = .ok (.ifCond .eq 5, 3) := by decide +kernel
theorem dX6_frees_26 : decode cX6_frees 26 = .ok (.iconst 0, 1) := by decide +kernel
theorem dX6_frees_27 : decode cX6_frees 27 = .ok (.ireturn, 1) := by decide +kernel
theorem dX6_frees_28 : decode cX6_frees 28 = .ok (.iconst 0, 1) := by decide +kernel
theorem dX6_frees_29 : decode cX6_frees 29 = .ok (.istore_n 3, 1) := by decide +kernel
theorem dX6_frees_30 : decode cX6_frees 30 = .ok (.iconst 0, 1) := by decide +kernel
theorem dX6_frees_31 : decode cX6_frees 31 = .ok (.istore 4, 2) := by decide +kernel
theorem dX6_frees_33 : decode cX6_frees 33 = .ok (.iload 4, 2) := by decide +kernel
theorem dX6_frees_35 : decode cX6_frees 35 = .ok (.bipush 16, 2) := by decide +kernel
theorem dX6_frees_37 : decode cX6_frees 37 = .ok (.if_icmp .ge 28, 3) := by decide +kernel
theorem dX6_frees_40 : decode cX6_frees 40 = .ok (.iload_n 3, 1) := by decide +kernel
theorem dX6_frees_41 : decode cX6_frees 41 = .ok (.aload_n 0, 1) := by decide +kernel
theorem dX6_frees_42 : decode cX6_frees 42 = .ok (.iload_n 1, 1) := by decide +kernel
theorem dX6_frees_43 : decode cX6_frees 43 = .ok (.iload_n 2, 1) := by decide +kernel
theorem dX6_frees_44 : decode cX6_frees 44 = .ok (.iload 4, 2) := by decide +kernel
theorem dX6_frees_46 : decode cX6_frees 46 = .ok (.invokevirtual 117, 3) := by decide +kernel
theorem dX6_frees_49 : decode cX6_frees 49 = .ok (.ifCond .eq 7, 3) := by decide +kernel
theorem dX6_frees_52 : decode cX6_frees 52 = .ok (.iconst 1, 1) := by decide +kernel
theorem dX6_frees_53 : decode cX6_frees 53 = .ok (.goto 4, 3) := by decide +kernel
theorem dX6_frees_56 : decode cX6_frees 56 = .ok (.iconst 0, 1) := by decide +kernel
theorem dX6_frees_57 : decode cX6_frees 57 = .ok (.iadd, 1) := by decide +kernel
theorem dX6_frees_58 : decode cX6_frees 58 = .ok (.istore_n 3, 1) := by decide +kernel
theorem dX6_frees_59 : decode cX6_frees 59 = .ok (.iinc 4 1, 3) := by decide +kernel
theorem dX6_frees_62 : decode cX6_frees 62 = .ok (.goto (-29), 3) := by decide +kernel
theorem dX6_frees_65 : decode cX6_frees 65 = .ok (.iload_n 3, 1) := by decide +kernel
theorem dX6_frees_66 : decode cX6_frees 66 = .ok (.ireturn, 1) := by decide +kernel
theorem dX6_freeTimes_0 : decode cX6_freeTimes 0 = .ok (.aload_n 0, 1) := by decide +kernel
theorem dX6_freeTimes_1 : decode cX6_freeTimes 1 = .ok (.iload_n 1, 1) := by decide +kernel
theorem dX6_freeTimes_2 : decode cX6_freeTimes 2 = .ok (.iload_n 2, 1) := by decide +kernel
theorem dX6_freeTimes_3 : decode cX6_freeTimes 3 = .ok (.invokevirtual 120, 3) := by decide +kernel
theorem dX6_freeTimes_6 : decode cX6_freeTimes 6 = .ok (.ireturn, 1) := by decide +kernel
theorem dX6_freeByTrying_0 : decode cX6_freeByTrying 0 = .ok (.aload_n 0, 1) := by decide +kernel
theorem dX6_freeByTrying_1 : decode cX6_freeByTrying 1 = .ok (.iload_n 1, 1) := by decide +kernel
theorem dX6_freeByTrying_2 : decode cX6_freeByTrying 2 = .ok (.iload_n 2, 1) := by decide +kernel
theorem dX6_freeByTrying_3 : decode cX6_freeByTrying 3 = .ok (.invokevirtual 120, 3) := by decide +kernel
theorem dX6_freeByTrying_6 : decode cX6_freeByTrying 6 = .ok (.ireturn, 1) := by decide +kernel
theorem dX6_longestFree_0 : decode cX6_longestFree 0 = .ok (.aload_n 0, 1) := by decide +kernel
theorem dX6_longestFree_1 : decode cX6_longestFree 1 = .ok (.iload_n 1, 1) := by decide +kernel
theorem dX6_longestFree_2 : decode cX6_longestFree 2 = .ok (.invokestatic 74, 3) := by decide +kernel
theorem dX6_longestFree_5 : decode cX6_longestFree 5 = .ok (.ifCond .eq 14, 3) := by decide +kernel
theorem dX6_longestFree_8 : decode cX6_longestFree 8 = .ok (.iload_n 2, 1) := by decide +kernel
theorem dX6_longestFree_9 : decode cX6_longestFree 9 = .ok (.invokestatic 77, 3) := by decide +kernel
theorem dX6_longestFree_12 : decode cX6_longestFree 12 = .ok (.ifCond .eq 7, 3) := by decide +kernel
theorem dX6_longestFree_15 : decode cX6_longestFree 15 = .ok (.iconst 0, 1) := by decide +kernel
theorem dX6_longestFree_16 : decode cX6_longestFree 16 = .ok (.goto 4, 3) := by decide +kernel
theorem dX6_longestFree_19 : decode cX6_longestFree 19 = .ok (.iconst 1, 1) := by decide +kernel
theorem dX6_longestFree_20 : decode cX6_longestFree 20 = .ok (.invokevirtual 34, 3) := by decide +kernel
theorem dX6_longestFree_23 : decode cX6_longestFree 23 = .ok (.ifCond .eq 5, 3) := by decide +kernel
theorem dX6_longestFree_26 : decode cX6_longestFree 26 = .ok (.iconst 0, 1) := by decide +kernel
theorem dX6_longestFree_27 : decode cX6_longestFree 27 = .ok (.ireturn, 1) := by decide +kernel
theorem dX6_longestFree_28 : decode cX6_longestFree 28 = .ok (.iconst 0, 1) := by decide +kernel
theorem dX6_longestFree_29 : decode cX6_longestFree 29 = .ok (.istore_n 3, 1) := by decide +kernel
theorem dX6_longestFree_30 : decode cX6_longestFree 30 = .ok (.iconst 0, 1) := by decide +kernel
theorem dX6_longestFree_31 : decode cX6_longestFree 31 = .ok (.istore 4, 2) := by decide +kernel
theorem dX6_longestFree_33 : decode cX6_longestFree 33 = .ok (.iconst 0, 1) := by decide +kernel
theorem dX6_longestFree_34 : decode cX6_longestFree 34 = .ok (.istore 5, 2) := by decide +kernel
theorem dX6_longestFree_36 : decode cX6_longestFree 36 = .ok (.iload 5, 2) := by decide +kernel
theorem dX6_longestFree_38 : decode cX6_longestFree 38 = .ok (.bipush 16, 2) := by decide +kernel
theorem dX6_longestFree_40 : decode cX6_longestFree 40 = .ok (.if_icmp .ge 43, 3) := by decide +kernel
theorem dX6_longestFree_43 : decode cX6_longestFree 43 = .ok (.aload_n 0, 1) := by decide +kernel
theorem dX6_longestFree_44 : decode cX6_longestFree 44 = .ok (.iload_n 1, 1) := by decide +kernel
theorem dX6_longestFree_45 : decode cX6_longestFree 45 = .ok (.iload_n 2, 1) := by decide +kernel
theorem dX6_longestFree_46 : decode cX6_longestFree 46 = .ok (.iload 5, 2) := by decide +kernel
theorem dX6_longestFree_48 : decode cX6_longestFree 48 = .ok (.invokevirtual 117, 3) := by decide +kernel
theorem dX6_longestFree_51 : decode cX6_longestFree 51 = .ok (.ifCond .eq 10, 3) := by decide +kernel
theorem dX6_longestFree_54 : decode cX6_longestFree 54 = .ok (.iload 4, 2) := by decide +kernel
theorem dX6_longestFree_56 : decode cX6_longestFree 56 = .ok (.iconst 1, 1) := by decide +kernel
theorem dX6_longestFree_57 : decode cX6_longestFree 57 = .ok (.iadd, 1) := by decide +kernel
theorem dX6_longestFree_58 : decode cX6_longestFree 58 = .ok (.goto 4, 3) := by decide +kernel
theorem dX6_longestFree_61 : decode cX6_longestFree 61 = .ok (.iconst 0, 1) := by decide +kernel
theorem dX6_longestFree_62 : decode cX6_longestFree 62 = .ok (.istore 4, 2) := by decide +kernel
theorem dX6_longestFree_64 : decode cX6_longestFree 64 = .ok (.iload 4, 2) := by decide +kernel
theorem dX6_longestFree_66 : decode cX6_longestFree 66 = .ok (.iload_n 3, 1) := by decide +kernel
theorem dX6_longestFree_67 : decode cX6_longestFree 67 = .ok (.if_icmp .le 8, 3) := by decide +kernel
theorem dX6_longestFree_70 : decode cX6_longestFree 70 = .ok (.iload 4, 2) := by decide +kernel
theorem dX6_longestFree_72 : decode cX6_longestFree 72 = .ok (.goto 4, 3) := by decide +kernel
theorem dX6_longestFree_75 : decode cX6_longestFree 75 = .ok (.iload_n 3, 1) := by decide +kernel
theorem dX6_longestFree_76 : decode cX6_longestFree 76 = .ok (.istore_n 3, 1) := by decide +kernel
theorem dX6_longestFree_77 : decode cX6_longestFree 77 = .ok (.iinc 5 1, 3) := by decide +kernel
theorem dX6_longestFree_80 : decode cX6_longestFree 80 = .ok (.goto (-44), 3) := by decide +kernel
theorem dX6_longestFree_83 : decode cX6_longestFree 83 = .ok (.iload_n 3, 1) := by decide +kernel
theorem dX6_longestFree_84 : decode cX6_longestFree 84 = .ok (.ireturn, 1) := by decide +kernel
theorem dX6_isNoPlan_0 : decode cX6_isNoPlan 0 = .ok (.aload_n 0, 1) := by decide +kernel
theorem dX6_isNoPlan_1 : decode cX6_isNoPlan 1 = .ok (.iload_n 1, 1) := by decide +kernel
theorem dX6_isNoPlan_2 : decode cX6_isNoPlan 2 = .ok (.iconst 1, 1) := by decide +kernel
theorem dX6_isNoPlan_3 : decode cX6_isNoPlan 3 = .ok (.bipush 63, 2) := by decide +kernel
theorem dX6_isNoPlan_5 : decode cX6_isNoPlan 5 = .ok (.invokestatic 26, 3) := by decide +kernel
theorem dX6_isNoPlan_8 : decode cX6_isNoPlan 8 = .ok (.ifCond .eq 24, 3) := by decide +kernel
theorem dX6_isNoPlan_11 : decode cX6_isNoPlan 11 = .ok (.iload_n 2, 1) := by decide +kernel
theorem dX6_isNoPlan_12 : decode cX6_isNoPlan 12 = .ok (.iconst 1, 1) := by decide +kernel
theorem dX6_isNoPlan_13 : decode cX6_isNoPlan 13 = .ok (.bipush 6, 2) := by decide +kernel
theorem dX6_isNoPlan_15 : decode cX6_isNoPlan 15 = .ok (.invokestatic 26, 3) := by decide +kernel
theorem dX6_isNoPlan_18 : decode cX6_isNoPlan 18 = .ok (.ifCond .eq 14, 3) := by decide +kernel
theorem dX6_isNoPlan_21 : decode cX6_isNoPlan 21 = .ok (.iload_n 3, 1) := by decide +kernel
theorem dX6_isNoPlan_22 : decode cX6_isNoPlan 22 = .ok (.invokestatic 77, 3) := by decide +kernel
theorem dX6_isNoPlan_25 : decode cX6_isNoPlan 25 = .ok (.ifCond .eq 7, 3) := by decide +kernel
theorem dX6_isNoPlan_28 : decode cX6_isNoPlan 28 = .ok (.iconst 0, 1) := by decide +kernel
theorem dX6_isNoPlan_29 : decode cX6_isNoPlan 29 = .ok (.goto 4, 3) := by decide +kernel
theorem dX6_isNoPlan_32 : decode cX6_isNoPlan 32 = .ok (.iconst 1, 1) := by decide +kernel
theorem dX6_isNoPlan_33 : decode cX6_isNoPlan 33 = .ok (.invokevirtual 34, 3) := by decide +kernel
theorem dX6_isNoPlan_36 : decode cX6_isNoPlan 36 = .ok (.ireturn, 1) := by decide +kernel
theorem dX6_roomFound_0 : decode cX6_roomFound 0 = .ok (.aload_n 0, 1) := by decide +kernel
theorem dX6_roomFound_1 : decode cX6_roomFound 1 = .ok (.iload_n 1, 1) := by decide +kernel
theorem dX6_roomFound_2 : decode cX6_roomFound 2 = .ok (.iload_n 3, 1) := by decide +kernel
theorem dX6_roomFound_3 : decode cX6_roomFound 3 = .ok (.iload 4, 2) := by decide +kernel
theorem dX6_roomFound_5 : decode cX6_roomFound 5 = .ok (.iload_n 2, 1) := by decide +kernel
theorem dX6_roomFound_6 : decode cX6_roomFound 6 = .ok (.invokevirtual 83, 3) := by decide +kernel
theorem dX6_roomFound_9 : decode cX6_roomFound 9 = .ok (.ifCond .lt 7, 3) := by decide +kernel
theorem dX6_roomFound_12 : decode cX6_roomFound 12 = .ok (.iconst (-1), 1) := by decide +kernel
theorem dX6_roomFound_13 : decode cX6_roomFound 13 = .ok (.goto 12, 3) := by decide +kernel
theorem dX6_roomFound_16 : decode cX6_roomFound 16 = .ok (.aload_n 0, 1) := by decide +kernel
theorem dX6_roomFound_17 : decode cX6_roomFound 17 = .ok (.iload_n 1, 1) := by decide +kernel
theorem dX6_roomFound_18 : decode cX6_roomFound 18 = .ok (.iload_n 3, 1) := by decide +kernel
theorem dX6_roomFound_19 : decode cX6_roomFound 19 = .ok (.iload 4, 2) := by decide +kernel
theorem dX6_roomFound_21 : decode cX6_roomFound 21 = .ok (.iload_n 2, 1) := by decide +kernel
theorem dX6_roomFound_22 : decode cX6_roomFound 22 = .ok (.invokevirtual 89, 3) := by decide +kernel
theorem dX6_roomFound_25 : decode cX6_roomFound 25 = .ok (.ireturn, 1) := by decide +kernel
theorem dX6_firstCommon_0 : decode cX6_firstCommon 0 = .ok (.aload_n 0, 1) := by decide +kernel
theorem dX6_firstCommon_1 : decode cX6_firstCommon 1 = .ok (.iload_n 1, 1) := by decide +kernel
theorem dX6_firstCommon_2 : decode cX6_firstCommon 2 = .ok (.iload_n 2, 1) := by decide +kernel
theorem dX6_firstCommon_3 : decode cX6_firstCommon 3 = .ok (.iload_n 3, 1) := by decide +kernel
theorem dX6_firstCommon_4 : decode cX6_firstCommon 4 = .ok (.invokevirtual 123, 3) := by decide +kernel
theorem dX6_firstCommon_7 : decode cX6_firstCommon 7 = .ok (.ifCond .eq 5, 3) := by decide +kernel
theorem dX6_firstCommon_10 : decode cX6_firstCommon 10 = .ok (.iconst 0, 1) := by decide +kernel
theorem dX6_firstCommon_11 : decode cX6_firstCommon 11 = .ok (.ireturn, 1) := by decide +kernel
theorem dX6_firstCommon_12 : decode cX6_firstCommon 12 = .ok (.iload_n 3, 1) := by decide +kernel
theorem dX6_firstCommon_13 : decode cX6_firstCommon 13 = .ok (.istore 4, 2) := by decide +kernel
theorem dX6_firstCommon_15 : decode cX6_firstCommon 15 = .ok (.iload 4, 2) := by decide +kernel
theorem dX6_firstCommon_17 : decode cX6_firstCommon 17 = .ok (.bipush 28, 2) := by decide +kernel
theorem dX6_firstCommon_19 : decode cX6_firstCommon 19 = .ok (.if_icmp .ge 49, 3) := by decide +kernel
theorem dX6_firstCommon_22 : decode cX6_firstCommon 22 = .ok (.iconst 0, 1) := by decide +kernel
theorem dX6_firstCommon_23 : decode cX6_firstCommon 23 = .ok (.istore 5, 2) := by decide +kernel
theorem dX6_firstCommon_25 : decode cX6_firstCommon 25 = .ok (.iload 5, 2) := by decide +kernel
theorem dX6_firstCommon_27 : decode cX6_firstCommon 27 = .ok (.iload_n 2, 1) := by decide +kernel
theorem dX6_firstCommon_28 : decode cX6_firstCommon 28 = .ok (.iadd, 1) := by decide +kernel
theorem dX6_firstCommon_29 : decode cX6_firstCommon 29 = .ok (.bipush 16, 2) := by decide +kernel
theorem dX6_firstCommon_31 : decode cX6_firstCommon 31 = .ok (.if_icmp .gt 31, 3) := by decide +kernel
theorem dX6_firstCommon_34 : decode cX6_firstCommon 34 = .ok (.aload_n 0, 1) := by decide +kernel
theorem dX6_firstCommon_35 : decode cX6_firstCommon 35 = .ok (.iload_n 1, 1) := by decide +kernel
theorem dX6_firstCommon_36 : decode cX6_firstCommon 36 = .ok (.iload_n 2, 1) := by decide +kernel
theorem dX6_firstCommon_37 : decode cX6_firstCommon 37 = .ok (.iload 4, 2) := by decide +kernel
theorem dX6_firstCommon_39 : decode cX6_firstCommon 39 = .ok (.iload 5, 2) := by decide +kernel
theorem dX6_firstCommon_41 : decode cX6_firstCommon 41 = .ok (.invokevirtual 126, 3) := by decide +kernel
theorem dX6_firstCommon_44 : decode cX6_firstCommon 44 = .ok (.ifCond .lt 12, 3) := by decide +kernel
theorem dX6_firstCommon_47 : decode cX6_firstCommon 47 = .ok (.bipush 16, 2) := by decide +kernel
theorem dX6_firstCommon_49 : decode cX6_firstCommon 49 = .ok (.iload 4, 2) := by decide +kernel
theorem dX6_firstCommon_51 : decode cX6_firstCommon 51 = .ok (.imul, 1) := by decide +kernel
theorem dX6_firstCommon_52 : decode cX6_firstCommon 52 = .ok (.iload 5, 2) := by decide +kernel
theorem dX6_firstCommon_54 : decode cX6_firstCommon 54 = .ok (.iadd, 1) := by decide +kernel
theorem dX6_firstCommon_55 : decode cX6_firstCommon 55 = .ok (.ireturn, 1) := by decide +kernel
theorem dX6_firstCommon_56 : decode cX6_firstCommon 56 = .ok (.iinc 5 1, 3) := by decide +kernel
theorem dX6_firstCommon_59 : decode cX6_firstCommon 59 = .ok (.goto (-34), 3) := by decide +kernel
theorem dX6_firstCommon_62 : decode cX6_firstCommon 62 = .ok (.iinc 4 1, 3) := by decide +kernel
theorem dX6_firstCommon_65 : decode cX6_firstCommon 65 = .ok (.goto (-50), 3) := by decide +kernel
theorem dX6_firstCommon_68 : decode cX6_firstCommon 68 = .ok (.aload_n 0, 1) := by decide +kernel
theorem dX6_firstCommon_69 : decode cX6_firstCommon 69 = .ok (.iconst 2, 1) := by decide +kernel
theorem dX6_firstCommon_70 : decode cX6_firstCommon 70 = .ok (.putfield 23, 3) := by decide +kernel
theorem dX6_firstCommon_73 : decode cX6_firstCommon 73 = .ok (.iconst 0, 1) := by decide +kernel
theorem dX6_firstCommon_74 : decode cX6_firstCommon 74 = .ok (.ireturn, 1) := by decide +kernel
theorem dX6_commonCount_0 : decode cX6_commonCount 0 = .ok (.aload_n 0, 1) := by decide +kernel
theorem dX6_commonCount_1 : decode cX6_commonCount 1 = .ok (.iload_n 1, 1) := by decide +kernel
theorem dX6_commonCount_2 : decode cX6_commonCount 2 = .ok (.iload_n 2, 1) := by decide +kernel
theorem dX6_commonCount_3 : decode cX6_commonCount 3 = .ok (.iload_n 3, 1) := by decide +kernel
theorem dX6_commonCount_4 : decode cX6_commonCount 4 = .ok (.invokevirtual 123, 3) := by decide +kernel
theorem dX6_commonCount_7 : decode cX6_commonCount 7 = .ok (.ifCond .eq 5, 3) := by decide +kernel
theorem dX6_commonCount_10 : decode cX6_commonCount 10 = .ok (.iconst 0, 1) := by decide +kernel
theorem dX6_commonCount_11 : decode cX6_commonCount 11 = .ok (.ireturn, 1) := by decide +kernel
theorem dX6_commonCount_12 : decode cX6_commonCount 12 = .ok (.iconst 0, 1) := by decide +kernel
theorem dX6_commonCount_13 : decode cX6_commonCount 13 = .ok (.istore 4, 2) := by decide +kernel
theorem dX6_commonCount_15 : decode cX6_commonCount 15 = .ok (.iconst 0, 1) := by decide +kernel
theorem dX6_commonCount_16 : decode cX6_commonCount 16 = .ok (.istore 5, 2) := by decide +kernel
theorem dX6_commonCount_18 : decode cX6_commonCount 18 = .ok (.iload 5, 2) := by decide +kernel
theorem dX6_commonCount_20 : decode cX6_commonCount 20 = .ok (.iload_n 2, 1) := by decide +kernel
theorem dX6_commonCount_21 : decode cX6_commonCount 21 = .ok (.iadd, 1) := by decide +kernel
theorem dX6_commonCount_22 : decode cX6_commonCount 22 = .ok (.bipush 16, 2) := by decide +kernel
theorem dX6_commonCount_24 : decode cX6_commonCount 24 = .ok (.if_icmp .gt 31, 3) := by decide +kernel
theorem dX6_commonCount_27 : decode cX6_commonCount 27 = .ok (.iload 4, 2) := by decide +kernel
theorem dX6_commonCount_29 : decode cX6_commonCount 29 = .ok (.aload_n 0, 1) := by decide +kernel
theorem dX6_commonCount_30 : decode cX6_commonCount 30 = .ok (.iload_n 1, 1) := by decide +kernel
theorem dX6_commonCount_31 : decode cX6_commonCount 31 = .ok (.iload_n 2, 1) := by decide +kernel
theorem dX6_commonCount_32 : decode cX6_commonCount 32 = .ok (.iload_n 3, 1) := by decide +kernel
theorem dX6_commonCount_33 : decode cX6_commonCount 33 = .ok (.iload 5, 2) := by decide +kernel
theorem dX6_commonCount_35 : decode cX6_commonCount 35 = .ok (.invokevirtual 126, 3) := by decide +kernel
theorem dX6_commonCount_38 : decode cX6_commonCount 38 = .ok (.ifCond .lt 7, 3) := by decide +kernel
theorem dX6_commonCount_41 : decode cX6_commonCount 41 = .ok (.iconst 1, 1) := by decide +kernel
theorem dX6_commonCount_42 : decode cX6_commonCount 42 = .ok (.goto 4, 3) := by decide +kernel
theorem dX6_commonCount_45 : decode cX6_commonCount 45 = .ok (.iconst 0, 1) := by decide +kernel
theorem dX6_commonCount_46 : decode cX6_commonCount 46 = .ok (.iadd, 1) := by decide +kernel
theorem dX6_commonCount_47 : decode cX6_commonCount 47 = .ok (.istore 4, 2) := by decide +kernel
theorem dX6_commonCount_49 : decode cX6_commonCount 49 = .ok (.iinc 5 1, 3) := by decide +kernel
theorem dX6_commonCount_52 : decode cX6_commonCount 52 = .ok (.goto (-34), 3) := by decide +kernel
theorem dX6_commonCount_55 : decode cX6_commonCount 55 = .ok (.iload 4, 2) := by decide +kernel
theorem dX6_commonCount_57 : decode cX6_commonCount 57 = .ok (.ireturn, 1) := by decide +kernel
theorem dX6_roomFor_0 : decode cX6_roomFor 0 = .ok (.aload_n 0, 1) := by decide +kernel
theorem dX6_roomFor_1 : decode cX6_roomFor 1 = .ok (.iload_n 1, 1) := by decide +kernel
theorem dX6_roomFor_2 : decode cX6_roomFor 2 = .ok (.iload_n 2, 1) := by decide +kernel
theorem dX6_roomFor_3 : decode cX6_roomFor 3 = .ok (.iload_n 3, 1) := by decide +kernel
theorem dX6_roomFor_4 : decode cX6_roomFor 4 = .ok (.invokevirtual 123, 3) := by decide +kernel
theorem dX6_roomFor_7 : decode cX6_roomFor 7 = .ok (.ifCond .ne 32, 3) := by decide +kernel
theorem dX6_roomFor_10 : decode cX6_roomFor 10 = .ok (.aload_n 0, 1) := by decide +kernel
theorem dX6_roomFor_11 : decode cX6_roomFor 11 = .ok (.iload 4, 2) := by decide +kernel
theorem dX6_roomFor_13 : decode cX6_roomFor 13 = .ok (.invokestatic 80, 3) := by decide +kernel
theorem dX6_roomFor_16 : decode cX6_roomFor 16 = .ok (.ifCond .eq 16, 3) := by decide +kernel
theorem dX6_roomFor_19 : decode cX6_roomFor 19 = .ok (.iload 4, 2) := by decide +kernel
theorem dX6_roomFor_21 : decode cX6_roomFor 21 = .ok (.iload_n 2, 1) := by decide +kernel
theorem dX6_roomFor_22 : decode cX6_roomFor 22 = .ok (.iadd, 1) := by decide +kernel
theorem dX6_roomFor_23 : decode cX6_roomFor 23 = .ok (.bipush 16, 2) := by decide +kernel
theorem dX6_roomFor_25 : decode cX6_roomFor 25 = .ok (.if_icmp .gt 7, 3) := by decide +kernel
theorem dX6_roomFor_28 : decode cX6_roomFor 28 = .ok (.iconst 0, 1) := by decide +kernel
theorem dX6_roomFor_29 : decode cX6_roomFor 29 = .ok (.goto 4, 3) := by decide +kernel
theorem dX6_roomFor_32 : decode cX6_roomFor 32 = .ok (.iconst 1, 1) := by decide +kernel
theorem dX6_roomFor_33 : decode cX6_roomFor 33 = .ok (.invokevirtual 34, 3) := by decide +kernel
theorem dX6_roomFor_36 : decode cX6_roomFor 36 = .ok (.ifCond .eq 5, 3) := by decide +kernel
theorem dX6_roomFor_39 : decode cX6_roomFor 39 = .ok (.iconst 0, 1) := by decide +kernel
theorem dX6_roomFor_40 : decode cX6_roomFor 40 = .ok (.ireturn, 1) := by decide +kernel
theorem dX6_roomFor_41 : decode cX6_roomFor 41 = .ok (.aload_n 0, 1) := by decide +kernel
theorem dX6_roomFor_42 : decode cX6_roomFor 42 = .ok (.iload_n 1, 1) := by decide +kernel
theorem dX6_roomFor_43 : decode cX6_roomFor 43 = .ok (.iload_n 2, 1) := by decide +kernel
theorem dX6_roomFor_44 : decode cX6_roomFor 44 = .ok (.iload_n 3, 1) := by decide +kernel
theorem dX6_roomFor_45 : decode cX6_roomFor 45 = .ok (.iload 4, 2) := by decide +kernel
theorem dX6_roomFor_47 : decode cX6_roomFor 47 = .ok (.invokevirtual 126, 3) := by decide +kernel
theorem dX6_roomFor_50 : decode cX6_roomFor 50 = .ok (.istore 5, 2) := by decide +kernel
theorem dX6_roomFor_52 : decode cX6_roomFor 52 = .ok (.aload_n 0, 1) := by decide +kernel
theorem dX6_roomFor_53 : decode cX6_roomFor 53 = .ok (.iload 5, 2) := by decide +kernel
theorem dX6_roomFor_55 : decode cX6_roomFor 55 = .ok (.ifCond .ge 7, 3) := by decide +kernel
theorem dX6_roomFor_58 : decode cX6_roomFor 58 = .ok (.iconst 2, 1) := by decide +kernel
theorem dX6_roomFor_59 : decode cX6_roomFor 59 = .ok (.goto 4, 3) := by decide +kernel
theorem dX6_roomFor_62 : decode cX6_roomFor 62 = .ok (.iconst 0, 1) := by decide +kernel
theorem dX6_roomFor_63 : decode cX6_roomFor 63 = .ok (.invokevirtual 34, 3) := by decide +kernel
theorem dX6_roomFor_66 : decode cX6_roomFor 66 = .ok (.ifCond .eq 7, 3) := by decide +kernel
theorem dX6_roomFor_69 : decode cX6_roomFor 69 = .ok (.iconst 0, 1) := by decide +kernel
theorem dX6_roomFor_70 : decode cX6_roomFor 70 = .ok (.goto 5, 3) := by decide +kernel
theorem dX6_roomFor_73 : decode cX6_roomFor 73 = .ok (.iload 5, 2) := by decide +kernel
theorem dX6_roomFor_75 : decode cX6_roomFor 75 = .ok (.ireturn, 1) := by decide +kernel
theorem dX6_usedTimes_0 : decode cX6_usedTimes 0 = .ok (.aload_n 0, 1) := by decide +kernel
theorem dX6_usedTimes_1 : decode cX6_usedTimes 1 = .ok (.iload_n 1, 1) := by decide +kernel
theorem dX6_usedTimes_2 : decode cX6_usedTimes 2 = .ok (.invokestatic 30, 3) := by decide +kernel
theorem dX6_usedTimes_5 : decode cX6_usedTimes 5 = .ok (.ifCond .eq 14, 3) := by decide +kernel
theorem dX6_usedTimes_8 : decode cX6_usedTimes 8 = .ok (.iload_n 2, 1) := by decide +kernel
theorem dX6_usedTimes_9 : decode cX6_usedTimes 9 = .ok (.invokestatic 77, 3) := by decide +kernel
theorem dX6_usedTimes_12 : decode cX6_usedTimes 12 = .ok (.ifCond .eq 7, 3) := by decide +kernel
theorem dX6_usedTimes_15 : decode cX6_usedTimes 15 = .ok (.iconst 0, 1) := by decide +kernel
theorem dX6_usedTimes_16 : decode cX6_usedTimes 16 = .ok (.goto 4, 3) := by decide +kernel
theorem dX6_usedTimes_19 : decode cX6_usedTimes 19 = .ok (.iconst 1, 1) := by decide +kernel
theorem dX6_usedTimes_20 : decode cX6_usedTimes 20 = .ok (.invokevirtual 34, 3) := by decide +kernel
theorem dX6_usedTimes_23 : decode cX6_usedTimes 23 = .ok (.ifCond .eq 5, 3) := by decide +kernel
theorem dX6_usedTimes_26 : decode cX6_usedTimes 26 = .ok (.iconst 0, 1) := by decide +kernel
theorem dX6_usedTimes_27 : decode cX6_usedTimes 27 = .ok (.ireturn, 1) := by decide +kernel
theorem dX6_usedTimes_28 : decode cX6_usedTimes 28 = .ok (.iconst 0, 1) := by decide +kernel
theorem dX6_usedTimes_29 : decode cX6_usedTimes 29 = .ok (.istore_n 3, 1) := by decide +kernel
theorem dX6_usedTimes_30 : decode cX6_usedTimes 30 = .ok (.iconst 0, 1) := by decide +kernel
theorem dX6_usedTimes_31 : decode cX6_usedTimes 31 = .ok (.istore 4, 2) := by decide +kernel
theorem dX6_usedTimes_33 : decode cX6_usedTimes 33 = .ok (.iload 4, 2) := by decide +kernel
theorem dX6_usedTimes_35 : decode cX6_usedTimes 35 = .ok (.bipush 16, 2) := by decide +kernel
theorem dX6_usedTimes_37 : decode cX6_usedTimes 37 = .ok (.if_icmp .ge 115, 3) := by decide +kernel
theorem dX6_usedTimes_40 : decode cX6_usedTimes 40 = .ok (.iconst 0, 1) := by decide +kernel
theorem dX6_usedTimes_41 : decode cX6_usedTimes 41 = .ok (.istore 5, 2) := by decide +kernel
theorem dX6_usedTimes_43 : decode cX6_usedTimes 43 = .ok (.iconst 0, 1) := by decide +kernel
theorem dX6_usedTimes_44 : decode cX6_usedTimes 44 = .ok (.istore 6, 2) := by decide +kernel
theorem dX6_usedTimes_46 : decode cX6_usedTimes 46 = .ok (.iload 6, 2) := by decide +kernel
theorem dX6_usedTimes_48 : decode cX6_usedTimes 48 = .ok (.aload_n 0, 1) := by decide +kernel
theorem dX6_usedTimes_49 : decode cX6_usedTimes 49 = .ok (.getfield 7, 3) := by decide +kernel
theorem dX6_usedTimes_52 : decode cX6_usedTimes 52 = .ok (.iconst 1, 1) := by decide +kernel
theorem dX6_usedTimes_53 : decode cX6_usedTimes 53 = .ok (.iaload, 1) := by decide +kernel
theorem dX6_usedTimes_54 : decode cX6_usedTimes 54 = .ok (.if_icmp .ge 79, 3) := by decide +kernel
theorem dX6_usedTimes_57 : decode cX6_usedTimes 57 = .ok (.iconst 0, 1) := by decide +kernel
theorem dX6_usedTimes_58 : decode cX6_usedTimes 58 = .ok (.istore 7, 2) := by decide +kernel
theorem dX6_usedTimes_60 : decode cX6_usedTimes 60 = .ok (.iload 7, 2) := by decide +kernel
theorem dX6_usedTimes_62 : decode cX6_usedTimes 62 = .ok (.aload_n 0, 1) := by decide +kernel
theorem dX6_usedTimes_63 : decode cX6_usedTimes 63 = .ok (.iload 6, 2) := by decide +kernel
theorem dX6_usedTimes_65 : decode cX6_usedTimes 65 = .ok (.iconst 3, 1) := by decide +kernel
theorem dX6_usedTimes_66 : decode cX6_usedTimes 66 = .ok (.invokevirtual 37, 3) := by decide +kernel
theorem dX6_usedTimes_69 : decode cX6_usedTimes 69 = .ok (.if_icmp .ge 58, 3) := by decide +kernel
theorem dX6_usedTimes_72 : decode cX6_usedTimes 72 = .ok (.iload 5, 2) := by decide +kernel
theorem dX6_usedTimes_74 : decode cX6_usedTimes 74 = .ok (.aload_n 0, 1) := by decide +kernel
theorem dX6_usedTimes_75 : decode cX6_usedTimes 75 = .ok (.iload 6, 2) := by decide +kernel
theorem dX6_usedTimes_77 : decode cX6_usedTimes 77 = .ok (.iload 7, 2) := by decide +kernel
theorem dX6_usedTimes_79 : decode cX6_usedTimes 79 = .ok (.iload_n 2, 1) := by decide +kernel
theorem dX6_usedTimes_80 : decode cX6_usedTimes 80 = .ok (.invokevirtual 52, 3) := by decide +kernel
theorem dX6_usedTimes_83 : decode cX6_usedTimes 83 = .ok (.ifCond .eq 34, 3) := by decide +kernel
theorem dX6_usedTimes_86 : decode cX6_usedTimes 86 = .ok (.aload_n 0, 1) := by decide +kernel
theorem dX6_usedTimes_87 : decode cX6_usedTimes 87 = .ok (.iload 6, 2) := by decide +kernel
theorem dX6_usedTimes_89 : decode cX6_usedTimes 89 = .ok (.iload 7, 2) := by decide +kernel
theorem dX6_usedTimes_91 : decode cX6_usedTimes 91 = .ok (.iconst 3, 1) := by decide +kernel
theorem dX6_usedTimes_92 : decode cX6_usedTimes 92 = .ok (.invokevirtual 45, 3) := by decide +kernel
theorem dX6_usedTimes_95 : decode cX6_usedTimes 95 = .ok (.iload_n 1, 1) := by decide +kernel
theorem dX6_usedTimes_96 : decode cX6_usedTimes 96 = .ok (.if_icmp .ne 21, 3) := by decide +kernel
theorem dX6_usedTimes_99 : decode cX6_usedTimes 99 = .ok (.aload_n 0, 1) := by decide +kernel
theorem dX6_usedTimes_100 : decode cX6_usedTimes 100 = .ok (.iload 6, 2) := by decide +kernel
theorem dX6_usedTimes_102 : decode cX6_usedTimes 102 = .ok (.iload 7, 2) := by decide +kernel
theorem dX6_usedTimes_104 : decode cX6_usedTimes 104 = .ok (.iload 4, 2) := by decide +kernel
theorem dX6_usedTimes_106 : decode cX6_usedTimes 106 = .ok (.iconst 1, 1) := by decide +kernel
theorem dX6_usedTimes_107 : decode cX6_usedTimes 107 = .ok (.invokevirtual 55, 3) := by decide +kernel
theorem dX6_usedTimes_110 : decode cX6_usedTimes 110 = .ok (.ifCond .ge 7, 3) := by decide +kernel
theorem dX6_usedTimes_113 : decode cX6_usedTimes 113 = .ok (.iconst 1, 1) := by decide +kernel
theorem dX6_usedTimes_114 : decode cX6_usedTimes 114 = .ok (.goto 4, 3) := by decide +kernel
theorem dX6_usedTimes_117 : decode cX6_usedTimes 117 = .ok (.iconst 0, 1) := by decide +kernel
theorem dX6_usedTimes_118 : decode cX6_usedTimes 118 = .ok (.ior, 1) := by decide +kernel
theorem dX6_usedTimes_119 : decode cX6_usedTimes 119 = .ok (.istore 5, 2) := by decide +kernel
theorem dX6_usedTimes_121 : decode cX6_usedTimes 121 = .ok (.iinc 7 1, 3) := by decide +kernel
theorem dX6_usedTimes_124 : decode cX6_usedTimes 124 = .ok (.goto (-64), 3) := by decide +kernel
theorem dX6_usedTimes_127 : decode cX6_usedTimes 127 = .ok (.iinc 6 1, 3) := by decide +kernel
theorem dX6_usedTimes_130 : decode cX6_usedTimes 130 = .ok (.goto (-84), 3) := by decide +kernel
theorem dX6_usedTimes_133 : decode cX6_usedTimes 133 = .ok (.iload_n 3, 1) := by decide +kernel
theorem dX6_usedTimes_134 : decode cX6_usedTimes 134 = .ok (.iload 5, 2) := by decide +kernel
theorem dX6_usedTimes_136 : decode cX6_usedTimes 136 = .ok (.ifCond .eq 7, 3) := by decide +kernel
theorem dX6_usedTimes_139 : decode cX6_usedTimes 139 = .ok (.iconst 1, 1) := by decide +kernel
theorem dX6_usedTimes_140 : decode cX6_usedTimes 140 = .ok (.goto 4, 3) := by decide +kernel
theorem dX6_usedTimes_143 : decode cX6_usedTimes 143 = .ok (.iconst 0, 1) := by decide +kernel
theorem dX6_usedTimes_144 : decode cX6_usedTimes 144 = .ok (.iadd, 1) := by decide +kernel
theorem dX6_usedTimes_145 : decode cX6_usedTimes 145 = .ok (.istore_n 3, 1) := by decide +kernel
theorem dX6_usedTimes_146 : decode cX6_usedTimes 146 = .ok (.iinc 4 1, 3) := by decide +kernel
theorem dX6_usedTimes_149 : decode cX6_usedTimes 149 = .ok (.goto (-116), 3) := by decide +kernel
theorem dX6_usedTimes_152 : decode cX6_usedTimes 152 = .ok (.iload_n 3, 1) := by decide +kernel
theorem dX6_usedTimes_153 : decode cX6_usedTimes 153 = .ok (.ireturn, 1) := by decide +kernel
theorem dX6_walks_0 : decode cX6_walks 0 = .ok (.aload_n 0, 1) := by decide +kernel
theorem dX6_walks_1 : decode cX6_walks 1 = .ok (.iload_n 1, 1) := by decide +kernel
theorem dX6_walks_2 : decode cX6_walks 2 = .ok (.invokestatic 74, 3) := by decide +kernel
theorem dX6_walks_5 : decode cX6_walks 5 = .ok (.ifCond .eq 14, 3) := by decide +kernel
theorem dX6_walks_8 : decode cX6_walks 8 = .ok (.iload_n 2, 1) := by decide +kernel
theorem dX6_walks_9 : decode cX6_walks 9 = .ok (.invokestatic 77, 3) := by decide +kernel
theorem dX6_walks_12 : decode cX6_walks 12 = .ok (.ifCond .eq 7, 3) := by decide +kernel
theorem dX6_walks_15 : decode cX6_walks 15 = .ok (.iconst 0, 1) := by decide +kernel
theorem dX6_walks_16 : decode cX6_walks 16 = .ok (.goto 4, 3) := by decide +kernel
theorem dX6_walks_19 : decode cX6_walks 19 = .ok (.iconst 1, 1) := by decide +kernel
theorem dX6_walks_20 : decode cX6_walks 20 = .ok (.invokevirtual 34, 3) := by decide +kernel
theorem dX6_walks_23 : decode cX6_walks 23 = .ok (.ifCond .eq 5, 3) := by decide +kernel
theorem dX6_walks_26 : decode cX6_walks 26 = .ok (.iconst 0, 1) := by decide +kernel
theorem dX6_walks_27 : decode cX6_walks 27 = .ok (.ireturn, 1) := by decide +kernel
theorem dX6_walks_28 : decode cX6_walks 28 = .ok (.iconst 0, 1) := by decide +kernel
theorem dX6_walks_29 : decode cX6_walks 29 = .ok (.istore_n 3, 1) := by decide +kernel
theorem dX6_walks_30 : decode cX6_walks 30 = .ok (.iconst (-1), 1) := by decide +kernel
theorem dX6_walks_31 : decode cX6_walks 31 = .ok (.istore 4, 2) := by decide +kernel
theorem dX6_walks_33 : decode cX6_walks 33 = .ok (.iconst 0, 1) := by decide +kernel
theorem dX6_walks_34 : decode cX6_walks 34 = .ok (.istore 5, 2) := by decide +kernel
theorem dX6_walks_36 : decode cX6_walks 36 = .ok (.iload 5, 2) := by decide +kernel
theorem dX6_walks_38 : decode cX6_walks 38 = .ok (.bipush 16, 2) := by decide +kernel
theorem dX6_walks_40 : decode cX6_walks 40 = .ok (.if_icmp .ge 132, 3) := by decide +kernel
theorem dX6_walks_43 : decode cX6_walks 43 = .ok (.iconst 0, 1) := by decide +kernel
theorem dX6_walks_44 : decode cX6_walks 44 = .ok (.istore 6, 2) := by decide +kernel
theorem dX6_walks_46 : decode cX6_walks 46 = .ok (.iload 6, 2) := by decide +kernel
theorem dX6_walks_48 : decode cX6_walks 48 = .ok (.aload_n 0, 1) := by decide +kernel
theorem dX6_walks_49 : decode cX6_walks 49 = .ok (.getfield 7, 3) := by decide +kernel
theorem dX6_walks_52 : decode cX6_walks 52 = .ok (.iconst 1, 1) := by decide +kernel
theorem dX6_walks_53 : decode cX6_walks 53 = .ok (.iaload, 1) := by decide +kernel
theorem dX6_walks_54 : decode cX6_walks 54 = .ok (.if_icmp .ge 112, 3) := by decide +kernel
theorem dX6_walks_57 : decode cX6_walks 57 = .ok (.iconst 0, 1) := by decide +kernel
theorem dX6_walks_58 : decode cX6_walks 58 = .ok (.istore 7, 2) := by decide +kernel
theorem dX6_walks_60 : decode cX6_walks 60 = .ok (.iload 7, 2) := by decide +kernel
theorem dX6_walks_62 : decode cX6_walks 62 = .ok (.aload_n 0, 1) := by decide +kernel
theorem dX6_walks_63 : decode cX6_walks 63 = .ok (.iload 6, 2) := by decide +kernel
theorem dX6_walks_65 : decode cX6_walks 65 = .ok (.iconst 3, 1) := by decide +kernel
theorem dX6_walks_66 : decode cX6_walks 66 = .ok (.invokevirtual 37, 3) := by decide +kernel
theorem dX6_walks_69 : decode cX6_walks 69 = .ok (.if_icmp .ge 91, 3) := by decide +kernel
theorem dX6_walks_72 : decode cX6_walks 72 = .ok (.aload_n 0, 1) := by decide +kernel
theorem dX6_walks_73 : decode cX6_walks 73 = .ok (.iload 6, 2) := by decide +kernel
theorem dX6_walks_75 : decode cX6_walks 75 = .ok (.iload_n 1, 1) := by decide +kernel
theorem dX6_walks_76 : decode cX6_walks 76 = .ok (.invokevirtual 41, 3) := by decide +kernel
theorem dX6_walks_79 : decode cX6_walks 79 = .ok (.ifCond .eq 75, 3) := by decide +kernel
theorem dX6_walks_82 : decode cX6_walks 82 = .ok (.aload_n 0, 1) := by decide +kernel
theorem dX6_walks_83 : decode cX6_walks 83 = .ok (.iload 6, 2) := by decide +kernel
theorem dX6_walks_85 : decode cX6_walks 85 = .ok (.iload 7, 2) := by decide +kernel
theorem dX6_walks_87 : decode cX6_walks 87 = .ok (.iload_n 2, 1) := by decide +kernel
theorem dX6_walks_88 : decode cX6_walks 88 = .ok (.invokevirtual 52, 3) := by decide +kernel
theorem dX6_walks_91 : decode cX6_walks 91 = .ok (.ifCond .eq 63, 3) := by decide +kernel
theorem dX6_walks_94 : decode cX6_walks 94 = .ok (.aload_n 0, 1) := by decide +kernel
theorem dX6_walks_95 : decode cX6_walks 95 = .ok (.iload 6, 2) := by decide +kernel
theorem dX6_walks_97 : decode cX6_walks 97 = .ok (.iload 7, 2) := by decide +kernel
theorem dX6_walks_99 : decode cX6_walks 99 = .ok (.iconst 1, 1) := by decide +kernel
theorem dX6_walks_100 : decode cX6_walks 100 = .ok (.invokevirtual 45, 3) := by decide +kernel
theorem dX6_walks_103 : decode cX6_walks 103 = .ok (.iload 5, 2) := by decide +kernel
theorem dX6_walks_105 : decode cX6_walks 105 = .ok (.if_icmp .eq 6, 3) := by decide +kernel
theorem dX6_walks_108 : decode cX6_walks 108 = .ok (.goto 46, 3) := by decide +kernel
theorem dX6_walks_111 : decode cX6_walks 111 = .ok (.aload_n 0, 1) := by decide +kernel
theorem dX6_walks_112 : decode cX6_walks 112 = .ok (.getfield 7, 3) := by decide +kernel
theorem dX6_walks_115 : decode cX6_walks 115 = .ok (.bipush 9, 2) := by decide +kernel
theorem dX6_walks_117 : decode cX6_walks 117 = .ok (.aload_n 0, 1) := by decide +kernel
theorem dX6_walks_118 : decode cX6_walks 118 = .ok (.iload 6, 2) := by decide +kernel
theorem dX6_walks_120 : decode cX6_walks 120 = .ok (.iload 7, 2) := by decide +kernel
theorem dX6_walks_122 : decode cX6_walks 122 = .ok (.iconst 3, 1) := by decide +kernel
theorem dX6_walks_123 : decode cX6_walks 123 = .ok (.invokevirtual 45, 3) := by decide +kernel
theorem dX6_walks_126 : decode cX6_walks 126 = .ok (.iadd, 1) := by decide +kernel
theorem dX6_walks_127 : decode cX6_walks 127 = .ok (.iaload, 1) := by decide +kernel
theorem dX6_walks_128 : decode cX6_walks 128 = .ok (.istore 8, 2) := by decide +kernel
theorem dX6_walks_130 : decode cX6_walks 130 = .ok (.iload_n 3, 1) := by decide +kernel
theorem dX6_walks_131 : decode cX6_walks 131 = .ok (.iload 4, 2) := by decide +kernel
theorem dX6_walks_133 : decode cX6_walks 133 = .ok (.ifCond .lt 14, 3) := by decide +kernel
theorem dX6_walks_136 : decode cX6_walks 136 = .ok (.iload 4, 2) := by decide +kernel
theorem dX6_walks_138 : decode cX6_walks 138 = .ok (.iload 8, 2) := by decide +kernel
theorem dX6_walks_140 : decode cX6_walks 140 = .ok (.if_icmp .eq 7, 3) := by decide +kernel
theorem dX6_walks_143 : decode cX6_walks 143 = .ok (.iconst 1, 1) := by decide +kernel
theorem dX6_walks_144 : decode cX6_walks 144 = .ok (.goto 4, 3) := by decide +kernel
theorem dX6_walks_147 : decode cX6_walks 147 = .ok (.iconst 0, 1) := by decide +kernel
theorem dX6_walks_148 : decode cX6_walks 148 = .ok (.iadd, 1) := by decide +kernel
theorem dX6_walks_149 : decode cX6_walks 149 = .ok (.istore_n 3, 1) := by decide +kernel
theorem dX6_walks_150 : decode cX6_walks 150 = .ok (.iload 8, 2) := by decide +kernel
theorem dX6_walks_152 : decode cX6_walks 152 = .ok (.istore 4, 2) := by decide +kernel
theorem dX6_walks_154 : decode cX6_walks 154 = .ok (.iinc 7 1, 3) := by decide +kernel
theorem dX6_walks_157 : decode cX6_walks 157 = .ok (.goto (-97), 3) := by decide +kernel
theorem dX6_walks_160 : decode cX6_walks 160 = .ok (.iinc 6 1, 3) := by decide +kernel
theorem dX6_walks_163 : decode cX6_walks 163 = .ok (.goto (-117), 3) := by decide +kernel
theorem dX6_walks_166 : decode cX6_walks 166 = .ok (.iinc 5 1, 3) := by decide +kernel
theorem dX6_walks_169 : decode cX6_walks 169 = .ok (.goto (-133), 3) := by decide +kernel
theorem dX6_walks_172 : decode cX6_walks 172 = .ok (.iload_n 3, 1) := by decide +kernel
theorem dX6_walks_173 : decode cX6_walks 173 = .ok (.ireturn, 1) := by decide +kernel
theorem dX6_sittings_0 : decode cX6_sittings 0 = .ok (.aload_n 0, 1) := by decide +kernel
theorem dX6_sittings_1 : decode cX6_sittings 1 = .ok (.iconst 0, 1) := by decide +kernel
theorem dX6_sittings_2 : decode cX6_sittings 2 = .ok (.putfield 23, 3) := by decide +kernel
theorem dX6_sittings_5 : decode cX6_sittings 5 = .ok (.iconst 0, 1) := by decide +kernel
theorem dX6_sittings_6 : decode cX6_sittings 6 = .ok (.istore_n 1, 1) := by decide +kernel
theorem dX6_sittings_7 : decode cX6_sittings 7 = .ok (.iconst 0, 1) := by decide +kernel
theorem dX6_sittings_8 : decode cX6_sittings 8 = .ok (.istore_n 2, 1) := by decide +kernel
theorem dX6_sittings_9 : decode cX6_sittings 9 = .ok (.iload_n 2, 1) := by decide +kernel
theorem dX6_sittings_10 : decode cX6_sittings 10 = .ok (.aload_n 0, 1) := by decide +kernel
theorem dX6_sittings_11 : decode cX6_sittings 11 = .ok (.getfield 7, 3) := by decide +kernel
theorem dX6_sittings_14 : decode cX6_sittings 14 = .ok (.iconst 1, 1) := by decide +kernel
theorem dX6_sittings_15 : decode cX6_sittings 15 = .ok (.iaload, 1) := by decide +kernel
theorem dX6_sittings_16 : decode cX6_sittings 16 = .ok (.if_icmp .ge 58, 3) := by decide +kernel
theorem dX6_sittings_19 : decode cX6_sittings 19 = .ok (.iconst 0, 1) := by decide +kernel
theorem dX6_sittings_20 : decode cX6_sittings 20 = .ok (.istore_n 3, 1) := by decide +kernel
theorem dX6_sittings_21 : decode cX6_sittings 21 = .ok (.iload_n 3, 1) := by decide +kernel
theorem dX6_sittings_22 : decode cX6_sittings 22 = .ok (.aload_n 0, 1) := by decide +kernel
theorem dX6_sittings_23 : decode cX6_sittings 23 = .ok (.iload_n 2, 1) := by decide +kernel
theorem dX6_sittings_24 : decode cX6_sittings 24 = .ok (.iconst 3, 1) := by decide +kernel
theorem dX6_sittings_25 : decode cX6_sittings 25 = .ok (.invokevirtual 37, 3) := by decide +kernel
theorem dX6_sittings_28 : decode cX6_sittings 28 = .ok (.if_icmp .ge 40, 3) := by decide +kernel
theorem dX6_sittings_31 : decode cX6_sittings 31 = .ok (.iload_n 1, 1) := by decide +kernel
theorem dX6_sittings_32 : decode cX6_sittings 32 = .ok (.aload_n 0, 1) := by decide +kernel
theorem dX6_sittings_33 : decode cX6_sittings 33 = .ok (.iload_n 2, 1) := by decide +kernel
theorem dX6_sittings_34 : decode cX6_sittings 34 = .ok (.iload_n 3, 1) := by decide +kernel
theorem dX6_sittings_35 : decode cX6_sittings 35 = .ok (.invokevirtual 49, 3) := by decide +kernel
theorem dX6_sittings_38 : decode cX6_sittings 38 = .ok (.ifCond .eq 21, 3) := by decide +kernel
theorem dX6_sittings_41 : decode cX6_sittings 41 = .ok (.aload_n 0, 1) := by decide +kernel
theorem dX6_sittings_42 : decode cX6_sittings 42 = .ok (.iload_n 2, 1) := by decide +kernel
theorem dX6_sittings_43 : decode cX6_sittings 43 = .ok (.iconst 2, 1) := by decide +kernel
theorem dX6_sittings_44 : decode cX6_sittings 44 = .ok (.invokevirtual 37, 3) := by decide +kernel
theorem dX6_sittings_47 : decode cX6_sittings 47 = .ok (.aload_n 0, 1) := by decide +kernel
theorem dX6_sittings_48 : decode cX6_sittings 48 = .ok (.iload_n 2, 1) := by decide +kernel
theorem dX6_sittings_49 : decode cX6_sittings 49 = .ok (.invokevirtual 59, 3) := by decide +kernel
theorem dX6_sittings_52 : decode cX6_sittings 52 = .ok (.invokestatic 63, 3) := by decide +kernel
theorem dX6_sittings_55 : decode cX6_sittings 55 = .ok (.imul, 1) := by decide +kernel
theorem dX6_sittings_56 : decode cX6_sittings 56 = .ok (.goto 4, 3) := by decide +kernel
theorem dX6_sittings_59 : decode cX6_sittings 59 = .ok (.iconst 0, 1) := by decide +kernel
theorem dX6_sittings_60 : decode cX6_sittings 60 = .ok (.iadd, 1) := by decide +kernel
theorem dX6_sittings_61 : decode cX6_sittings 61 = .ok (.istore_n 1, 1) := by decide +kernel
theorem dX6_sittings_62 : decode cX6_sittings 62 = .ok (.iinc 3 1, 3) := by decide +kernel
theorem dX6_sittings_65 : decode cX6_sittings 65 = .ok (.goto (-44), 3) := by decide +kernel
theorem dX6_sittings_68 : decode cX6_sittings 68 = .ok (.iinc 2 1, 3) := by decide +kernel
theorem dX6_sittings_71 : decode cX6_sittings 71 = .ok (.goto (-62), 3) := by decide +kernel
theorem dX6_sittings_74 : decode cX6_sittings 74 = .ok (.iload_n 1, 1) := by decide +kernel
theorem dX6_sittings_75 : decode cX6_sittings 75 = .ok (.i2l, 1) := by decide +kernel
theorem dX6_sittings_76 : decode cX6_sittings 76 = .ok (.lreturn, 1) := by decide +kernel
theorem dX6_meanExpected_0 : decode cX6_meanExpected 0 = .ok (.aload_n 0, 1) := by decide +kernel
theorem dX6_meanExpected_1 : decode cX6_meanExpected 1 = .ok (.aload_n 0, 1) := by decide +kernel
theorem dX6_meanExpected_2 : decode cX6_meanExpected 2 = .ok (.getfield 7, 3) := by decide +kernel
theorem dX6_meanExpected_5 : decode cX6_meanExpected 5 = .ok (.iconst 1, 1) := by decide +kernel
theorem dX6_meanExpected_6 : decode cX6_meanExpected 6 = .ok (.iaload, 1) := by decide +kernel
theorem dX6_meanExpected_7 : decode cX6_meanExpected 7 = .ok (.ifCond .ne 7, 3) := by decide +kernel
theorem dX6_meanExpected_10 : decode cX6_meanExpected 10 = .ok (.iconst 1, 1) := by decide +kernel
theorem dX6_meanExpected_11 : decode cX6_meanExpected 11 = .ok (.goto 4, 3) := by decide +kernel
theorem dX6_meanExpected_14 : decode cX6_meanExpected 14 = .ok (.iconst 0, 1) := by decide +kernel
theorem dX6_meanExpected_15 : decode cX6_meanExpected 15 = .ok (.invokevirtual 34, 3) := by decide +kernel
theorem dX6_meanExpected_18 : decode cX6_meanExpected 18 = .ok (.ifCond .eq 5, 3) := by decide +kernel
theorem dX6_meanExpected_21 : decode cX6_meanExpected 21 = .ok (.dconst 0, 1) := by decide +kernel
theorem dX6_meanExpected_22 : decode cX6_meanExpected 22 = .ok (.dreturn, 1) := by decide +kernel
theorem dX6_meanExpected_23 : decode cX6_meanExpected 23 = .ok (.iconst 0, 1) := by decide +kernel
theorem dX6_meanExpected_24 : decode cX6_meanExpected 24 = .ok (.istore_n 1, 1) := by decide +kernel
theorem dX6_meanExpected_25 : decode cX6_meanExpected 25 = .ok (.iconst 0, 1) := by decide +kernel
theorem dX6_meanExpected_26 : decode cX6_meanExpected 26 = .ok (.istore_n 2, 1) := by decide +kernel
theorem dX6_meanExpected_27 : decode cX6_meanExpected 27 = .ok (.iload_n 2, 1) := by decide +kernel
theorem dX6_meanExpected_28 : decode cX6_meanExpected 28 = .ok (.aload_n 0, 1) := by decide +kernel
theorem dX6_meanExpected_29 : decode cX6_meanExpected 29 = .ok (.getfield 7, 3) := by decide +kernel
theorem dX6_meanExpected_32 : decode cX6_meanExpected 32 = .ok (.iconst 1, 1) := by decide +kernel
theorem dX6_meanExpected_33 : decode cX6_meanExpected 33 = .ok (.iaload, 1) := by decide +kernel
theorem dX6_meanExpected_34 : decode cX6_meanExpected 34 = .ok (.if_icmp .ge 20, 3) := by decide +kernel
theorem dX6_meanExpected_37 : decode cX6_meanExpected 37 = .ok (.iload_n 1, 1) := by decide +kernel
theorem dX6_meanExpected_38 : decode cX6_meanExpected 38 = .ok (.aload_n 0, 1) := by decide +kernel
theorem dX6_meanExpected_39 : decode cX6_meanExpected 39 = .ok (.iload_n 2, 1) := by decide +kernel
theorem dX6_meanExpected_40 : decode cX6_meanExpected 40 = .ok (.invokevirtual 59, 3) := by decide +kernel
theorem dX6_meanExpected_43 : decode cX6_meanExpected 43 = .ok (.invokestatic 63, 3) := by decide +kernel
theorem dX6_meanExpected_46 : decode cX6_meanExpected 46 = .ok (.iadd, 1) := by decide +kernel
theorem dX6_meanExpected_47 : decode cX6_meanExpected 47 = .ok (.istore_n 1, 1) := by decide +kernel
theorem dX6_meanExpected_48 : decode cX6_meanExpected 48 = .ok (.iinc 2 1, 3) := by decide +kernel
theorem dX6_meanExpected_51 : decode cX6_meanExpected 51 = .ok (.goto (-24), 3) := by decide +kernel
theorem dX6_meanExpected_54 : decode cX6_meanExpected 54 = .ok (.iload_n 1, 1) := by decide +kernel
theorem dX6_meanExpected_55 : decode cX6_meanExpected 55 = .ok (.i2d, 1) := by decide +kernel
theorem dX6_meanExpected_56 : decode cX6_meanExpected 56 = .ok (.aload_n 0, 1) := by decide +kernel
theorem dX6_meanExpected_57 : decode cX6_meanExpected 57 = .ok (.getfield 7, 3) := by decide +kernel
theorem dX6_meanExpected_60 : decode cX6_meanExpected 60 = .ok (.iconst 1, 1) := by decide +kernel
theorem dX6_meanExpected_61 : decode cX6_meanExpected 61 = .ok (.iaload, 1) := by decide +kernel
theorem dX6_meanExpected_62 : decode cX6_meanExpected 62 = .ok (.i2d, 1) := by decide +kernel
theorem dX6_meanExpected_63 : decode cX6_meanExpected 63 = .ok (.ddiv, 1) := by decide +kernel
theorem dX6_meanExpected_64 : decode cX6_meanExpected 64 = .ok (.dreturn, 1) := by decide +kernel
theorem dX6_yesShare_0 : decode cX6_yesShare 0 = .ok (.iconst 0, 1) := by decide +kernel
theorem dX6_yesShare_1 : decode cX6_yesShare 1 = .ok (.istore_n 1, 1) := by decide +kernel
theorem dX6_yesShare_2 : decode cX6_yesShare 2 = .ok (.iconst 0, 1) := by decide +kernel
theorem dX6_yesShare_3 : decode cX6_yesShare 3 = .ok (.istore_n 2, 1) := by decide +kernel
theorem dX6_yesShare_4 : decode cX6_yesShare 4 = .ok (.iconst 0, 1) := by decide +kernel
theorem dX6_yesShare_5 : decode cX6_yesShare 5 = .ok (.istore_n 3, 1) := by decide +kernel
theorem dX6_yesShare_6 : decode cX6_yesShare 6 = .ok (.iload_n 3, 1) := by decide +kernel
theorem dX6_yesShare_7 : decode cX6_yesShare 7 = .ok (.aload_n 0, 1) := by decide +kernel
theorem dX6_yesShare_8 : decode cX6_yesShare 8 = .ok (.getfield 7, 3) := by decide +kernel
theorem dX6_yesShare_11 : decode cX6_yesShare 11 = .ok (.iconst 1, 1) := by decide +kernel
theorem dX6_yesShare_12 : decode cX6_yesShare 12 = .ok (.iaload, 1) := by decide +kernel
theorem dX6_yesShare_13 : decode cX6_yesShare 13 = .ok (.if_icmp .ge 83, 3) := by decide +kernel
theorem dX6_yesShare_16 : decode cX6_yesShare 16 = .ok (.iconst 0, 1) := by decide +kernel
theorem dX6_yesShare_17 : decode cX6_yesShare 17 = .ok (.istore 4, 2) := by decide +kernel
theorem dX6_yesShare_19 : decode cX6_yesShare 19 = .ok (.iload 4, 2) := by decide +kernel
theorem dX6_yesShare_21 : decode cX6_yesShare 21 = .ok (.bipush 6, 2) := by decide +kernel
theorem dX6_yesShare_23 : decode cX6_yesShare 23 = .ok (.if_icmp .ge 67, 3) := by decide +kernel
theorem dX6_yesShare_26 : decode cX6_yesShare 26 = .ok (.iload_n 1, 1) := by decide +kernel
theorem dX6_yesShare_27 : decode cX6_yesShare 27 = .ok (.aload_n 0, 1) := by decide +kernel
theorem dX6_yesShare_28 : decode cX6_yesShare 28 = .ok (.iload_n 3, 1) := by decide +kernel
theorem dX6_yesShare_29 : decode cX6_yesShare 29 = .ok (.iconst 4, 1) := by decide +kernel
theorem dX6_yesShare_30 : decode cX6_yesShare 30 = .ok (.iload 4, 2) := by decide +kernel
theorem dX6_yesShare_32 : decode cX6_yesShare 32 = .ok (.iadd, 1) := by decide +kernel
theorem dX6_yesShare_33 : decode cX6_yesShare 33 = .ok (.invokevirtual 37, 3) := by decide +kernel
theorem dX6_yesShare_36 : decode cX6_yesShare 36 = .ok (.bipush 121, 2) := by decide +kernel
theorem dX6_yesShare_38 : decode cX6_yesShare 38 = .ok (.if_icmp .ne 7, 3) := by decide +kernel
theorem dX6_yesShare_41 : decode cX6_yesShare 41 = .ok (.iconst 1, 1) := by decide +kernel
theorem dX6_yesShare_42 : decode cX6_yesShare 42 = .ok (.goto 4, 3) := by decide +kernel
theorem dX6_yesShare_45 : decode cX6_yesShare 45 = .ok (.iconst 0, 1) := by decide +kernel
theorem dX6_yesShare_46 : decode cX6_yesShare 46 = .ok (.iadd, 1) := by decide +kernel
theorem dX6_yesShare_47 : decode cX6_yesShare 47 = .ok (.istore_n 1, 1) := by decide +kernel
theorem dX6_yesShare_48 : decode cX6_yesShare 48 = .ok (.iload_n 2, 1) := by decide +kernel
theorem dX6_yesShare_49 : decode cX6_yesShare 49 = .ok (.aload_n 0, 1) := by decide +kernel
theorem dX6_yesShare_50 : decode cX6_yesShare 50 = .ok (.iload_n 3, 1) := by decide +kernel
theorem dX6_yesShare_51 : decode cX6_yesShare 51 = .ok (.iconst 4, 1) := by decide +kernel
theorem dX6_yesShare_52 : decode cX6_yesShare 52 = .ok (.iload 4, 2) := by decide +kernel
theorem dX6_yesShare_54 : decode cX6_yesShare 54 = .ok (.iadd, 1) := by decide +kernel
theorem dX6_yesShare_55 : decode cX6_yesShare 55 = .ok (.invokevirtual 37, 3) := by decide +kernel
theorem dX6_yesShare_58 : decode cX6_yesShare 58 = .ok (.bipush 121, 2) := by decide +kernel
theorem dX6_yesShare_60 : decode cX6_yesShare 60 = .ok (.if_icmp .eq 17, 3) := by decide +kernel
theorem dX6_yesShare_63 : decode cX6_yesShare 63 = .ok (.aload_n 0, 1) := by decide +kernel
theorem dX6_yesShare_64 : decode cX6_yesShare 64 = .ok (.iload_n 3, 1) := by decide +kernel
theorem dX6_yesShare_65 : decode cX6_yesShare 65 = .ok (.iconst 4, 1) := by decide +kernel
theorem dX6_yesShare_66 : decode cX6_yesShare 66 = .ok (.iload 4, 2) := by decide +kernel
theorem dX6_yesShare_68 : decode cX6_yesShare 68 = .ok (.iadd, 1) := by decide +kernel
theorem dX6_yesShare_69 : decode cX6_yesShare 69 = .ok (.invokevirtual 37, 3) := by decide +kernel
theorem dX6_yesShare_72 : decode cX6_yesShare 72 = .ok (.bipush 110, 2) := by decide +kernel
theorem dX6_yesShare_74 : decode cX6_yesShare 74 = .ok (.if_icmp .ne 7, 3) := by decide +kernel
theorem dX6_yesShare_77 : decode cX6_yesShare 77 = .ok (.iconst 1, 1) := by decide +kernel
theorem dX6_yesShare_78 : decode cX6_yesShare 78 = .ok (.goto 4, 3) := by decide +kernel
theorem dX6_yesShare_81 : decode cX6_yesShare 81 = .ok (.iconst 0, 1) := by decide +kernel
theorem dX6_yesShare_82 : decode cX6_yesShare 82 = .ok (.iadd, 1) := by decide +kernel
theorem dX6_yesShare_83 : decode cX6_yesShare 83 = .ok (.istore_n 2, 1) := by decide +kernel
theorem dX6_yesShare_84 : decode cX6_yesShare 84 = .ok (.iinc 4 1, 3) := by decide +kernel
theorem dX6_yesShare_87 : decode cX6_yesShare 87 = .ok (.goto (-68), 3) := by decide +kernel
theorem dX6_yesShare_90 : decode cX6_yesShare 90 = .ok (.iinc 3 1, 3) := by decide +kernel
theorem dX6_yesShare_93 : decode cX6_yesShare 93 = .ok (.goto (-87), 3) := by decide +kernel
theorem dX6_yesShare_96 : decode cX6_yesShare 96 = .ok (.aload_n 0, 1) := by decide +kernel
theorem dX6_yesShare_97 : decode cX6_yesShare 97 = .ok (.iload_n 2, 1) := by decide +kernel
theorem dX6_yesShare_98 : decode cX6_yesShare 98 = .ok (.ifCond .ne 7, 3) := by decide +kernel
theorem dX6_yesShare_101 : decode cX6_yesShare 101 = .ok (.iconst 1, 1) := by decide +kernel
theorem dX6_yesShare_102 : decode cX6_yesShare 102 = .ok (.goto 4, 3) := by decide +kernel
theorem dX6_yesShare_105 : decode cX6_yesShare 105 = .ok (.iconst 0, 1) := by decide +kernel
theorem dX6_yesShare_106 : decode cX6_yesShare 106 = .ok (.invokevirtual 34, 3) := by decide +kernel
theorem dX6_yesShare_109 : decode cX6_yesShare 109 = .ok (.ifCond .eq 7, 3) := by decide +kernel
theorem dX6_yesShare_112 : decode cX6_yesShare 112 = .ok (.fconst 0, 1) := by decide +kernel
theorem dX6_yesShare_113 : decode cX6_yesShare 113 = .ok (.goto 8, 3) := by decide +kernel
theorem dX6_yesShare_116 : decode cX6_yesShare 116 = .ok (.iload_n 1, 1) := by decide +kernel
theorem dX6_yesShare_117 : decode cX6_yesShare 117 = .ok (.i2f, 1) := by decide +kernel
theorem dX6_yesShare_118 : decode cX6_yesShare 118 = .ok (.iload_n 2, 1) := by decide +kernel
theorem dX6_yesShare_119 : decode cX6_yesShare 119 = .ok (.i2f, 1) := by decide +kernel
theorem dX6_yesShare_120 : decode cX6_yesShare 120 = .ok (.fdiv, 1) := by decide +kernel
theorem dX6_yesShare_121 : decode cX6_yesShare 121 = .ok (.freturn, 1) := by decide +kernel
theorem dX6_isConsistent_0 : decode cX6_isConsistent 0 = .ok (.aload_n 0, 1) := by decide +kernel
theorem dX6_isConsistent_1 : decode cX6_isConsistent 1 = .ok (.iconst 0, 1) := by decide +kernel
theorem dX6_isConsistent_2 : decode cX6_isConsistent 2 = .ok (.putfield 23, 3) := by decide +kernel
theorem dX6_isConsistent_5 : decode cX6_isConsistent 5 = .ok (.iconst 0, 1) := by decide +kernel
theorem dX6_isConsistent_6 : decode cX6_isConsistent 6 = .ok (.istore_n 1, 1) := by decide +kernel
theorem dX6_isConsistent_7 : decode cX6_isConsistent 7 = .ok (.iload_n 1, 1) := by decide +kernel
theorem dX6_isConsistent_8 : decode cX6_isConsistent 8 = .ok (.bipush 6, 2) := by decide +kernel
theorem dX6_isConsistent_10 : decode cX6_isConsistent 10 = .ok (.if_icmp .ge 75, 3) := by decide +kernel
theorem dX6_isConsistent_13 : decode cX6_isConsistent 13 = .ok (.iconst 0, 1) := by decide +kernel
theorem dX6_isConsistent_14 : decode cX6_isConsistent 14 = .ok (.istore_n 2, 1) := by decide +kernel
theorem dX6_isConsistent_15 : decode cX6_isConsistent 15 = .ok (.iload_n 2, 1) := by decide +kernel
theorem dX6_isConsistent_16 : decode cX6_isConsistent 16 = .ok (.aload_n 0, 1) := by decide +kernel
theorem dX6_isConsistent_17 : decode cX6_isConsistent 17 = .ok (.getfield 7, 3) := by decide +kernel
theorem dX6_isConsistent_20 : decode cX6_isConsistent 20 = .ok (.iconst 1, 1) := by decide +kernel
theorem dX6_isConsistent_21 : decode cX6_isConsistent 21 = .ok (.iaload, 1) := by decide +kernel
theorem dX6_isConsistent_22 : decode cX6_isConsistent 22 = .ok (.if_icmp .ge 57, 3) := by decide +kernel
theorem dX6_isConsistent_25 : decode cX6_isConsistent 25 = .ok (.iconst 0, 1) := by decide +kernel
theorem dX6_isConsistent_26 : decode cX6_isConsistent 26 = .ok (.istore_n 3, 1) := by decide +kernel
theorem dX6_isConsistent_27 : decode cX6_isConsistent 27 = .ok (.iload_n 3, 1) := by decide +kernel
theorem dX6_isConsistent_28 : decode cX6_isConsistent 28 = .ok (.aload_n 0, 1) := by decide +kernel
theorem dX6_isConsistent_29 : decode cX6_isConsistent 29 = .ok (.iload_n 2, 1) := by decide +kernel
theorem dX6_isConsistent_30 : decode cX6_isConsistent 30 = .ok (.iconst 3, 1) := by decide +kernel
theorem dX6_isConsistent_31 : decode cX6_isConsistent 31 = .ok (.invokevirtual 37, 3) := by decide +kernel
theorem dX6_isConsistent_34 : decode cX6_isConsistent 34 = .ok (.if_icmp .ge 39, 3) := by decide +kernel
theorem dX6_isConsistent_37 : decode cX6_isConsistent 37 = .ok (.aload_n 0, 1) := by decide +kernel
theorem dX6_isConsistent_38 : decode cX6_isConsistent 38 = .ok (.iload_n 2, 1) := by decide +kernel
theorem dX6_isConsistent_39 : decode cX6_isConsistent 39 = .ok (.iload_n 3, 1) := by decide +kernel
theorem dX6_isConsistent_40 : decode cX6_isConsistent 40 = .ok (.invokevirtual 49, 3) := by decide +kernel
theorem dX6_isConsistent_43 : decode cX6_isConsistent 43 = .ok (.ifCond .eq 24, 3) := by decide +kernel
theorem dX6_isConsistent_46 : decode cX6_isConsistent 46 = .ok (.aload_n 0, 1) := by decide +kernel
theorem dX6_isConsistent_47 : decode cX6_isConsistent 47 = .ok (.iload_n 2, 1) := by decide +kernel
theorem dX6_isConsistent_48 : decode cX6_isConsistent 48 = .ok (.iload_n 1, 1) := by decide +kernel
theorem dX6_isConsistent_49 : decode cX6_isConsistent 49 = .ok (.invokevirtual 41, 3) := by decide +kernel
theorem dX6_isConsistent_52 : decode cX6_isConsistent 52 = .ok (.ifCond .eq 15, 3) := by decide +kernel
theorem dX6_isConsistent_55 : decode cX6_isConsistent 55 = .ok (.aload_n 0, 1) := by decide +kernel
theorem dX6_isConsistent_56 : decode cX6_isConsistent 56 = .ok (.iload_n 2, 1) := by decide +kernel
theorem dX6_isConsistent_57 : decode cX6_isConsistent 57 = .ok (.iload_n 3, 1) := by decide +kernel
theorem dX6_isConsistent_58 : decode cX6_isConsistent 58 = .ok (.iload_n 1, 1) := by decide +kernel
theorem dX6_isConsistent_59 : decode cX6_isConsistent 59 = .ok (.invokevirtual 129, 3) := by decide +kernel
theorem dX6_isConsistent_62 : decode cX6_isConsistent 62 = .ok (.ifCond .eq 5, 3) := by decide +kernel
theorem dX6_isConsistent_65 : decode cX6_isConsistent 65 = .ok (.iconst 0, 1) := by decide +kernel
theorem dX6_isConsistent_66 : decode cX6_isConsistent 66 = .ok (.ireturn, 1) := by decide +kernel
theorem dX6_isConsistent_67 : decode cX6_isConsistent 67 = .ok (.iinc 3 1, 3) := by decide +kernel
theorem dX6_isConsistent_70 : decode cX6_isConsistent 70 = .ok (.goto (-43), 3) := by decide +kernel
theorem dX6_isConsistent_73 : decode cX6_isConsistent 73 = .ok (.iinc 2 1, 3) := by decide +kernel
theorem dX6_isConsistent_76 : decode cX6_isConsistent 76 = .ok (.goto (-61), 3) := by decide +kernel
theorem dX6_isConsistent_79 : decode cX6_isConsistent 79 = .ok (.iinc 1 1, 3) := by decide +kernel
theorem dX6_isConsistent_82 : decode cX6_isConsistent 82 = .ok (.goto (-75), 3) := by decide +kernel
theorem dX6_isConsistent_85 : decode cX6_isConsistent 85 = .ok (.iconst 1, 1) := by decide +kernel
theorem dX6_isConsistent_86 : decode cX6_isConsistent 86 = .ok (.ireturn, 1) := by decide +kernel
theorem dX6_meetsItself_0 : decode cX6_meetsItself 0 = .ok (.iconst 0, 1) := by decide +kernel
theorem dX6_meetsItself_1 : decode cX6_meetsItself 1 = .ok (.istore 4, 2) := by decide +kernel
theorem dX6_meetsItself_3 : decode cX6_meetsItself 3 = .ok (.iload 4, 2) := by decide +kernel
theorem dX6_meetsItself_5 : decode cX6_meetsItself 5 = .ok (.aload_n 0, 1) := by decide +kernel
theorem dX6_meetsItself_6 : decode cX6_meetsItself 6 = .ok (.getfield 7, 3) := by decide +kernel
theorem dX6_meetsItself_9 : decode cX6_meetsItself 9 = .ok (.iconst 1, 1) := by decide +kernel
theorem dX6_meetsItself_10 : decode cX6_meetsItself 10 = .ok (.iaload, 1) := by decide +kernel
theorem dX6_meetsItself_11 : decode cX6_meetsItself 11 = .ok (.if_icmp .ge 111, 3) := by decide +kernel
theorem dX6_meetsItself_14 : decode cX6_meetsItself 14 = .ok (.iconst 0, 1) := by decide +kernel
theorem dX6_meetsItself_15 : decode cX6_meetsItself 15 = .ok (.istore 5, 2) := by decide +kernel
theorem dX6_meetsItself_17 : decode cX6_meetsItself 17 = .ok (.iload 5, 2) := by decide +kernel
theorem dX6_meetsItself_19 : decode cX6_meetsItself 19 = .ok (.aload_n 0, 1) := by decide +kernel
theorem dX6_meetsItself_20 : decode cX6_meetsItself 20 = .ok (.iload 4, 2) := by decide +kernel
theorem dX6_meetsItself_22 : decode cX6_meetsItself 22 = .ok (.iconst 3, 1) := by decide +kernel
theorem dX6_meetsItself_23 : decode cX6_meetsItself 23 = .ok (.invokevirtual 37, 3) := by decide +kernel
theorem dX6_meetsItself_26 : decode cX6_meetsItself 26 = .ok (.if_icmp .ge 90, 3) := by decide +kernel
theorem dX6_meetsItself_29 : decode cX6_meetsItself 29 = .ok (.iload 4, 2) := by decide +kernel
theorem dX6_meetsItself_31 : decode cX6_meetsItself 31 = .ok (.iload_n 1, 1) := by decide +kernel
theorem dX6_meetsItself_32 : decode cX6_meetsItself 32 = .ok (.if_icmp .ne 9, 3) := by decide +kernel
theorem dX6_meetsItself_35 : decode cX6_meetsItself 35 = .ok (.iload 5, 2) := by decide +kernel
theorem dX6_meetsItself_37 : decode cX6_meetsItself 37 = .ok (.iload_n 2, 1) := by decide +kernel
theorem dX6_meetsItself_38 : decode cX6_meetsItself 38 = .ok (.if_icmp .eq 72, 3) := by decide +kernel
theorem dX6_meetsItself_41 : decode cX6_meetsItself 41 = .ok (.aload_n 0, 1) := by decide +kernel
theorem dX6_meetsItself_42 : decode cX6_meetsItself 42 = .ok (.iload 4, 2) := by decide +kernel
theorem dX6_meetsItself_44 : decode cX6_meetsItself 44 = .ok (.iload 5, 2) := by decide +kernel
theorem dX6_meetsItself_46 : decode cX6_meetsItself 46 = .ok (.invokevirtual 49, 3) := by decide +kernel
theorem dX6_meetsItself_49 : decode cX6_meetsItself 49 = .ok (.ifCond .eq 61, 3) := by decide +kernel
theorem dX6_meetsItself_52 : decode cX6_meetsItself 52 = .ok (.aload_n 0, 1) := by decide +kernel
theorem dX6_meetsItself_53 : decode cX6_meetsItself 53 = .ok (.iload 4, 2) := by decide +kernel
theorem dX6_meetsItself_55 : decode cX6_meetsItself 55 = .ok (.iload_n 3, 1) := by decide +kernel
theorem dX6_meetsItself_56 : decode cX6_meetsItself 56 = .ok (.invokevirtual 41, 3) := by decide +kernel
theorem dX6_meetsItself_59 : decode cX6_meetsItself 59 = .ok (.ifCond .eq 51, 3) := by decide +kernel
theorem dX6_meetsItself_62 : decode cX6_meetsItself 62 = .ok (.aload_n 0, 1) := by decide +kernel
theorem dX6_meetsItself_63 : decode cX6_meetsItself 63 = .ok (.iload 4, 2) := by decide +kernel
theorem dX6_meetsItself_65 : decode cX6_meetsItself 65 = .ok (.iload 5, 2) := by decide +kernel
theorem dX6_meetsItself_67 : decode cX6_meetsItself 67 = .ok (.iconst 0, 1) := by decide +kernel
theorem dX6_meetsItself_68 : decode cX6_meetsItself 68 = .ok (.invokevirtual 45, 3) := by decide +kernel
theorem dX6_meetsItself_71 : decode cX6_meetsItself 71 = .ok (.aload_n 0, 1) := by decide +kernel
theorem dX6_meetsItself_72 : decode cX6_meetsItself 72 = .ok (.iload_n 1, 1) := by decide +kernel
theorem dX6_meetsItself_73 : decode cX6_meetsItself 73 = .ok (.iload_n 2, 1) := by decide +kernel
theorem dX6_meetsItself_74 : decode cX6_meetsItself 74 = .ok (.iconst 0, 1) := by decide +kernel
theorem dX6_meetsItself_75 : decode cX6_meetsItself 75 = .ok (.invokevirtual 45, 3) := by decide +kernel
theorem dX6_meetsItself_78 : decode cX6_meetsItself 78 = .ok (.if_icmp .eq 6, 3) := by decide +kernel
theorem dX6_meetsItself_81 : decode cX6_meetsItself 81 = .ok (.goto 29, 3) := by decide +kernel
theorem dX6_meetsItself_84 : decode cX6_meetsItself 84 = .ok (.aload_n 0, 1) := by decide +kernel
theorem dX6_meetsItself_85 : decode cX6_meetsItself 85 = .ok (.iload 4, 2) := by decide +kernel
theorem dX6_meetsItself_87 : decode cX6_meetsItself 87 = .ok (.iload 5, 2) := by decide +kernel
theorem dX6_meetsItself_89 : decode cX6_meetsItself 89 = .ok (.aload_n 0, 1) := by decide +kernel
theorem dX6_meetsItself_90 : decode cX6_meetsItself 90 = .ok (.iload_n 1, 1) := by decide +kernel
theorem dX6_meetsItself_91 : decode cX6_meetsItself 91 = .ok (.iload_n 2, 1) := by decide +kernel
theorem dX6_meetsItself_92 : decode cX6_meetsItself 92 = .ok (.iconst 1, 1) := by decide +kernel
theorem dX6_meetsItself_93 : decode cX6_meetsItself 93 = .ok (.invokevirtual 45, 3) := by decide +kernel
theorem dX6_meetsItself_96 : decode cX6_meetsItself 96 = .ok (.aload_n 0, 1) := by decide +kernel
theorem dX6_meetsItself_97 : decode cX6_meetsItself 97 = .ok (.iload_n 1, 1) := by decide +kernel
theorem dX6_meetsItself_98 : decode cX6_meetsItself 98 = .ok (.iconst 2, 1) := by decide +kernel
theorem dX6_meetsItself_99 : decode cX6_meetsItself 99 = .ok (.invokevirtual 37, 3) := by decide +kernel
theorem dX6_meetsItself_102 : decode cX6_meetsItself 102 = .ok (.invokevirtual 55, 3) := by decide +kernel
theorem dX6_meetsItself_105 : decode cX6_meetsItself 105 = .ok (.ifCond .ge 5, 3) := by decide +kernel
theorem dX6_meetsItself_108 : decode cX6_meetsItself 108 = .ok (.iconst 1, 1) := by decide +kernel
theorem dX6_meetsItself_109 : decode cX6_meetsItself 109 = .ok (.ireturn, 1) := by decide +kernel
theorem dX6_meetsItself_110 : decode cX6_meetsItself 110 = .ok (.iinc 5 1, 3) := by decide +kernel
theorem dX6_meetsItself_113 : decode cX6_meetsItself 113 = .ok (.goto (-96), 3) := by decide +kernel
theorem dX6_meetsItself_116 : decode cX6_meetsItself 116 = .ok (.iinc 4 1, 3) := by decide +kernel
theorem dX6_meetsItself_119 : decode cX6_meetsItself 119 = .ok (.goto (-116), 3) := by decide +kernel
theorem dX6_meetsItself_122 : decode cX6_meetsItself 122 = .ok (.iconst 0, 1) := by decide +kernel
theorem dX6_meetsItself_123 : decode cX6_meetsItself 123 = .ok (.ireturn, 1) := by decide +kernel
theorem dJ6_bitCount_0f7a4_0 : decode cJ6_bitCount_0f7a4 0 = .ok (.iload_n 0, 1) := by decide +kernel
theorem dJ6_bitCount_0f7a4_1 : decode cJ6_bitCount_0f7a4 1 = .ok (.iload_n 0, 1) := by decide +kernel
theorem dJ6_bitCount_0f7a4_2 : decode cJ6_bitCount_0f7a4 2 = .ok (.iconst 1, 1) := by decide +kernel
theorem dJ6_bitCount_0f7a4_3 : decode cJ6_bitCount_0f7a4 3 = .ok (.iushr, 1) := by decide +kernel
theorem dJ6_bitCount_0f7a4_4 : decode cJ6_bitCount_0f7a4 4 = .ok (.ldc_w 265, 3) := by decide +kernel
theorem dJ6_bitCount_0f7a4_7 : decode cJ6_bitCount_0f7a4 7 = .ok (.iand, 1) := by decide +kernel
theorem dJ6_bitCount_0f7a4_8 : decode cJ6_bitCount_0f7a4 8 = .ok (.isub, 1) := by decide +kernel
theorem dJ6_bitCount_0f7a4_9 : decode cJ6_bitCount_0f7a4 9 = .ok (.istore_n 0, 1) := by decide +kernel
theorem dJ6_bitCount_0f7a4_10 : decode cJ6_bitCount_0f7a4 10 = .ok (.iload_n 0, 1) := by decide +kernel
theorem dJ6_bitCount_0f7a4_11 : decode cJ6_bitCount_0f7a4 11 = .ok (.ldc_w 266, 3) := by decide +kernel
theorem dJ6_bitCount_0f7a4_14 : decode cJ6_bitCount_0f7a4 14 = .ok (.iand, 1) := by decide +kernel
theorem dJ6_bitCount_0f7a4_15 : decode cJ6_bitCount_0f7a4 15 = .ok (.iload_n 0, 1) := by decide +kernel
theorem dJ6_bitCount_0f7a4_16 : decode cJ6_bitCount_0f7a4 16 = .ok (.iconst 2, 1) := by decide +kernel
theorem dJ6_bitCount_0f7a4_17 : decode cJ6_bitCount_0f7a4 17 = .ok (.iushr, 1) := by decide +kernel
theorem dJ6_bitCount_0f7a4_18 : decode cJ6_bitCount_0f7a4 18 = .ok (.ldc_w 266, 3) := by decide +kernel
theorem dJ6_bitCount_0f7a4_21 : decode cJ6_bitCount_0f7a4 21 = .ok (.iand, 1) := by decide +kernel
theorem dJ6_bitCount_0f7a4_22 : decode cJ6_bitCount_0f7a4 22 = .ok (.iadd, 1) := by decide +kernel
theorem dJ6_bitCount_0f7a4_23 : decode cJ6_bitCount_0f7a4 23 = .ok (.istore_n 0, 1) := by decide +kernel
theorem dJ6_bitCount_0f7a4_24 : decode cJ6_bitCount_0f7a4 24 = .ok (.iload_n 0, 1) := by decide +kernel
theorem dJ6_bitCount_0f7a4_25 : decode cJ6_bitCount_0f7a4 25 = .ok (.iload_n 0, 1) := by decide +kernel
theorem dJ6_bitCount_0f7a4_26 : decode cJ6_bitCount_0f7a4 26 = .ok (.iconst 4, 1) := by decide +kernel
theorem dJ6_bitCount_0f7a4_27 : decode cJ6_bitCount_0f7a4 27 = .ok (.iushr, 1) := by decide +kernel
theorem dJ6_bitCount_0f7a4_28 : decode cJ6_bitCount_0f7a4 28 = .ok (.iadd, 1) := by decide +kernel
theorem dJ6_bitCount_0f7a4_29 : decode cJ6_bitCount_0f7a4 29 = .ok (.ldc_w 267, 3) := by decide +kernel
theorem dJ6_bitCount_0f7a4_32 : decode cJ6_bitCount_0f7a4 32 = .ok (.iand, 1) := by decide +kernel
theorem dJ6_bitCount_0f7a4_33 : decode cJ6_bitCount_0f7a4 33 = .ok (.istore_n 0, 1) := by decide +kernel
theorem dJ6_bitCount_0f7a4_34 : decode cJ6_bitCount_0f7a4 34 = .ok (.iload_n 0, 1) := by decide +kernel
theorem dJ6_bitCount_0f7a4_35 : decode cJ6_bitCount_0f7a4 35 = .ok (.iload_n 0, 1) := by decide +kernel
theorem dJ6_bitCount_0f7a4_36 : decode cJ6_bitCount_0f7a4 36 = .ok (.bipush 8, 2) := by decide +kernel
theorem dJ6_bitCount_0f7a4_38 : decode cJ6_bitCount_0f7a4 38 = .ok (.iushr, 1) := by decide +kernel
theorem dJ6_bitCount_0f7a4_39 : decode cJ6_bitCount_0f7a4 39 = .ok (.iadd, 1) := by decide +kernel
theorem dJ6_bitCount_0f7a4_40 : decode cJ6_bitCount_0f7a4 40 = .ok (.istore_n 0, 1) := by decide +kernel
theorem dJ6_bitCount_0f7a4_41 : decode cJ6_bitCount_0f7a4 41 = .ok (.iload_n 0, 1) := by decide +kernel
theorem dJ6_bitCount_0f7a4_42 : decode cJ6_bitCount_0f7a4 42 = .ok (.iload_n 0, 1) := by decide +kernel
theorem dJ6_bitCount_0f7a4_43 : decode cJ6_bitCount_0f7a4 43 = .ok (.bipush 16, 2) := by decide +kernel
theorem dJ6_bitCount_0f7a4_45 : decode cJ6_bitCount_0f7a4 45 = .ok (.iushr, 1) := by decide +kernel
theorem dJ6_bitCount_0f7a4_46 : decode cJ6_bitCount_0f7a4 46 = .ok (.iadd, 1) := by decide +kernel
theorem dJ6_bitCount_0f7a4_47 : decode cJ6_bitCount_0f7a4 47 = .ok (.istore_n 0, 1) := by decide +kernel
theorem dJ6_bitCount_0f7a4_48 : decode cJ6_bitCount_0f7a4 48 = .ok (.iload_n 0, 1) := by decide +kernel
theorem dJ6_bitCount_0f7a4_49 : decode cJ6_bitCount_0f7a4 49 = .ok (.bipush 63, 2) := by decide +kernel
theorem dJ6_bitCount_0f7a4_51 : decode cJ6_bitCount_0f7a4 51 = .ok (.iand, 1) := by decide +kernel
theorem dJ6_bitCount_0f7a4_52 : decode cJ6_bitCount_0f7a4 52 = .ok (.ireturn, 1) := by decide +kernel
theorem dJ9_max_7cf53_0 : decode cJ9_max_7cf53 0 = .ok (.iload_n 0, 1) := by decide +kernel
theorem dJ9_max_7cf53_1 : decode cJ9_max_7cf53 1 = .ok (.iload_n 1, 1) := by decide +kernel
theorem dJ9_max_7cf53_2 : decode cJ9_max_7cf53 2 = .ok (.if_icmp .lt 7, 3) := by decide +kernel
theorem dJ9_max_7cf53_5 : decode cJ9_max_7cf53 5 = .ok (.iload_n 0, 1) := by decide +kernel
theorem dJ9_max_7cf53_6 : decode cJ9_max_7cf53 6 = .ok (.goto 4, 3) := by decide +kernel
theorem dJ9_max_7cf53_9 : decode cJ9_max_7cf53 9 = .ok (.iload_n 1, 1) := by decide +kernel
theorem dJ9_max_7cf53_10 : decode cJ9_max_7cf53 10 = .ok (.ireturn, 1) := by decide +kernel
theorem dJ9_min_7cf53_0 : decode cJ9_min_7cf53 0 = .ok (.iload_n 0, 1) := by decide +kernel
theorem dJ9_min_7cf53_1 : decode cJ9_min_7cf53 1 = .ok (.iload_n 1, 1) := by decide +kernel
theorem dJ9_min_7cf53_2 : decode cJ9_min_7cf53 2 = .ok (.if_icmp .gt 7, 3) := by decide +kernel
theorem dJ9_min_7cf53_5 : decode cJ9_min_7cf53 5 = .ok (.iload_n 0, 1) := by decide +kernel
theorem dJ9_min_7cf53_6 : decode cJ9_min_7cf53 6 = .ok (.goto 4, 3) := by decide +kernel
theorem dJ9_min_7cf53_9 : decode cJ9_min_7cf53 9 = .ok (.iload_n 1, 1) := by decide +kernel
theorem dJ9_min_7cf53_10 : decode cJ9_min_7cf53 10 = .ok (.ireturn, 1) := by decide +kernel
theorem dJxa1e45_init_da8c8_0 : decode cJxa1e45_init_da8c8 0 = .ok (.aload_n 0, 1) := by decide +kernel
theorem dJxa1e45_init_da8c8_1 : decode cJxa1e45_init_da8c8 1 = .ok (.invokespecial 1, 3) := by decide +kernel
theorem dJxa1e45_init_da8c8_4 : decode cJxa1e45_init_da8c8 4 = .ok (.return_, 1) := by decide +kernel
theorem dJxc12de_init_da8c8_0 : decode cJxc12de_init_da8c8 0 = .ok (.aload_n 0, 1) := by decide +kernel
theorem dJxc12de_init_da8c8_1 : decode cJxc12de_init_da8c8 1 = .ok (.invokespecial 1, 3) := by decide +kernel
theorem dJxc12de_init_da8c8_4 : decode cJxc12de_init_da8c8 4 = .ok (.aload_n 0, 1) := by decide +kernel
theorem dJxc12de_init_da8c8_5 : decode cJxc12de_init_da8c8 5 = .ok (.iconst 0, 1) := by decide +kernel
theorem dJxc12de_init_da8c8_6 : decode cJxc12de_init_da8c8 6 = .ok (.putfield 7, 3) := by decide +kernel
theorem dJxc12de_init_da8c8_9 : decode cJxc12de_init_da8c8 9 = .ok (.return_, 1) := by decide +kernel
theorem dJx4a65c_init_da8c8_0 : decode cJx4a65c_init_da8c8 0 = .ok (.aload_n 0, 1) := by decide +kernel
theorem dJx4a65c_init_da8c8_1 : decode cJx4a65c_init_da8c8 1 = .ok (.invokespecial 1, 3) := by decide +kernel
theorem dJx4a65c_init_da8c8_4 : decode cJx4a65c_init_da8c8 4 = .ok (.aload_n 0, 1) := by decide +kernel
theorem dJx4a65c_init_da8c8_5 : decode cJx4a65c_init_da8c8 5 = .ok (.getstatic 39, 3) := by decide +kernel
theorem dJx4a65c_init_da8c8_8 : decode cJx4a65c_init_da8c8 8 = .ok (.putfield 9, 3) := by decide +kernel
theorem dJx4a65c_init_da8c8_11 : decode cJx4a65c_init_da8c8 11 = .ok (.return_, 1) := by decide +kernel
theorem dJx4a65c_grow_92f84_0 : decode cJx4a65c_grow_92f84 0 = .ok (.aload_n 0, 1) := by decide +kernel
theorem dJx4a65c_grow_92f84_1 : decode cJx4a65c_grow_92f84 1 = .ok (.getfield 9, 3) := by decide +kernel
theorem dJx4a65c_grow_92f84_4 : decode cJx4a65c_grow_92f84 4 = .ok (.arraylength, 1) := by decide +kernel
theorem dJx4a65c_grow_92f84_5 : decode cJx4a65c_grow_92f84 5 = .ok (.istore_n 2, 1) := by decide +kernel
theorem dJx4a65c_grow_92f84_6 : decode cJx4a65c_grow_92f84 6 = .ok (.iload_n 2, 1) := by decide +kernel
theorem dJx4a65c_grow_92f84_7 : decode cJx4a65c_grow_92f84 7 = .ok (.ifCond .gt 13, 3) := by decide +kernel
theorem dJx4a65c_grow_92f84_10 : decode cJx4a65c_grow_92f84 10 = .ok (.aload_n 0, 1) := by decide +kernel
theorem dJx4a65c_grow_92f84_11 : decode cJx4a65c_grow_92f84 11 = .ok (.getfield 9, 3) := by decide +kernel
theorem dJx4a65c_grow_92f84_14 : decode cJx4a65c_grow_92f84 14 = .ok (.getstatic 39, 3) := by decide +kernel
theorem dJx4a65c_grow_92f84_17 : decode cJx4a65c_grow_92f84 17 = .ok (.if_acmp .eq 28, 3) := by decide +kernel
theorem dJx4a65c_grow_92f84_20 : decode cJx4a65c_grow_92f84 20 = .ok (.iload_n 2, 1) := by decide +kernel
theorem dJx4a65c_grow_92f84_21 : decode cJx4a65c_grow_92f84 21 = .ok (.iload_n 1, 1) := by decide +kernel
theorem dJx4a65c_grow_92f84_22 : decode cJx4a65c_grow_92f84 22 = .ok (.iload_n 2, 1) := by decide +kernel
theorem dJx4a65c_grow_92f84_23 : decode cJx4a65c_grow_92f84 23 = .ok (.isub, 1) := by decide +kernel
theorem dJx4a65c_grow_92f84_24 : decode cJx4a65c_grow_92f84 24 = .ok (.iload_n 2, 1) := by decide +kernel
theorem dJx4a65c_grow_92f84_25 : decode cJx4a65c_grow_92f84 25 = .ok (.iconst 1, 1) := by decide +kernel
theorem dJx4a65c_grow_92f84_26 : decode cJx4a65c_grow_92f84 26 = .ok (.ishr, 1) := by decide +kernel
theorem dJx4a65c_grow_92f84_27 : decode cJx4a65c_grow_92f84 27 = .ok (.invokestatic 73, 3) := by decide +kernel
theorem dJx4a65c_grow_92f84_30 : decode cJx4a65c_grow_92f84 30 = .ok (.istore_n 3, 1) := by decide +kernel
theorem dJx4a65c_grow_92f84_31 : decode cJx4a65c_grow_92f84 31 = .ok (.aload_n 0, 1) := by decide +kernel
theorem dJx4a65c_grow_92f84_32 : decode cJx4a65c_grow_92f84 32 = .ok (.aload_n 0, 1) := by decide +kernel
theorem dJx4a65c_grow_92f84_33 : decode cJx4a65c_grow_92f84 33 = .ok (.getfield 9, 3) := by decide +kernel
theorem dJx4a65c_grow_92f84_36 : decode cJx4a65c_grow_92f84 36 = .ok (.iload_n 3, 1) := by decide +kernel
theorem dJx4a65c_grow_92f84_37 : decode cJx4a65c_grow_92f84 37 = .ok (.invokestatic 66, 3) := by decide +kernel
theorem dJx4a65c_grow_92f84_40 : decode cJx4a65c_grow_92f84 40 = .ok (.dup_x1, 1) := by decide +kernel
theorem dJx4a65c_grow_92f84_41 : decode cJx4a65c_grow_92f84 41 = .ok (.putfield 9, 3) := by decide +kernel
theorem dJx4a65c_grow_92f84_44 : decode cJx4a65c_grow_92f84 44 = .ok (.areturn, 1) := by decide +kernel
theorem dJx4a65c_grow_92f84_45 : decode cJx4a65c_grow_92f84 45 = .ok (.aload_n 0, 1) := by decide +kernel
theorem dJx4a65c_grow_92f84_46 : decode cJx4a65c_grow_92f84 46 = .ok (.bipush 10, 2) := by decide +kernel
theorem dJx4a65c_grow_92f84_48 : decode cJx4a65c_grow_92f84 48 = .ok (.iload_n 1, 1) := by decide +kernel
theorem dJx4a65c_grow_92f84_49 : decode cJx4a65c_grow_92f84 49 = .ok (.invokestatic 79, 3) := by decide +kernel
theorem dJx4a65c_grow_92f84_52 : decode cJx4a65c_grow_92f84 52 = .ok (.anewarray 7, 3) := by decide +kernel
theorem dJx4a65c_grow_92f84_55 : decode cJx4a65c_grow_92f84 55 = .ok (.dup_x1, 1) := by decide +kernel
theorem dJx4a65c_grow_92f84_56 : decode cJx4a65c_grow_92f84 56 = .ok (.putfield 9, 3) := by decide +kernel
theorem dJx4a65c_grow_92f84_59 : decode cJx4a65c_grow_92f84 59 = .ok (.areturn, 1) := by decide +kernel
theorem dJx4a65c_grow_d5877_0 : decode cJx4a65c_grow_d5877 0 = .ok (.aload_n 0, 1) := by decide +kernel
theorem dJx4a65c_grow_d5877_1 : decode cJx4a65c_grow_d5877 1 = .ok (.aload_n 0, 1) := by decide +kernel
theorem dJx4a65c_grow_d5877_2 : decode cJx4a65c_grow_d5877 2 = .ok (.getfield 48, 3) := by decide +kernel
theorem dJx4a65c_grow_d5877_5 : decode cJx4a65c_grow_d5877 5 = .ok (.iconst 1, 1) := by decide +kernel
theorem dJx4a65c_grow_d5877_6 : decode cJx4a65c_grow_d5877 6 = .ok (.iadd, 1) := by decide +kernel
theorem dJx4a65c_grow_d5877_7 : decode cJx4a65c_grow_d5877 7 = .ok (.invokevirtual 69, 3) := by decide +kernel
theorem dJx4a65c_grow_d5877_10 : decode cJx4a65c_grow_d5877 10 = .ok (.areturn, 1) := by decide +kernel
theorem dJx4a65c_size_8abf5_0 : decode cJx4a65c_size_8abf5 0 = .ok (.aload_n 0, 1) := by decide +kernel
theorem dJx4a65c_size_8abf5_1 : decode cJx4a65c_size_8abf5 1 = .ok (.getfield 48, 3) := by decide +kernel
theorem dJx4a65c_size_8abf5_4 : decode cJx4a65c_size_8abf5 4 = .ok (.ireturn, 1) := by decide +kernel
theorem dJx4a65c_elementData_915e3_0 : decode cJx4a65c_elementData_915e3 0 = .ok (.aload_n 0, 1) := by decide +kernel
theorem dJx4a65c_elementData_915e3_1 : decode cJx4a65c_elementData_915e3 1 = .ok (.getfield 9, 3) := by decide +kernel
theorem dJx4a65c_elementData_915e3_4 : decode cJx4a65c_elementData_915e3 4 = .ok (.iload_n 1, 1) := by decide +kernel
theorem dJx4a65c_elementData_915e3_5 : decode cJx4a65c_elementData_915e3 5 = .ok (.aaload, 1) := by decide +kernel
theorem dJx4a65c_elementData_915e3_6 : decode cJx4a65c_elementData_915e3 6 = .ok (.areturn, 1) := by decide +kernel
theorem dJx4a65c_get_915e3_0 : decode cJx4a65c_get_915e3 0 = .ok (.iload_n 1, 1) := by decide +kernel
theorem dJx4a65c_get_915e3_1 : decode cJx4a65c_get_915e3 1 = .ok (.aload_n 0, 1) := by decide +kernel
theorem dJx4a65c_get_915e3_2 : decode cJx4a65c_get_915e3 2 = .ok (.getfield 48, 3) := by decide +kernel
theorem dJx4a65c_get_915e3_5 : decode cJx4a65c_get_915e3 5 = .ok (.invokestatic 118, 3) := by decide +kernel
theorem dJx4a65c_get_915e3_8 : decode cJx4a65c_get_915e3 8 = .ok (.pop, 1) := by decide +kernel
theorem dJx4a65c_get_915e3_9 : decode cJx4a65c_get_915e3 9 = .ok (.aload_n 0, 1) := by decide +kernel
theorem dJx4a65c_get_915e3_10 : decode cJx4a65c_get_915e3 10 = .ok (.iload_n 1, 1) := by decide +kernel
theorem dJx4a65c_get_915e3_11 : decode cJx4a65c_get_915e3 11 = .ok (.invokevirtual 123, 3) := by decide +kernel
theorem dJx4a65c_get_915e3_14 : decode cJx4a65c_get_915e3 14 = .ok (.areturn, 1) := by decide +kernel
theorem dJx4a65c_add_72be8_0 : decode cJx4a65c_add_72be8 0 = .ok (.iload_n 3, 1) := by decide +kernel
theorem dJx4a65c_add_72be8_1 : decode cJx4a65c_add_72be8 1 = .ok (.aload_n 2, 1) := by decide +kernel
theorem dJx4a65c_add_72be8_2 : decode cJx4a65c_add_72be8 2 = .ok (.arraylength, 1) := by decide +kernel
theorem dJx4a65c_add_72be8_3 : decode cJx4a65c_add_72be8 3 = .ok (.if_icmp .ne 8, 3) := by decide +kernel
theorem dJx4a65c_add_72be8_6 : decode cJx4a65c_add_72be8 6 = .ok (.aload_n 0, 1) := by decide +kernel
theorem dJx4a65c_add_72be8_7 : decode cJx4a65c_add_72be8 7 = .ok (.invokevirtual 129, 3) := by decide +kernel
theorem dJx4a65c_add_72be8_10 : decode cJx4a65c_add_72be8 10 = .ok (.astore_n 2, 1) := by decide +kernel
theorem dJx4a65c_add_72be8_11 : decode cJx4a65c_add_72be8 11 = .ok (.aload_n 2, 1) := by decide +kernel
theorem dJx4a65c_add_72be8_12 : decode cJx4a65c_add_72be8 12 = .ok (.iload_n 3, 1) := by decide +kernel
theorem dJx4a65c_add_72be8_13 : decode cJx4a65c_add_72be8 13 = .ok (.aload_n 1, 1) := by decide +kernel
theorem dJx4a65c_add_72be8_14 : decode cJx4a65c_add_72be8 14 = .ok (.aastore, 1) := by decide +kernel
theorem dJx4a65c_add_72be8_15 : decode cJx4a65c_add_72be8 15 = .ok (.aload_n 0, 1) := by decide +kernel
theorem dJx4a65c_add_72be8_16 : decode cJx4a65c_add_72be8 16 = .ok (.iload_n 3, 1) := by decide +kernel
theorem dJx4a65c_add_72be8_17 : decode cJx4a65c_add_72be8 17 = .ok (.iconst 1, 1) := by decide +kernel
theorem dJx4a65c_add_72be8_18 : decode cJx4a65c_add_72be8 18 = .ok (.iadd, 1) := by decide +kernel
theorem dJx4a65c_add_72be8_19 : decode cJx4a65c_add_72be8 19 = .ok (.putfield 48, 3) := by decide +kernel
theorem dJx4a65c_add_72be8_22 : decode cJx4a65c_add_72be8 22 = .ok (.return_, 1) := by decide +kernel
theorem dJx4a65c_add_9ea2d_0 : decode cJx4a65c_add_9ea2d 0 = .ok (.aload_n 0, 1) := by decide +kernel
theorem dJx4a65c_add_9ea2d_1 : decode cJx4a65c_add_9ea2d 1 = .ok (.dup, 1) := by decide +kernel
theorem dJx4a65c_add_9ea2d_2 : decode cJx4a65c_add_9ea2d 2 = .ok (.getfield 63, 3) := by decide +kernel
theorem dJx4a65c_add_9ea2d_5 : decode cJx4a65c_add_9ea2d 5 = .ok (.iconst 1, 1) := by decide +kernel
theorem dJx4a65c_add_9ea2d_6 : decode cJx4a65c_add_9ea2d 6 = .ok (.iadd, 1) := by decide +kernel
theorem dJx4a65c_add_9ea2d_7 : decode cJx4a65c_add_9ea2d 7 = .ok (.putfield 63, 3) := by decide +kernel
theorem dJx4a65c_add_9ea2d_10 : decode cJx4a65c_add_9ea2d 10 = .ok (.aload_n 0, 1) := by decide +kernel
theorem dJx4a65c_add_9ea2d_11 : decode cJx4a65c_add_9ea2d 11 = .ok (.aload_n 1, 1) := by decide +kernel
theorem dJx4a65c_add_9ea2d_12 : decode cJx4a65c_add_9ea2d 12 = .ok (.aload_n 0, 1) := by decide +kernel
theorem dJx4a65c_add_9ea2d_13 : decode cJx4a65c_add_9ea2d 13 = .ok (.getfield 9, 3) := by decide +kernel
theorem dJx4a65c_add_9ea2d_16 : decode cJx4a65c_add_9ea2d 16 = .ok (.aload_n 0, 1) := by decide +kernel
theorem dJx4a65c_add_9ea2d_17 : decode cJx4a65c_add_9ea2d 17 = .ok (.getfield 48, 3) := by decide +kernel
theorem dJx4a65c_add_9ea2d_20 : decode cJx4a65c_add_9ea2d 20 = .ok (.invokevirtual 131, 3) := by decide +kernel
theorem dJx4a65c_add_9ea2d_23 : decode cJx4a65c_add_9ea2d 23 = .ok (.iconst 1, 1) := by decide +kernel
theorem dJx4a65c_add_9ea2d_24 : decode cJx4a65c_add_9ea2d 24 = .ok (.ireturn, 1) := by decide +kernel
theorem dJx4a65c_add_7a177_0 : decode cJx4a65c_add_7a177 0 = .ok (.aload_n 0, 1) := by decide +kernel
theorem dJx4a65c_add_7a177_1 : decode cJx4a65c_add_7a177 1 = .ok (.iload_n 1, 1) := by decide +kernel
theorem dJx4a65c_add_7a177_2 : decode cJx4a65c_add_7a177 2 = .ok (.invokevirtual 135, 3) := by decide +kernel
theorem dJx4a65c_add_7a177_5 : decode cJx4a65c_add_7a177 5 = .ok (.aload_n 0, 1) := by decide +kernel
theorem dJx4a65c_add_7a177_6 : decode cJx4a65c_add_7a177 6 = .ok (.dup, 1) := by decide +kernel
theorem dJx4a65c_add_7a177_7 : decode cJx4a65c_add_7a177 7 = .ok (.getfield 63, 3) := by decide +kernel
theorem dJx4a65c_add_7a177_10 : decode cJx4a65c_add_7a177 10 = .ok (.iconst 1, 1) := by decide +kernel
theorem dJx4a65c_add_7a177_11 : decode cJx4a65c_add_7a177 11 = .ok (.iadd, 1) := by decide +kernel
theorem dJx4a65c_add_7a177_12 : decode cJx4a65c_add_7a177 12 = .ok (.putfield 63, 3) := by decide +kernel
theorem dJx4a65c_add_7a177_15 : decode cJx4a65c_add_7a177 15 = .ok (.aload_n 0, 1) := by decide +kernel
theorem dJx4a65c_add_7a177_16 : decode cJx4a65c_add_7a177 16 = .ok (.getfield 48, 3) := by decide +kernel
theorem dJx4a65c_add_7a177_19 : decode cJx4a65c_add_7a177 19 = .ok (.dup, 1) := by decide +kernel
theorem dJx4a65c_add_7a177_20 : decode cJx4a65c_add_7a177 20 = .ok (.istore_n 3, 1) := by decide +kernel
theorem dJx4a65c_add_7a177_21 : decode cJx4a65c_add_7a177 21 = .ok (.aload_n 0, 1) := by decide +kernel
theorem dJx4a65c_add_7a177_22 : decode cJx4a65c_add_7a177 22 = .ok (.getfield 9, 3) := by decide +kernel
theorem dJx4a65c_add_7a177_25 : decode cJx4a65c_add_7a177 25 = .ok (.dup, 1) := by decide +kernel
theorem dJx4a65c_add_7a177_26 : decode cJx4a65c_add_7a177 26 = .ok (.astore 4, 2) := by decide +kernel
theorem dJx4a65c_add_7a177_28 : decode cJx4a65c_add_7a177 28 = .ok (.arraylength, 1) := by decide +kernel
theorem dJx4a65c_add_7a177_29 : decode cJx4a65c_add_7a177 29 = .ok (.if_icmp .ne 9, 3) := by decide +kernel
theorem dJx4a65c_add_7a177_32 : decode cJx4a65c_add_7a177 32 = .ok (.aload_n 0, 1) := by decide +kernel
theorem dJx4a65c_add_7a177_33 : decode cJx4a65c_add_7a177 33 = .ok (.invokevirtual 129, 3) := by decide +kernel
theorem dJx4a65c_add_7a177_36 : decode cJx4a65c_add_7a177 36 = .ok (.astore 4, 2) := by decide +kernel
theorem dJx4a65c_add_7a177_38 : decode cJx4a65c_add_7a177 38 = .ok (.aload 4, 2) := by decide +kernel
theorem dJx4a65c_add_7a177_40 : decode cJx4a65c_add_7a177 40 = .ok (.iload_n 1, 1) := by decide +kernel
theorem dJx4a65c_add_7a177_41 : decode cJx4a65c_add_7a177 41 = .ok (.aload 4, 2) := by decide +kernel
theorem dJx4a65c_add_7a177_43 : decode cJx4a65c_add_7a177 43 = .ok (.iload_n 1, 1) := by decide +kernel
theorem dJx4a65c_add_7a177_44 : decode cJx4a65c_add_7a177 44 = .ok (.iconst 1, 1) := by decide +kernel
theorem dJx4a65c_add_7a177_45 : decode cJx4a65c_add_7a177 45 = .ok (.iadd, 1) := by decide +kernel
theorem dJx4a65c_add_7a177_46 : decode cJx4a65c_add_7a177 46 = .ok (.iload_n 3, 1) := by decide +kernel
theorem dJx4a65c_add_7a177_47 : decode cJx4a65c_add_7a177 47 = .ok (.iload_n 1, 1) := by decide +kernel
theorem dJx4a65c_add_7a177_48 : decode cJx4a65c_add_7a177 48 = .ok (.isub, 1) := by decide +kernel
theorem dJx4a65c_add_7a177_49 : decode cJx4a65c_add_7a177 49 = .ok (.invokestatic 112, 3) := by decide +kernel
theorem dJx4a65c_add_7a177_52 : decode cJx4a65c_add_7a177 52 = .ok (.aload 4, 2) := by decide +kernel
theorem dJx4a65c_add_7a177_54 : decode cJx4a65c_add_7a177 54 = .ok (.iload_n 1, 1) := by decide +kernel
theorem dJx4a65c_add_7a177_55 : decode cJx4a65c_add_7a177 55 = .ok (.aload_n 2, 1) := by decide +kernel
theorem dJx4a65c_add_7a177_56 : decode cJx4a65c_add_7a177 56 = .ok (.aastore, 1) := by decide +kernel
theorem dJx4a65c_add_7a177_57 : decode cJx4a65c_add_7a177 57 = .ok (.aload_n 0, 1) := by decide +kernel
theorem dJx4a65c_add_7a177_58 : decode cJx4a65c_add_7a177 58 = .ok (.iload_n 3, 1) := by decide +kernel
theorem dJx4a65c_add_7a177_59 : decode cJx4a65c_add_7a177 59 = .ok (.iconst 1, 1) := by decide +kernel
theorem dJx4a65c_add_7a177_60 : decode cJx4a65c_add_7a177 60 = .ok (.iadd, 1) := by decide +kernel
theorem dJx4a65c_add_7a177_61 : decode cJx4a65c_add_7a177 61 = .ok (.putfield 48, 3) := by decide +kernel
theorem dJx4a65c_add_7a177_64 : decode cJx4a65c_add_7a177 64 = .ok (.return_, 1) := by decide +kernel
theorem dJx4a65c_remove_915e3_0 : decode cJx4a65c_remove_915e3 0 = .ok (.iload_n 1, 1) := by decide +kernel
theorem dJx4a65c_remove_915e3_1 : decode cJx4a65c_remove_915e3 1 = .ok (.aload_n 0, 1) := by decide +kernel
theorem dJx4a65c_remove_915e3_2 : decode cJx4a65c_remove_915e3 2 = .ok (.getfield 48, 3) := by decide +kernel
theorem dJx4a65c_remove_915e3_5 : decode cJx4a65c_remove_915e3 5 = .ok (.invokestatic 118, 3) := by decide +kernel
theorem dJx4a65c_remove_915e3_8 : decode cJx4a65c_remove_915e3 8 = .ok (.pop, 1) := by decide +kernel
theorem dJx4a65c_remove_915e3_9 : decode cJx4a65c_remove_915e3 9 = .ok (.aload_n 0, 1) := by decide +kernel
theorem dJx4a65c_remove_915e3_10 : decode cJx4a65c_remove_915e3 10 = .ok (.getfield 9, 3) := by decide +kernel
theorem dJx4a65c_remove_915e3_13 : decode cJx4a65c_remove_915e3 13 = .ok (.astore_n 2, 1) := by decide +kernel
theorem dJx4a65c_remove_915e3_14 : decode cJx4a65c_remove_915e3 14 = .ok (.aload_n 2, 1) := by decide +kernel
theorem dJx4a65c_remove_915e3_15 : decode cJx4a65c_remove_915e3 15 = .ok (.iload_n 1, 1) := by decide +kernel
theorem dJx4a65c_remove_915e3_16 : decode cJx4a65c_remove_915e3 16 = .ok (.aaload, 1) := by decide +kernel
theorem dJx4a65c_remove_915e3_17 : decode cJx4a65c_remove_915e3 17 = .ok (.astore_n 3, 1) := by decide +kernel
theorem dJx4a65c_remove_915e3_18 : decode cJx4a65c_remove_915e3 18 = .ok (.aload_n 0, 1) := by decide +kernel
theorem dJx4a65c_remove_915e3_19 : decode cJx4a65c_remove_915e3 19 = .ok (.aload_n 2, 1) := by decide +kernel
theorem dJx4a65c_remove_915e3_20 : decode cJx4a65c_remove_915e3 20 = .ok (.iload_n 1, 1) := by decide +kernel
theorem dJx4a65c_remove_915e3_21 : decode cJx4a65c_remove_915e3 21 = .ok (.invokevirtual 144, 3) := by decide +kernel
theorem dJx4a65c_remove_915e3_24 : decode cJx4a65c_remove_915e3 24 = .ok (.aload_n 3, 1) := by decide +kernel
theorem dJx4a65c_remove_915e3_25 : decode cJx4a65c_remove_915e3 25 = .ok (.areturn, 1) := by decide +kernel
theorem dJx4a65c_fastRemove_b59b0_0 : decode cJx4a65c_fastRemove_b59b0 0 = .ok (.aload_n 0, 1) := by decide +kernel
theorem dJx4a65c_fastRemove_b59b0_1 : decode cJx4a65c_fastRemove_b59b0 1 = .ok (.dup, 1) := by decide +kernel
theorem dJx4a65c_fastRemove_b59b0_2 : decode cJx4a65c_fastRemove_b59b0 2 = .ok (.getfield 63, 3) := by decide +kernel
theorem dJx4a65c_fastRemove_b59b0_5 : decode cJx4a65c_fastRemove_b59b0 5 = .ok (.iconst 1, 1) := by decide +kernel
theorem dJx4a65c_fastRemove_b59b0_6 : decode cJx4a65c_fastRemove_b59b0 6 = .ok (.iadd, 1) := by decide +kernel
theorem dJx4a65c_fastRemove_b59b0_7 : decode cJx4a65c_fastRemove_b59b0 7 = .ok (.putfield 63, 3) := by decide +kernel
theorem dJx4a65c_fastRemove_b59b0_10 : decode cJx4a65c_fastRemove_b59b0 10 = .ok (.aload_n 0, 1) := by decide +kernel
theorem dJx4a65c_fastRemove_b59b0_11 : decode cJx4a65c_fastRemove_b59b0 11 = .ok (.getfield 48, 3) := by decide +kernel
theorem dJx4a65c_fastRemove_b59b0_14 : decode cJx4a65c_fastRemove_b59b0 14 = .ok (.iconst 1, 1) := by decide +kernel
theorem dJx4a65c_fastRemove_b59b0_15 : decode cJx4a65c_fastRemove_b59b0 15 = .ok (.isub, 1) := by decide +kernel
theorem dJx4a65c_fastRemove_b59b0_16 : decode cJx4a65c_fastRemove_b59b0 16 = .ok (.dup, 1) := by decide +kernel
theorem dJx4a65c_fastRemove_b59b0_17 : decode cJx4a65c_fastRemove_b59b0 17 = .ok (.istore_n 3, 1) := by decide +kernel
theorem dJx4a65c_fastRemove_b59b0_18 : decode cJx4a65c_fastRemove_b59b0 18 = .ok (.iload_n 2, 1) := by decide +kernel
theorem dJx4a65c_fastRemove_b59b0_19 : decode cJx4a65c_fastRemove_b59b0 19 = .ok (.if_icmp .le 15, 3) := by decide +kernel
theorem dJx4a65c_fastRemove_b59b0_22 : decode cJx4a65c_fastRemove_b59b0 22 = .ok (.aload_n 1, 1) := by decide +kernel
theorem dJx4a65c_fastRemove_b59b0_23 : decode cJx4a65c_fastRemove_b59b0 23 = .ok (.iload_n 2, 1) := by decide +kernel
theorem dJx4a65c_fastRemove_b59b0_24 : decode cJx4a65c_fastRemove_b59b0 24 = .ok (.iconst 1, 1) := by decide +kernel
theorem dJx4a65c_fastRemove_b59b0_25 : decode cJx4a65c_fastRemove_b59b0 25 = .ok (.iadd, 1) := by decide +kernel
theorem dJx4a65c_fastRemove_b59b0_26 : decode cJx4a65c_fastRemove_b59b0 26 = .ok (.aload_n 1, 1) := by decide +kernel
theorem dJx4a65c_fastRemove_b59b0_27 : decode cJx4a65c_fastRemove_b59b0 27 = .ok (.iload_n 2, 1) := by decide +kernel
theorem dJx4a65c_fastRemove_b59b0_28 : decode cJx4a65c_fastRemove_b59b0 28 = .ok (.iload_n 3, 1) := by decide +kernel
theorem dJx4a65c_fastRemove_b59b0_29 : decode cJx4a65c_fastRemove_b59b0 29 = .ok (.iload_n 2, 1) := by decide +kernel
theorem dJx4a65c_fastRemove_b59b0_30 : decode cJx4a65c_fastRemove_b59b0 30 = .ok (.isub, 1) := by decide +kernel
theorem dJx4a65c_fastRemove_b59b0_31 : decode cJx4a65c_fastRemove_b59b0 31 = .ok (.invokestatic 112, 3) := by decide +kernel
theorem dJx4a65c_fastRemove_b59b0_34 : decode cJx4a65c_fastRemove_b59b0 34 = .ok (.aload_n 1, 1) := by decide +kernel
theorem dJx4a65c_fastRemove_b59b0_35 : decode cJx4a65c_fastRemove_b59b0 35 = .ok (.aload_n 0, 1) := by decide +kernel
theorem dJx4a65c_fastRemove_b59b0_36 : decode cJx4a65c_fastRemove_b59b0 36 = .ok (.iload_n 3, 1) := by decide +kernel
theorem dJx4a65c_fastRemove_b59b0_37 : decode cJx4a65c_fastRemove_b59b0 37 = .ok (.dup_x1, 1) := by decide +kernel
theorem dJx4a65c_fastRemove_b59b0_38 : decode cJx4a65c_fastRemove_b59b0 38 = .ok (.putfield 48, 3) := by decide +kernel
theorem dJx4a65c_fastRemove_b59b0_41 : decode cJx4a65c_fastRemove_b59b0 41 = .ok (.aconst_null, 1) := by decide +kernel
theorem dJx4a65c_fastRemove_b59b0_42 : decode cJx4a65c_fastRemove_b59b0 42 = .ok (.aastore, 1) := by decide +kernel
theorem dJx4a65c_fastRemove_b59b0_43 : decode cJx4a65c_fastRemove_b59b0 43 = .ok (.return_, 1) := by decide +kernel
theorem dJx4a65c_rangeCheckForAdd_d00df_0 : decode cJx4a65c_rangeCheckForAdd_d00df 0 = .ok (.iload_n 1, 1) := by decide +kernel
theorem dJx4a65c_rangeCheckForAdd_d00df_1 : decode cJx4a65c_rangeCheckForAdd_d00df 1 = .ok (.aload_n 0, 1) := by decide +kernel
theorem dJx4a65c_rangeCheckForAdd_d00df_2 : decode cJx4a65c_rangeCheckForAdd_d00df 2 = .ok (.getfield 48, 3) := by decide +kernel
theorem dJx4a65c_rangeCheckForAdd_d00df_5 : decode cJx4a65c_rangeCheckForAdd_d00df 5 = .ok (.if_icmp .gt 7, 3) := by decide +kernel
theorem dJx4a65c_rangeCheckForAdd_d00df_8 : decode cJx4a65c_rangeCheckForAdd_d00df 8 = .ok (.iload_n 1, 1) := by decide +kernel
theorem dJx4a65c_rangeCheckForAdd_d00df_9 : decode cJx4a65c_rangeCheckForAdd_d00df 9 = .ok (.ifCond .ge 16, 3) := by decide +kernel
theorem dJx4a65c_rangeCheckForAdd_d00df_12 : decode cJx4a65c_rangeCheckForAdd_d00df 12 = .ok (.new 187, 3) := by decide +kernel
theorem dJx4a65c_rangeCheckForAdd_d00df_15 : decode cJx4a65c_rangeCheckForAdd_d00df 15 = .ok (.dup, 1) := by decide +kernel
theorem dJx4a65c_rangeCheckForAdd_d00df_16 : decode cJx4a65c_rangeCheckForAdd_d00df 16 = .ok (.aload_n 0, 1) := by decide +kernel
theorem dJx4a65c_rangeCheckForAdd_d00df_17 : decode cJx4a65c_rangeCheckForAdd_d00df 17 = .ok (.iload_n 1, 1) := by decide +kernel
theorem dJx4a65c_rangeCheckForAdd_d00df_18 : decode cJx4a65c_rangeCheckForAdd_d00df 18 = .ok (.invokevirtual 198, 3) := by decide +kernel
theorem dJx4a65c_rangeCheckForAdd_d00df_21 : decode cJx4a65c_rangeCheckForAdd_d00df 21 = .ok (.invokespecial 193, 3) := by decide +kernel
theorem dJx4a65c_rangeCheckForAdd_d00df_24 : decode cJx4a65c_rangeCheckForAdd_d00df 24 = .ok (.athrow, 1) := by decide +kernel
theorem dJx4a65c_rangeCheckForAdd_d00df_25 : decode cJx4a65c_rangeCheckForAdd_d00df 25 = .ok (.return_, 1) := by decide +kernel
theorem dJx4a65c_outOfBoundsMsg_b52d3_0 : decode cJx4a65c_outOfBoundsMsg_b52d3 0 = .ok (.new 20, 3) := by decide +kernel
theorem dJx4a65c_outOfBoundsMsg_b52d3_3 : decode cJx4a65c_outOfBoundsMsg_b52d3 3 = .ok (.dup, 1) := by decide +kernel
theorem dJx4a65c_outOfBoundsMsg_b52d3_4 : decode cJx4a65c_outOfBoundsMsg_b52d3 4 = .ok (.invokespecial 22, 3) := by decide +kernel
theorem dJx4a65c_outOfBoundsMsg_b52d3_7 : decode cJx4a65c_outOfBoundsMsg_b52d3 7 = .ok (.ldc 201, 2) := by decide +kernel
theorem dJx4a65c_outOfBoundsMsg_b52d3_9 : decode cJx4a65c_outOfBoundsMsg_b52d3 9 = .ok (.invokevirtual 25, 3) := by decide +kernel
theorem dJx4a65c_outOfBoundsMsg_b52d3_12 : decode cJx4a65c_outOfBoundsMsg_b52d3 12 = .ok (.iload_n 1, 1) := by decide +kernel
theorem dJx4a65c_outOfBoundsMsg_b52d3_13 : decode cJx4a65c_outOfBoundsMsg_b52d3 13 = .ok (.invokevirtual 29, 3) := by decide +kernel
theorem dJx4a65c_outOfBoundsMsg_b52d3_16 : decode cJx4a65c_outOfBoundsMsg_b52d3 16 = .ok (.ldc 203, 2) := by decide +kernel
theorem dJx4a65c_outOfBoundsMsg_b52d3_18 : decode cJx4a65c_outOfBoundsMsg_b52d3 18 = .ok (.invokevirtual 25, 3) := by decide +kernel
theorem dJx4a65c_outOfBoundsMsg_b52d3_21 : decode cJx4a65c_outOfBoundsMsg_b52d3 21 = .ok (.aload_n 0, 1) := by decide +kernel
theorem dJx4a65c_outOfBoundsMsg_b52d3_22 : decode cJx4a65c_outOfBoundsMsg_b52d3 22 = .ok (.getfield 48, 3) := by decide +kernel
theorem dJx4a65c_outOfBoundsMsg_b52d3_25 : decode cJx4a65c_outOfBoundsMsg_b52d3 25 = .ok (.invokevirtual 29, 3) := by decide +kernel
theorem dJx4a65c_outOfBoundsMsg_b52d3_28 : decode cJx4a65c_outOfBoundsMsg_b52d3 28 = .ok (.invokevirtual 32, 3) := by decide +kernel
theorem dJx4a65c_outOfBoundsMsg_b52d3_31 : decode cJx4a65c_outOfBoundsMsg_b52d3 31 = .ok (.areturn, 1) := by decide +kernel
theorem dJ7_copyOf_1904c_0 : decode cJ7_copyOf_1904c 0 = .ok (.aload_n 0, 1) := by decide +kernel
theorem dJ7_copyOf_1904c_1 : decode cJ7_copyOf_1904c 1 = .ok (.iload_n 1, 1) := by decide +kernel
theorem dJ7_copyOf_1904c_2 : decode cJ7_copyOf_1904c 2 = .ok (.aload_n 0, 1) := by decide +kernel
theorem dJ7_copyOf_1904c_3 : decode cJ7_copyOf_1904c 3 = .ok (.invokevirtual 86, 3) := by decide +kernel
theorem dJ7_copyOf_1904c_6 : decode cJ7_copyOf_1904c 6 = .ok (.invokestatic 300, 3) := by decide +kernel
theorem dJ7_copyOf_1904c_9 : decode cJ7_copyOf_1904c 9 = .ok (.areturn, 1) := by decide +kernel
theorem dJ7_copyOf_6403c_0 : decode cJ7_copyOf_6403c 0 = .ok (.aload_n 2, 1) := by decide +kernel
theorem dJ7_copyOf_6403c_1 : decode cJ7_copyOf_6403c 1 = .ok (.ldc 110, 2) := by decide +kernel
theorem dJ7_copyOf_6403c_3 : decode cJ7_copyOf_6403c 3 = .ok (.if_acmp .ne 10, 3) := by decide +kernel
theorem dJ7_copyOf_6403c_6 : decode cJ7_copyOf_6403c 6 = .ok (.iload_n 1, 1) := by decide +kernel
theorem dJ7_copyOf_6403c_7 : decode cJ7_copyOf_6403c 7 = .ok (.anewarray 2, 3) := by decide +kernel
theorem dJ7_copyOf_6403c_10 : decode cJ7_copyOf_6403c 10 = .ok (.goto 14, 3) := by decide +kernel
theorem dJ7_copyOf_6403c_13 : decode cJ7_copyOf_6403c 13 = .ok (.aload_n 2, 1) := by decide +kernel
theorem dJ7_copyOf_6403c_14 : decode cJ7_copyOf_6403c 14 = .ok (.invokevirtual 90, 3) := by decide +kernel
theorem dJ7_copyOf_6403c_17 : decode cJ7_copyOf_6403c 17 = .ok (.iload_n 1, 1) := by decide +kernel
theorem dJ7_copyOf_6403c_18 : decode cJ7_copyOf_6403c 18 = .ok (.invokestatic 95, 3) := by decide +kernel
theorem dJ7_copyOf_6403c_21 : decode cJ7_copyOf_6403c 21 = .ok (.checkcast 110, 3) := by decide +kernel
theorem dJ7_copyOf_6403c_24 : decode cJ7_copyOf_6403c 24 = .ok (.astore_n 3, 1) := by decide +kernel
theorem dJ7_copyOf_6403c_25 : decode cJ7_copyOf_6403c 25 = .ok (.aload_n 0, 1) := by decide +kernel
theorem dJ7_copyOf_6403c_26 : decode cJ7_copyOf_6403c 26 = .ok (.iconst 0, 1) := by decide +kernel
theorem dJ7_copyOf_6403c_27 : decode cJ7_copyOf_6403c 27 = .ok (.aload_n 3, 1) := by decide +kernel
theorem dJ7_copyOf_6403c_28 : decode cJ7_copyOf_6403c 28 = .ok (.iconst 0, 1) := by decide +kernel
theorem dJ7_copyOf_6403c_29 : decode cJ7_copyOf_6403c 29 = .ok (.aload_n 0, 1) := by decide +kernel
theorem dJ7_copyOf_6403c_30 : decode cJ7_copyOf_6403c 30 = .ok (.arraylength, 1) := by decide +kernel
theorem dJ7_copyOf_6403c_31 : decode cJ7_copyOf_6403c 31 = .ok (.iload_n 1, 1) := by decide +kernel
theorem dJ7_copyOf_6403c_32 : decode cJ7_copyOf_6403c 32 = .ok (.invokestatic 304, 3) := by decide +kernel
theorem dJ7_copyOf_6403c_35 : decode cJ7_copyOf_6403c 35 = .ok (.invokestatic 150, 3) := by decide +kernel
theorem dJ7_copyOf_6403c_38 : decode cJ7_copyOf_6403c 38 = .ok (.aload_n 3, 1) := by decide +kernel
theorem dJ7_copyOf_6403c_39 : decode cJ7_copyOf_6403c 39 = .ok (.areturn, 1) := by decide +kernel
theorem dJ15_checkIndex_7cf53_0 : decode cJ15_checkIndex_7cf53 0 = .ok (.iload_n 0, 1) := by decide +kernel
theorem dJ15_checkIndex_7cf53_1 : decode cJ15_checkIndex_7cf53 1 = .ok (.iload_n 1, 1) := by decide +kernel
theorem dJ15_checkIndex_7cf53_2 : decode cJ15_checkIndex_7cf53 2 = .ok (.aconst_null, 1) := by decide +kernel
theorem dJ15_checkIndex_7cf53_3 : decode cJ15_checkIndex_7cf53 3 = .ok (.invokestatic 105, 3) := by decide +kernel
theorem dJ15_checkIndex_7cf53_6 : decode cJ15_checkIndex_7cf53 6 = .ok (.ireturn, 1) := by decide +kernel
theorem dJ8_newLength_cabcc_0 : decode cJ8_newLength_cabcc 0 = .ok (.iload_n 0, 1) := by decide +kernel
theorem dJ8_newLength_cabcc_1 : decode cJ8_newLength_cabcc 1 = .ok (.iload_n 1, 1) := by decide +kernel
theorem dJ8_newLength_cabcc_2 : decode cJ8_newLength_cabcc 2 = .ok (.iload_n 2, 1) := by decide +kernel
theorem dJ8_newLength_cabcc_3 : decode cJ8_newLength_cabcc 3 = .ok (.invokestatic 194, 3) := by decide +kernel
theorem dJ8_newLength_cabcc_6 : decode cJ8_newLength_cabcc 6 = .ok (.iadd, 1) := by decide +kernel
theorem dJ8_newLength_cabcc_7 : decode cJ8_newLength_cabcc 7 = .ok (.istore_n 3, 1) := by decide +kernel
theorem dJ8_newLength_cabcc_8 : decode cJ8_newLength_cabcc 8 = .ok (.iconst 0, 1) := by decide +kernel
theorem dJ8_newLength_cabcc_9 : decode cJ8_newLength_cabcc 9 = .ok (.iload_n 3, 1) := by decide +kernel
theorem dJ8_newLength_cabcc_10 : decode cJ8_newLength_cabcc 10 = .ok (.if_icmp .ge 11, 3) := by decide +kernel
theorem dJ8_newLength_cabcc_13 : decode cJ8_newLength_cabcc 13 = .ok (.iload_n 3, 1) := by decide +kernel
theorem dJ8_newLength_cabcc_14 : decode cJ8_newLength_cabcc 14 = .ok (.ldc 200, 2) := by decide +kernel
theorem dJ8_newLength_cabcc_16 : decode cJ8_newLength_cabcc 16 = .ok (.if_icmp .gt 5, 3) := by decide +kernel
theorem dJ8_newLength_cabcc_19 : decode cJ8_newLength_cabcc 19 = .ok (.iload_n 3, 1) := by decide +kernel
theorem dJ8_newLength_cabcc_20 : decode cJ8_newLength_cabcc 20 = .ok (.ireturn, 1) := by decide +kernel
theorem dJ8_newLength_cabcc_21 : decode cJ8_newLength_cabcc 21 = .ok (.iload_n 0, 1) := by decide +kernel
theorem dJ8_newLength_cabcc_22 : decode cJ8_newLength_cabcc 22 = .ok (.iload_n 1, 1) := by decide +kernel
theorem dJ8_newLength_cabcc_23 : decode cJ8_newLength_cabcc 23 = .ok (.invokestatic 201, 3) := by decide +kernel
theorem dJ8_newLength_cabcc_26 : decode cJ8_newLength_cabcc 26 = .ok (.ireturn, 1) := by decide +kernel
theorem dJ3_checkIndex_8e157_0 : decode cJ3_checkIndex_8e157 0 = .ok (.iload_n 0, 1) := by decide +kernel
theorem dJ3_checkIndex_8e157_1 : decode cJ3_checkIndex_8e157 1 = .ok (.ifCond .lt 8, 3) := by decide +kernel
theorem dJ3_checkIndex_8e157_4 : decode cJ3_checkIndex_8e157 4 = .ok (.iload_n 0, 1) := by decide +kernel
theorem dJ3_checkIndex_8e157_5 : decode cJ3_checkIndex_8e157 5 = .ok (.iload_n 1, 1) := by decide +kernel
theorem dJ3_checkIndex_8e157_6 : decode cJ3_checkIndex_8e157 6 = .ok (.if_icmp .lt 10, 3) := by decide +kernel
theorem dJ3_checkIndex_8e157_9 : decode cJ3_checkIndex_8e157 9 = .ok (.aload_n 2, 1) := by decide +kernel
theorem dJ3_checkIndex_8e157_10 : decode cJ3_checkIndex_8e157 10 = .ok (.iload_n 0, 1) := by decide +kernel
theorem dJ3_checkIndex_8e157_11 : decode cJ3_checkIndex_8e157 11 = .ok (.iload_n 1, 1) := by decide +kernel
theorem dJ3_checkIndex_8e157_12 : decode cJ3_checkIndex_8e157 12 = .ok (.invokestatic 95, 3) := by decide +kernel
theorem dJ3_checkIndex_8e157_15 : decode cJ3_checkIndex_8e157 15 = .ok (.athrow, 1) := by decide +kernel
theorem dJ3_checkIndex_8e157_16 : decode cJ3_checkIndex_8e157 16 = .ok (.iload_n 0, 1) := by decide +kernel
theorem dJ3_checkIndex_8e157_17 : decode cJ3_checkIndex_8e157 17 = .ok (.ireturn, 1) := by decide +kernel
