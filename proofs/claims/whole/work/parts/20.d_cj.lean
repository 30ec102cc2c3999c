theorem dX0_init_0 : decode cX0_init 0 = .ok (.aload_n 0, 1) := by decide +kernel
theorem dX0_init_1 : decode cX0_init 1 = .ok (.invokespecial 3, 3) := by decide +kernel
theorem dX0_init_4 : decode cX0_init 4 = .ok (.aload_n 0, 1) := by decide +kernel
theorem dX0_init_5 : decode cX0_init 5 = .ok (.iconst 4, 1) := by decide +kernel
theorem dX0_init_6 : decode cX0_init 6 = .ok (.newarray .int, 2) := by decide +kernel
theorem dX0_init_8 : decode cX0_init 8 = .ok (.putfield 9, 3) := by decide +kernel
theorem dX0_init_11 : decode cX0_init 11 = .ok (.aload_n 0, 1) := by decide +kernel
theorem dX0_init_12 : decode cX0_init 12 = .ok (.iconst 4, 1) := by decide +kernel
theorem dX0_init_13 : decode cX0_init 13 = .ok (.newarray .int, 2) := by decide +kernel
theorem dX0_init_15 : decode cX0_init 15 = .ok (.putfield 15, 3) := by decide +kernel
theorem dX0_init_18 : decode cX0_init 18 = .ok (.aload_n 0, 1) := by decide +kernel
theorem dX0_init_19 : decode cX0_init 19 = .ok (.bipush 60, 2) := by decide +kernel
theorem dX0_init_21 : decode cX0_init 21 = .ok (.newarray .int, 2) := by decide +kernel
theorem dX0_init_23 : decode cX0_init 23 = .ok (.putfield 18, 3) := by decide +kernel
theorem dX0_init_26 : decode cX0_init 26 = .ok (.aload_n 0, 1) := by decide +kernel
theorem dX0_init_27 : decode cX0_init 27 = .ok (.bipush 60, 2) := by decide +kernel
theorem dX0_init_29 : decode cX0_init 29 = .ok (.newarray .int, 2) := by decide +kernel
theorem dX0_init_31 : decode cX0_init 31 = .ok (.putfield 21, 3) := by decide +kernel
theorem dX0_init_34 : decode cX0_init 34 = .ok (.aload_n 0, 1) := by decide +kernel
theorem dX0_init_35 : decode cX0_init 35 = .ok (.bipush 60, 2) := by decide +kernel
theorem dX0_init_37 : decode cX0_init 37 = .ok (.newarray .int, 2) := by decide +kernel
theorem dX0_init_39 : decode cX0_init 39 = .ok (.putfield 24, 3) := by decide +kernel
theorem dX0_init_42 : decode cX0_init 42 = .ok (.aload_n 0, 1) := by decide +kernel
theorem dX0_init_43 : decode cX0_init 43 = .ok (.bipush 60, 2) := by decide +kernel
theorem dX0_init_45 : decode cX0_init 45 = .ok (.newarray .int, 2) := by decide +kernel
theorem dX0_init_47 : decode cX0_init 47 = .ok (.putfield 27, 3) := by decide +kernel
theorem dX0_init_50 : decode cX0_init 50 = .ok (.aload_n 0, 1) := by decide +kernel
theorem dX0_init_51 : decode cX0_init 51 = .ok (.bipush 30, 2) := by decide +kernel
theorem dX0_init_53 : decode cX0_init 53 = .ok (.newarray .int, 2) := by decide +kernel
theorem dX0_init_55 : decode cX0_init 55 = .ok (.putfield 30, 3) := by decide +kernel
theorem dX0_init_58 : decode cX0_init 58 = .ok (.aload_n 0, 1) := by decide +kernel
theorem dX0_init_59 : decode cX0_init 59 = .ok (.bipush 30, 2) := by decide +kernel
theorem dX0_init_61 : decode cX0_init 61 = .ok (.newarray .int, 2) := by decide +kernel
theorem dX0_init_63 : decode cX0_init 63 = .ok (.putfield 33, 3) := by decide +kernel
theorem dX0_init_66 : decode cX0_init 66 = .ok (.return_, 1) := by decide +kernel
theorem dX0_reset_0 : decode cX0_reset 0 = .ok (.iconst 0, 1) := by decide +kernel
theorem dX0_reset_1 : decode cX0_reset 1 = .ok (.istore_n 1, 1) := by decide +kernel
theorem dX0_reset_2 : decode cX0_reset 2 = .ok (.iload_n 1, 1) := by decide +kernel
theorem dX0_reset_3 : decode cX0_reset 3 = .ok (.iconst 4, 1) := by decide +kernel
theorem dX0_reset_4 : decode cX0_reset 4 = .ok (.if_icmp .ge 23, 3) := by decide +kernel
theorem dX0_reset_7 : decode cX0_reset 7 = .ok (.aload_n 0, 1) := by decide +kernel
theorem dX0_reset_8 : decode cX0_reset 8 = .ok (.getfield 9, 3) := by decide +kernel
theorem dX0_reset_11 : decode cX0_reset 11 = .ok (.iload_n 1, 1) := by decide +kernel
theorem dX0_reset_12 : decode cX0_reset 12 = .ok (.iload_n 1, 1) := by decide +kernel
theorem dX0_reset_13 : decode cX0_reset 13 = .ok (.iastore, 1) := by decide +kernel
theorem dX0_reset_14 : decode cX0_reset 14 = .ok (.aload_n 0, 1) := by decide +kernel
theorem dX0_reset_15 : decode cX0_reset 15 = .ok (.getfield 15, 3) := by decide +kernel
theorem dX0_reset_18 : decode cX0_reset 18 = .ok (.iload_n 1, 1) := by decide +kernel
theorem dX0_reset_19 : decode cX0_reset 19 = .ok (.iload_n 1, 1) := by decide +kernel
theorem dX0_reset_20 : decode cX0_reset 20 = .ok (.iastore, 1) := by decide +kernel
theorem dX0_reset_21 : decode cX0_reset 21 = .ok (.iinc 1 1, 3) := by decide +kernel
theorem dX0_reset_24 : decode cX0_reset 24 = .ok (.goto (-22), 3) := by decide +kernel
theorem dX0_reset_27 : decode cX0_reset 27 = .ok (.aload_n 0, 1) := by decide +kernel
theorem dX0_reset_28 : decode cX0_reset 28 = .ok (.getfield 30, 3) := by decide +kernel
theorem dX0_reset_31 : decode cX0_reset 31 = .ok (.bipush (-99), 2) := by decide +kernel
theorem dX0_reset_33 : decode cX0_reset 33 = .ok (.invokestatic 36, 3) := by decide +kernel
theorem dX0_reset_36 : decode cX0_reset 36 = .ok (.aload_n 0, 1) := by decide +kernel
theorem dX0_reset_37 : decode cX0_reset 37 = .ok (.iconst 0, 1) := by decide +kernel
theorem dX0_reset_38 : decode cX0_reset 38 = .ok (.putfield 42, 3) := by decide +kernel
theorem dX0_reset_41 : decode cX0_reset 41 = .ok (.aload_n 0, 1) := by decide +kernel
theorem dX0_reset_42 : decode cX0_reset 42 = .ok (.iconst 0, 1) := by decide +kernel
theorem dX0_reset_43 : decode cX0_reset 43 = .ok (.putfield 46, 3) := by decide +kernel
theorem dX0_reset_46 : decode cX0_reset 46 = .ok (.aload_n 0, 1) := by decide +kernel
theorem dX0_reset_47 : decode cX0_reset 47 = .ok (.iconst 0, 1) := by decide +kernel
theorem dX0_reset_48 : decode cX0_reset 48 = .ok (.putfield 49, 3) := by decide +kernel
theorem dX0_reset_51 : decode cX0_reset 51 = .ok (.aload_n 0, 1) := by decide +kernel
theorem dX0_reset_52 : decode cX0_reset 52 = .ok (.iconst 0, 1) := by decide +kernel
theorem dX0_reset_53 : decode cX0_reset 53 = .ok (.putfield 52, 3) := by decide +kernel
theorem dX0_reset_56 : decode cX0_reset 56 = .ok (.aload_n 0, 1) := by decide +kernel
theorem dX0_reset_57 : decode cX0_reset 57 = .ok (.iconst 0, 1) := by decide +kernel
theorem dX0_reset_58 : decode cX0_reset 58 = .ok (.putfield 55, 3) := by decide +kernel
theorem dX0_reset_61 : decode cX0_reset 61 = .ok (.return_, 1) := by decide +kernel
theorem dX0_sense_0 : decode cX0_sense 0 = .ok (.aload_n 0, 1) := by decide +kernel
theorem dX0_sense_1 : decode cX0_sense 1 = .ok (.getfield 42, 3) := by decide +kernel
theorem dX0_sense_4 : decode cX0_sense 4 = .ok (.ifCond .ne 7, 3) := by decide +kernel
theorem dX0_sense_7 : decode cX0_sense 7 = .ok (.iconst 1, 1) := by decide +kernel
theorem dX0_sense_8 : decode cX0_sense 8 = .ok (.goto 4, 3) := by decide +kernel
theorem dX0_sense_11 : decode cX0_sense 11 = .ok (.iconst (-1), 1) := by decide +kernel
theorem dX0_sense_12 : decode cX0_sense 12 = .ok (.ireturn, 1) := by decide +kernel
theorem dX0_twistOf_0 : decode cX0_twistOf 0 = .ok (.iload_n 1, 1) := by decide +kernel
theorem dX0_twistOf_1 : decode cX0_twistOf 1 = .ok (.iconst 2, 1) := by decide +kernel
theorem dX0_twistOf_2 : decode cX0_twistOf 2 = .ok (.if_icmp .ne 5, 3) := by decide +kernel
theorem dX0_twistOf_5 : decode cX0_twistOf 5 = .ok (.iconst 0, 1) := by decide +kernel
theorem dX0_twistOf_6 : decode cX0_twistOf 6 = .ok (.ireturn, 1) := by decide +kernel
theorem dX0_twistOf_7 : decode cX0_twistOf 7 = .ok (.iload_n 1, 1) := by decide +kernel
theorem dX0_twistOf_8 : decode cX0_twistOf 8 = .ok (.ifCond .ne 10, 3) := by decide +kernel
theorem dX0_twistOf_11 : decode cX0_twistOf 11 = .ok (.aload_n 0, 1) := by decide +kernel
theorem dX0_twistOf_12 : decode cX0_twistOf 12 = .ok (.invokevirtual 59, 3) := by decide +kernel
theorem dX0_twistOf_15 : decode cX0_twistOf 15 = .ok (.goto 8, 3) := by decide +kernel
theorem dX0_twistOf_18 : decode cX0_twistOf 18 = .ok (.aload_n 0, 1) := by decide +kernel
theorem dX0_twistOf_19 : decode cX0_twistOf 19 = .ok (.invokevirtual 59, 3) := by decide +kernel
theorem dX0_twistOf_22 : decode cX0_twistOf 22 = .ok (.ineg, 1) := by decide +kernel
theorem dX0_twistOf_23 : decode cX0_twistOf 23 = .ok (.ireturn, 1) := by decide +kernel
theorem dX0_turnOver_0 : decode cX0_turnOver 0 = .ok (.aload_n 0, 1) := by decide +kernel
theorem dX0_turnOver_1 : decode cX0_turnOver 1 = .ok (.iconst 0, 1) := by decide +kernel
theorem dX0_turnOver_2 : decode cX0_turnOver 2 = .ok (.iconst 1, 1) := by decide +kernel
theorem dX0_turnOver_3 : decode cX0_turnOver 3 = .ok (.invokevirtual 63, 3) := by decide +kernel
theorem dX0_turnOver_6 : decode cX0_turnOver 6 = .ok (.aload_n 0, 1) := by decide +kernel
theorem dX0_turnOver_7 : decode cX0_turnOver 7 = .ok (.iconst 2, 1) := by decide +kernel
theorem dX0_turnOver_8 : decode cX0_turnOver 8 = .ok (.iconst 3, 1) := by decide +kernel
theorem dX0_turnOver_9 : decode cX0_turnOver 9 = .ok (.invokevirtual 63, 3) := by decide +kernel
theorem dX0_turnOver_12 : decode cX0_turnOver 12 = .ok (.aload_n 0, 1) := by decide +kernel
theorem dX0_turnOver_13 : decode cX0_turnOver 13 = .ok (.iconst 1, 1) := by decide +kernel
theorem dX0_turnOver_14 : decode cX0_turnOver 14 = .ok (.aload_n 0, 1) := by decide +kernel
theorem dX0_turnOver_15 : decode cX0_turnOver 15 = .ok (.getfield 42, 3) := by decide +kernel
theorem dX0_turnOver_18 : decode cX0_turnOver 18 = .ok (.isub, 1) := by decide +kernel
theorem dX0_turnOver_19 : decode cX0_turnOver 19 = .ok (.putfield 42, 3) := by decide +kernel
theorem dX0_turnOver_22 : decode cX0_turnOver 22 = .ok (.aload_n 0, 1) := by decide +kernel
theorem dX0_turnOver_23 : decode cX0_turnOver 23 = .ok (.iconst 0, 1) := by decide +kernel
theorem dX0_turnOver_24 : decode cX0_turnOver 24 = .ok (.putfield 55, 3) := by decide +kernel
theorem dX0_turnOver_27 : decode cX0_turnOver 27 = .ok (.return_, 1) := by decide +kernel
theorem dX0_exchange_0 : decode cX0_exchange 0 = .ok (.aload_n 0, 1) := by decide +kernel
theorem dX0_exchange_1 : decode cX0_exchange 1 = .ok (.getfield 9, 3) := by decide +kernel
theorem dX0_exchange_4 : decode cX0_exchange 4 = .ok (.iload_n 1, 1) := by decide +kernel
theorem dX0_exchange_5 : decode cX0_exchange 5 = .ok (.iaload, 1) := by decide +kernel
theorem dX0_exchange_6 : decode cX0_exchange 6 = .ok (.istore_n 3, 1) := by decide +kernel
theorem dX0_exchange_7 : decode cX0_exchange 7 = .ok (.aload_n 0, 1) := by decide +kernel
theorem dX0_exchange_8 : decode cX0_exchange 8 = .ok (.getfield 9, 3) := by decide +kernel
theorem dX0_exchange_11 : decode cX0_exchange 11 = .ok (.iload_n 1, 1) := by decide +kernel
theorem dX0_exchange_12 : decode cX0_exchange 12 = .ok (.aload_n 0, 1) := by decide +kernel
theorem dX0_exchange_13 : decode cX0_exchange 13 = .ok (.getfield 9, 3) := by decide +kernel
theorem dX0_exchange_16 : decode cX0_exchange 16 = .ok (.iload_n 2, 1) := by decide +kernel
theorem dX0_exchange_17 : decode cX0_exchange 17 = .ok (.iaload, 1) := by decide +kernel
theorem dX0_exchange_18 : decode cX0_exchange 18 = .ok (.iastore, 1) := by decide +kernel
theorem dX0_exchange_19 : decode cX0_exchange 19 = .ok (.aload_n 0, 1) := by decide +kernel
theorem dX0_exchange_20 : decode cX0_exchange 20 = .ok (.getfield 9, 3) := by decide +kernel
theorem dX0_exchange_23 : decode cX0_exchange 23 = .ok (.iload_n 2, 1) := by decide +kernel
theorem dX0_exchange_24 : decode cX0_exchange 24 = .ok (.iload_n 3, 1) := by decide +kernel
theorem dX0_exchange_25 : decode cX0_exchange 25 = .ok (.iastore, 1) := by decide +kernel
theorem dX0_exchange_26 : decode cX0_exchange 26 = .ok (.return_, 1) := by decide +kernel
theorem dX0_turnIn_0 : decode cX0_turnIn 0 = .ok (.aload_n 0, 1) := by decide +kernel
theorem dX0_turnIn_1 : decode cX0_turnIn 1 = .ok (.getfield 27, 3) := by decide +kernel
theorem dX0_turnIn_4 : decode cX0_turnIn 4 = .ok (.iload_n 1, 1) := by decide +kernel
theorem dX0_turnIn_5 : decode cX0_turnIn 5 = .ok (.aload_n 0, 1) := by decide +kernel
theorem dX0_turnIn_6 : decode cX0_turnIn 6 = .ok (.getfield 52, 3) := by decide +kernel
theorem dX0_turnIn_9 : decode cX0_turnIn 9 = .ok (.iastore, 1) := by decide +kernel
theorem dX0_turnIn_10 : decode cX0_turnIn 10 = .ok (.aload_n 0, 1) := by decide +kernel
theorem dX0_turnIn_11 : decode cX0_turnIn 11 = .ok (.getfield 18, 3) := by decide +kernel
theorem dX0_turnIn_14 : decode cX0_turnIn 14 = .ok (.iload_n 1, 1) := by decide +kernel
theorem dX0_turnIn_15 : decode cX0_turnIn 15 = .ok (.iload_n 2, 1) := by decide +kernel
theorem dX0_turnIn_16 : decode cX0_turnIn 16 = .ok (.iastore, 1) := by decide +kernel
theorem dX0_turnIn_17 : decode cX0_turnIn 17 = .ok (.aload_n 0, 1) := by decide +kernel
theorem dX0_turnIn_18 : decode cX0_turnIn 18 = .ok (.getfield 24, 3) := by decide +kernel
theorem dX0_turnIn_21 : decode cX0_turnIn 21 = .ok (.iload_n 1, 1) := by decide +kernel
theorem dX0_turnIn_22 : decode cX0_turnIn 22 = .ok (.aload_n 0, 1) := by decide +kernel
theorem dX0_turnIn_23 : decode cX0_turnIn 23 = .ok (.iload_n 1, 1) := by decide +kernel
theorem dX0_turnIn_24 : decode cX0_turnIn 24 = .ok (.iload_n 2, 1) := by decide +kernel
theorem dX0_turnIn_25 : decode cX0_turnIn 25 = .ok (.invokevirtual 67, 3) := by decide +kernel
theorem dX0_turnIn_28 : decode cX0_turnIn 28 = .ok (.iastore, 1) := by decide +kernel
theorem dX0_turnIn_29 : decode cX0_turnIn 29 = .ok (.aload_n 0, 1) := by decide +kernel
theorem dX0_turnIn_30 : decode cX0_turnIn 30 = .ok (.iload_n 2, 1) := by decide +kernel
theorem dX0_turnIn_31 : decode cX0_turnIn 31 = .ok (.invokevirtual 71, 3) := by decide +kernel
theorem dX0_turnIn_34 : decode cX0_turnIn 34 = .ok (.aload_n 0, 1) := by decide +kernel
theorem dX0_turnIn_35 : decode cX0_turnIn 35 = .ok (.getfield 21, 3) := by decide +kernel
theorem dX0_turnIn_38 : decode cX0_turnIn 38 = .ok (.iload_n 1, 1) := by decide +kernel
theorem dX0_turnIn_39 : decode cX0_turnIn 39 = .ok (.iload_n 2, 1) := by decide +kernel
theorem dX0_turnIn_40 : decode cX0_turnIn 40 = .ok (.iconst 2, 1) := by decide +kernel
theorem dX0_turnIn_41 : decode cX0_turnIn 41 = .ok (.if_icmp .ne 11, 3) := by decide +kernel
theorem dX0_turnIn_44 : decode cX0_turnIn 44 = .ok (.aload_n 0, 1) := by decide +kernel
theorem dX0_turnIn_45 : decode cX0_turnIn 45 = .ok (.iload_n 1, 1) := by decide +kernel
theorem dX0_turnIn_46 : decode cX0_turnIn 46 = .ok (.invokevirtual 75, 3) := by decide +kernel
theorem dX0_turnIn_49 : decode cX0_turnIn 49 = .ok (.goto 9, 3) := by decide +kernel
theorem dX0_turnIn_52 : decode cX0_turnIn 52 = .ok (.aload_n 0, 1) := by decide +kernel
theorem dX0_turnIn_53 : decode cX0_turnIn 53 = .ok (.getfield 9, 3) := by decide +kernel
theorem dX0_turnIn_56 : decode cX0_turnIn 56 = .ok (.iload_n 2, 1) := by decide +kernel
theorem dX0_turnIn_57 : decode cX0_turnIn 57 = .ok (.iaload, 1) := by decide +kernel
theorem dX0_turnIn_58 : decode cX0_turnIn 58 = .ok (.iastore, 1) := by decide +kernel
theorem dX0_turnIn_59 : decode cX0_turnIn 59 = .ok (.return_, 1) := by decide +kernel
theorem dX0_takeBack_0 : decode cX0_takeBack 0 = .ok (.aload_n 0, 1) := by decide +kernel
theorem dX0_takeBack_1 : decode cX0_takeBack 1 = .ok (.getfield 52, 3) := by decide +kernel
theorem dX0_takeBack_4 : decode cX0_takeBack 4 = .ok (.aload_n 0, 1) := by decide +kernel
theorem dX0_takeBack_5 : decode cX0_takeBack 5 = .ok (.getfield 27, 3) := by decide +kernel
theorem dX0_takeBack_8 : decode cX0_takeBack 8 = .ok (.iload_n 1, 1) := by decide +kernel
theorem dX0_takeBack_9 : decode cX0_takeBack 9 = .ok (.iaload, 1) := by decide +kernel
theorem dX0_takeBack_10 : decode cX0_takeBack 10 = .ok (.isub, 1) := by decide +kernel
theorem dX0_takeBack_11 : decode cX0_takeBack 11 = .ok (.iconst 2, 1) := by decide +kernel
theorem dX0_takeBack_12 : decode cX0_takeBack 12 = .ok (.irem, 1) := by decide +kernel
theorem dX0_takeBack_13 : decode cX0_takeBack 13 = .ok (.ifCond .eq 7, 3) := by decide +kernel
theorem dX0_takeBack_16 : decode cX0_takeBack 16 = .ok (.aload_n 0, 1) := by decide +kernel
theorem dX0_takeBack_17 : decode cX0_takeBack 17 = .ok (.invokevirtual 79, 3) := by decide +kernel
theorem dX0_takeBack_20 : decode cX0_takeBack 20 = .ok (.aload_n 0, 1) := by decide +kernel
theorem dX0_takeBack_21 : decode cX0_takeBack 21 = .ok (.aload_n 0, 1) := by decide +kernel
theorem dX0_takeBack_22 : decode cX0_takeBack 22 = .ok (.getfield 27, 3) := by decide +kernel
theorem dX0_takeBack_25 : decode cX0_takeBack 25 = .ok (.iload_n 1, 1) := by decide +kernel
theorem dX0_takeBack_26 : decode cX0_takeBack 26 = .ok (.iaload, 1) := by decide +kernel
theorem dX0_takeBack_27 : decode cX0_takeBack 27 = .ok (.putfield 52, 3) := by decide +kernel
theorem dX0_takeBack_30 : decode cX0_takeBack 30 = .ok (.aload_n 0, 1) := by decide +kernel
theorem dX0_takeBack_31 : decode cX0_takeBack 31 = .ok (.aload_n 0, 1) := by decide +kernel
theorem dX0_takeBack_32 : decode cX0_takeBack 32 = .ok (.getfield 18, 3) := by decide +kernel
theorem dX0_takeBack_35 : decode cX0_takeBack 35 = .ok (.iload_n 1, 1) := by decide +kernel
theorem dX0_takeBack_36 : decode cX0_takeBack 36 = .ok (.iaload, 1) := by decide +kernel
theorem dX0_takeBack_37 : decode cX0_takeBack 37 = .ok (.invokestatic 82, 3) := by decide +kernel
theorem dX0_takeBack_40 : decode cX0_takeBack 40 = .ok (.invokevirtual 71, 3) := by decide +kernel
theorem dX0_takeBack_43 : decode cX0_takeBack 43 = .ok (.return_, 1) := by decide +kernel
theorem dX0_opposite_0 : decode cX0_opposite 0 = .ok (.iload_n 0, 1) := by decide +kernel
theorem dX0_opposite_1 : decode cX0_opposite 1 = .ok (.iconst 2, 1) := by decide +kernel
theorem dX0_opposite_2 : decode cX0_opposite 2 = .ok (.if_icmp .ne 7, 3) := by decide +kernel
theorem dX0_opposite_5 : decode cX0_opposite 5 = .ok (.iconst 2, 1) := by decide +kernel
theorem dX0_opposite_6 : decode cX0_opposite 6 = .ok (.goto 6, 3) := by decide +kernel
theorem dX0_opposite_9 : decode cX0_opposite 9 = .ok (.iconst 1, 1) := by decide +kernel
theorem dX0_opposite_10 : decode cX0_opposite 10 = .ok (.iload_n 0, 1) := by decide +kernel
theorem dX0_opposite_11 : decode cX0_opposite 11 = .ok (.isub, 1) := by decide +kernel
theorem dX0_opposite_12 : decode cX0_opposite 12 = .ok (.ireturn, 1) := by decide +kernel
theorem dX0_slantOf_0 : decode cX0_slantOf 0 = .ok (.iload_n 2, 1) := by decide +kernel
theorem dX0_slantOf_1 : decode cX0_slantOf 1 = .ok (.iconst 2, 1) := by decide +kernel
theorem dX0_slantOf_2 : decode cX0_slantOf 2 = .ok (.if_icmp .ne 20, 3) := by decide +kernel
theorem dX0_slantOf_5 : decode cX0_slantOf 5 = .ok (.iload_n 1, 1) := by decide +kernel
theorem dX0_slantOf_6 : decode cX0_slantOf 6 = .ok (.ifCond .le 14, 3) := by decide +kernel
theorem dX0_slantOf_9 : decode cX0_slantOf 9 = .ok (.aload_n 0, 1) := by decide +kernel
theorem dX0_slantOf_10 : decode cX0_slantOf 10 = .ok (.getfield 24, 3) := by decide +kernel
theorem dX0_slantOf_13 : decode cX0_slantOf 13 = .ok (.iload_n 1, 1) := by decide +kernel
theorem dX0_slantOf_14 : decode cX0_slantOf 14 = .ok (.iconst 1, 1) := by decide +kernel
theorem dX0_slantOf_15 : decode cX0_slantOf 15 = .ok (.isub, 1) := by decide +kernel
theorem dX0_slantOf_16 : decode cX0_slantOf 16 = .ok (.iaload, 1) := by decide +kernel
theorem dX0_slantOf_17 : decode cX0_slantOf 17 = .ok (.goto 4, 3) := by decide +kernel
theorem dX0_slantOf_20 : decode cX0_slantOf 20 = .ok (.iconst 0, 1) := by decide +kernel
theorem dX0_slantOf_21 : decode cX0_slantOf 21 = .ok (.ireturn, 1) := by decide +kernel
theorem dX0_slantOf_22 : decode cX0_slantOf 22 = .ok (.iload_n 2, 1) := by decide +kernel
theorem dX0_slantOf_23 : decode cX0_slantOf 23 = .ok (.aload_n 0, 1) := by decide +kernel
theorem dX0_slantOf_24 : decode cX0_slantOf 24 = .ok (.getfield 42, 3) := by decide +kernel
theorem dX0_slantOf_27 : decode cX0_slantOf 27 = .ok (.if_icmp .ne 7, 3) := by decide +kernel
theorem dX0_slantOf_30 : decode cX0_slantOf 30 = .ok (.iconst 0, 1) := by decide +kernel
theorem dX0_slantOf_31 : decode cX0_slantOf 31 = .ok (.goto 4, 3) := by decide +kernel
theorem dX0_slantOf_34 : decode cX0_slantOf 34 = .ok (.iconst 1, 1) := by decide +kernel
theorem dX0_slantOf_35 : decode cX0_slantOf 35 = .ok (.ireturn, 1) := by decide +kernel
theorem dX0_move_0 : decode cX0_move 0 = .ok (.aload_n 0, 1) := by decide +kernel
theorem dX0_move_1 : decode cX0_move 1 = .ok (.iconst 0, 1) := by decide +kernel
theorem dX0_move_2 : decode cX0_move 2 = .ok (.putfield 55, 3) := by decide +kernel
theorem dX0_move_5 : decode cX0_move 5 = .ok (.aload_n 0, 1) := by decide +kernel
theorem dX0_move_6 : decode cX0_move 6 = .ok (.dup, 1) := by decide +kernel
theorem dX0_move_7 : decode cX0_move 7 = .ok (.getfield 49, 3) := by decide +kernel
theorem dX0_move_10 : decode cX0_move 10 = .ok (.aload_n 0, 1) := by decide +kernel
theorem dX0_move_11 : decode cX0_move 11 = .ok (.iload_n 1, 1) := by decide +kernel
theorem dX0_move_12 : decode cX0_move 12 = .ok (.invokevirtual 85, 3) := by decide +kernel
theorem dX0_move_15 : decode cX0_move 15 = .ok (.iadd, 1) := by decide +kernel
theorem dX0_move_16 : decode cX0_move 16 = .ok (.putfield 49, 3) := by decide +kernel
theorem dX0_move_19 : decode cX0_move 19 = .ok (.iload_n 1, 1) := by decide +kernel
theorem dX0_move_20 : decode cX0_move 20 = .ok (.ifCond .ne 34, 3) := by decide +kernel
theorem dX0_move_23 : decode cX0_move 23 = .ok (.aload_n 0, 1) := by decide +kernel
theorem dX0_move_24 : decode cX0_move 24 = .ok (.getfield 9, 3) := by decide +kernel
theorem dX0_move_27 : decode cX0_move 27 = .ok (.iconst 3, 1) := by decide +kernel
theorem dX0_move_28 : decode cX0_move 28 = .ok (.iaload, 1) := by decide +kernel
theorem dX0_move_29 : decode cX0_move 29 = .ok (.istore_n 2, 1) := by decide +kernel
theorem dX0_move_30 : decode cX0_move 30 = .ok (.aload_n 0, 1) := by decide +kernel
theorem dX0_move_31 : decode cX0_move 31 = .ok (.getfield 9, 3) := by decide +kernel
theorem dX0_move_34 : decode cX0_move 34 = .ok (.iconst 0, 1) := by decide +kernel
theorem dX0_move_35 : decode cX0_move 35 = .ok (.aload_n 0, 1) := by decide +kernel
theorem dX0_move_36 : decode cX0_move 36 = .ok (.getfield 9, 3) := by decide +kernel
theorem dX0_move_39 : decode cX0_move 39 = .ok (.iconst 1, 1) := by decide +kernel
theorem dX0_move_40 : decode cX0_move 40 = .ok (.iconst 3, 1) := by decide +kernel
theorem dX0_move_41 : decode cX0_move 41 = .ok (.invokestatic 88, 3) := by decide +kernel
theorem dX0_move_44 : decode cX0_move 44 = .ok (.aload_n 0, 1) := by decide +kernel
theorem dX0_move_45 : decode cX0_move 45 = .ok (.getfield 9, 3) := by decide +kernel
theorem dX0_move_48 : decode cX0_move 48 = .ok (.iconst 0, 1) := by decide +kernel
theorem dX0_move_49 : decode cX0_move 49 = .ok (.iload_n 2, 1) := by decide +kernel
theorem dX0_move_50 : decode cX0_move 50 = .ok (.iastore, 1) := by decide +kernel
theorem dX0_move_51 : decode cX0_move 51 = .ok (.goto 36, 3) := by decide +kernel
theorem dX0_move_54 : decode cX0_move 54 = .ok (.iload_n 1, 1) := by decide +kernel
theorem dX0_move_55 : decode cX0_move 55 = .ok (.iconst 1, 1) := by decide +kernel
theorem dX0_move_56 : decode cX0_move 56 = .ok (.if_icmp .ne 31, 3) := by decide +kernel
theorem dX0_move_59 : decode cX0_move 59 = .ok (.aload_n 0, 1) := by decide +kernel
theorem dX0_move_60 : decode cX0_move 60 = .ok (.getfield 9, 3) := by decide +kernel
theorem dX0_move_63 : decode cX0_move 63 = .ok (.iconst 0, 1) := by decide +kernel
theorem dX0_move_64 : decode cX0_move 64 = .ok (.iaload, 1) := by decide +kernel
theorem dX0_move_65 : decode cX0_move 65 = .ok (.istore_n 2, 1) := by decide +kernel
theorem dX0_move_66 : decode cX0_move 66 = .ok (.aload_n 0, 1) := by decide +kernel
theorem dX0_move_67 : decode cX0_move 67 = .ok (.getfield 9, 3) := by decide +kernel
theorem dX0_move_70 : decode cX0_move 70 = .ok (.iconst 1, 1) := by decide +kernel
theorem dX0_move_71 : decode cX0_move 71 = .ok (.aload_n 0, 1) := by decide +kernel
theorem dX0_move_72 : decode cX0_move 72 = .ok (.getfield 9, 3) := by decide +kernel
theorem dX0_move_75 : decode cX0_move 75 = .ok (.iconst 0, 1) := by decide +kernel
theorem dX0_move_76 : decode cX0_move 76 = .ok (.iconst 3, 1) := by decide +kernel
theorem dX0_move_77 : decode cX0_move 77 = .ok (.invokestatic 88, 3) := by decide +kernel
theorem dX0_move_80 : decode cX0_move 80 = .ok (.aload_n 0, 1) := by decide +kernel
theorem dX0_move_81 : decode cX0_move 81 = .ok (.getfield 9, 3) := by decide +kernel
theorem dX0_move_84 : decode cX0_move 84 = .ok (.iconst 3, 1) := by decide +kernel
theorem dX0_move_85 : decode cX0_move 85 = .ok (.iload_n 2, 1) := by decide +kernel
theorem dX0_move_86 : decode cX0_move 86 = .ok (.iastore, 1) := by decide +kernel
theorem dX0_move_87 : decode cX0_move 87 = .ok (.return_, 1) := by decide +kernel
theorem dX0_showing_0 : decode cX0_showing 0 = .ok (.iload_n 1, 1) := by decide +kernel
theorem dX0_showing_1 : decode cX0_showing 1 = .ok (.ifCond .le 14, 3) := by decide +kernel
theorem dX0_showing_4 : decode cX0_showing 4 = .ok (.aload_n 0, 1) := by decide +kernel
theorem dX0_showing_5 : decode cX0_showing 5 = .ok (.getfield 21, 3) := by decide +kernel
theorem dX0_showing_8 : decode cX0_showing 8 = .ok (.iload_n 1, 1) := by decide +kernel
theorem dX0_showing_9 : decode cX0_showing 9 = .ok (.iconst 1, 1) := by decide +kernel
theorem dX0_showing_10 : decode cX0_showing 10 = .ok (.isub, 1) := by decide +kernel
theorem dX0_showing_11 : decode cX0_showing 11 = .ok (.iaload, 1) := by decide +kernel
theorem dX0_showing_12 : decode cX0_showing 12 = .ok (.goto 9, 3) := by decide +kernel
theorem dX0_showing_15 : decode cX0_showing 15 = .ok (.aload_n 0, 1) := by decide +kernel
theorem dX0_showing_16 : decode cX0_showing 16 = .ok (.getfield 9, 3) := by decide +kernel
theorem dX0_showing_19 : decode cX0_showing 19 = .ok (.iconst 0, 1) := by decide +kernel
theorem dX0_showing_20 : decode cX0_showing 20 = .ok (.iaload, 1) := by decide +kernel
theorem dX0_showing_21 : decode cX0_showing 21 = .ok (.ireturn, 1) := by decide +kernel
theorem dX0_threadOn_0 : decode cX0_threadOn 0 = .ok (.iload_n 2, 1) := by decide +kernel
theorem dX0_threadOn_1 : decode cX0_threadOn 1 = .ok (.ifCond .eq 16, 3) := by decide +kernel
theorem dX0_threadOn_4 : decode cX0_threadOn 4 = .ok (.aload_n 0, 1) := by decide +kernel
theorem dX0_threadOn_5 : decode cX0_threadOn 5 = .ok (.getfield 21, 3) := by decide +kernel
theorem dX0_threadOn_8 : decode cX0_threadOn 8 = .ok (.iload_n 1, 1) := by decide +kernel
theorem dX0_threadOn_9 : decode cX0_threadOn 9 = .ok (.iaload, 1) := by decide +kernel
theorem dX0_threadOn_10 : decode cX0_threadOn 10 = .ok (.iconst 2, 1) := by decide +kernel
theorem dX0_threadOn_11 : decode cX0_threadOn 11 = .ok (.iadd, 1) := by decide +kernel
theorem dX0_threadOn_12 : decode cX0_threadOn 12 = .ok (.iconst 4, 1) := by decide +kernel
theorem dX0_threadOn_13 : decode cX0_threadOn 13 = .ok (.irem, 1) := by decide +kernel
theorem dX0_threadOn_14 : decode cX0_threadOn 14 = .ok (.goto 9, 3) := by decide +kernel
theorem dX0_threadOn_17 : decode cX0_threadOn 17 = .ok (.aload_n 0, 1) := by decide +kernel
theorem dX0_threadOn_18 : decode cX0_threadOn 18 = .ok (.getfield 21, 3) := by decide +kernel
theorem dX0_threadOn_21 : decode cX0_threadOn 21 = .ok (.iload_n 1, 1) := by decide +kernel
theorem dX0_threadOn_22 : decode cX0_threadOn 22 = .ok (.iaload, 1) := by decide +kernel
theorem dX0_threadOn_23 : decode cX0_threadOn 23 = .ok (.ireturn, 1) := by decide +kernel
theorem dX0_colourOn_0 : decode cX0_colourOn 0 = .ok (.aload_n 0, 1) := by decide +kernel
theorem dX0_colourOn_1 : decode cX0_colourOn 1 = .ok (.getfield 15, 3) := by decide +kernel
theorem dX0_colourOn_4 : decode cX0_colourOn 4 = .ok (.aload_n 0, 1) := by decide +kernel
theorem dX0_colourOn_5 : decode cX0_colourOn 5 = .ok (.iload_n 1, 1) := by decide +kernel
theorem dX0_colourOn_6 : decode cX0_colourOn 6 = .ok (.iload_n 2, 1) := by decide +kernel
theorem dX0_colourOn_7 : decode cX0_colourOn 7 = .ok (.invokevirtual 94, 3) := by decide +kernel
theorem dX0_colourOn_10 : decode cX0_colourOn 10 = .ok (.iaload, 1) := by decide +kernel
theorem dX0_colourOn_11 : decode cX0_colourOn 11 = .ok (.ireturn, 1) := by decide +kernel
theorem dX0_idleBehind_0 : decode cX0_idleBehind 0 = .ok (.iconst 0, 1) := by decide +kernel
theorem dX0_idleBehind_1 : decode cX0_idleBehind 1 = .ok (.istore_n 2, 1) := by decide +kernel
theorem dX0_idleBehind_2 : decode cX0_idleBehind 2 = .ok (.iload_n 2, 1) := by decide +kernel
theorem dX0_idleBehind_3 : decode cX0_idleBehind 3 = .ok (.iload_n 1, 1) := by decide +kernel
theorem dX0_idleBehind_4 : decode cX0_idleBehind 4 = .ok (.if_icmp .ge 23, 3) := by decide +kernel
theorem dX0_idleBehind_7 : decode cX0_idleBehind 7 = .ok (.aload_n 0, 1) := by decide +kernel
theorem dX0_idleBehind_8 : decode cX0_idleBehind 8 = .ok (.getfield 18, 3) := by decide +kernel
theorem dX0_idleBehind_11 : decode cX0_idleBehind 11 = .ok (.iload_n 1, 1) := by decide +kernel
theorem dX0_idleBehind_12 : decode cX0_idleBehind 12 = .ok (.iconst 1, 1) := by decide +kernel
theorem dX0_idleBehind_13 : decode cX0_idleBehind 13 = .ok (.isub, 1) := by decide +kernel
theorem dX0_idleBehind_14 : decode cX0_idleBehind 14 = .ok (.iload_n 2, 1) := by decide +kernel
theorem dX0_idleBehind_15 : decode cX0_idleBehind 15 = .ok (.isub, 1) := by decide +kernel
theorem dX0_idleBehind_16 : decode cX0_idleBehind 16 = .ok (.iaload, 1) := by decide +kernel
theorem dX0_idleBehind_17 : decode cX0_idleBehind 17 = .ok (.iconst 2, 1) := by decide +kernel
theorem dX0_idleBehind_18 : decode cX0_idleBehind 18 = .ok (.if_icmp .ne 9, 3) := by decide +kernel
theorem dX0_idleBehind_21 : decode cX0_idleBehind 21 = .ok (.iinc 2 1, 3) := by decide +kernel
theorem dX0_idleBehind_24 : decode cX0_idleBehind 24 = .ok (.goto (-22), 3) := by decide +kernel
theorem dX0_idleBehind_27 : decode cX0_idleBehind 27 = .ok (.iload_n 2, 1) := by decide +kernel
theorem dX0_idleBehind_28 : decode cX0_idleBehind 28 = .ok (.ireturn, 1) := by decide +kernel
theorem dX0_longestFloat_0 : decode cX0_longestFloat 0 = .ok (.iconst 0, 1) := by decide +kernel
theorem dX0_longestFloat_1 : decode cX0_longestFloat 1 = .ok (.istore_n 2, 1) := by decide +kernel
theorem dX0_longestFloat_2 : decode cX0_longestFloat 2 = .ok (.iconst 0, 1) := by decide +kernel
theorem dX0_longestFloat_3 : decode cX0_longestFloat 3 = .ok (.istore_n 3, 1) := by decide +kernel
theorem dX0_longestFloat_4 : decode cX0_longestFloat 4 = .ok (.iconst 0, 1) := by decide +kernel
theorem dX0_longestFloat_5 : decode cX0_longestFloat 5 = .ok (.istore 4, 2) := by decide +kernel
theorem dX0_longestFloat_7 : decode cX0_longestFloat 7 = .ok (.iload 4, 2) := by decide +kernel
theorem dX0_longestFloat_9 : decode cX0_longestFloat 9 = .ok (.iload_n 1, 1) := by decide +kernel
theorem dX0_longestFloat_10 : decode cX0_longestFloat 10 = .ok (.if_icmp .ge 34, 3) := by decide +kernel
theorem dX0_longestFloat_13 : decode cX0_longestFloat 13 = .ok (.aload_n 0, 1) := by decide +kernel
theorem dX0_longestFloat_14 : decode cX0_longestFloat 14 = .ok (.getfield 18, 3) := by decide +kernel
theorem dX0_longestFloat_17 : decode cX0_longestFloat 17 = .ok (.iload 4, 2) := by decide +kernel
theorem dX0_longestFloat_19 : decode cX0_longestFloat 19 = .ok (.iaload, 1) := by decide +kernel
theorem dX0_longestFloat_20 : decode cX0_longestFloat 20 = .ok (.iconst 2, 1) := by decide +kernel
theorem dX0_longestFloat_21 : decode cX0_longestFloat 21 = .ok (.if_icmp .ne 9, 3) := by decide +kernel
theorem dX0_longestFloat_24 : decode cX0_longestFloat 24 = .ok (.iload_n 3, 1) := by decide +kernel
theorem dX0_longestFloat_25 : decode cX0_longestFloat 25 = .ok (.iconst 1, 1) := by decide +kernel
theorem dX0_longestFloat_26 : decode cX0_longestFloat 26 = .ok (.iadd, 1) := by decide +kernel
theorem dX0_longestFloat_27 : decode cX0_longestFloat 27 = .ok (.goto 4, 3) := by decide +kernel
theorem dX0_longestFloat_30 : decode cX0_longestFloat 30 = .ok (.iconst 0, 1) := by decide +kernel
theorem dX0_longestFloat_31 : decode cX0_longestFloat 31 = .ok (.istore_n 3, 1) := by decide +kernel
theorem dX0_longestFloat_32 : decode cX0_longestFloat 32 = .ok (.iload_n 2, 1) := by decide +kernel
theorem dX0_longestFloat_33 : decode cX0_longestFloat 33 = .ok (.iload_n 3, 1) := by decide +kernel
theorem dX0_longestFloat_34 : decode cX0_longestFloat 34 = .ok (.invokestatic 98, 3) := by decide +kernel
theorem dX0_longestFloat_37 : decode cX0_longestFloat 37 = .ok (.istore_n 2, 1) := by decide +kernel
theorem dX0_longestFloat_38 : decode cX0_longestFloat 38 = .ok (.iinc 4 1, 3) := by decide +kernel
theorem dX0_longestFloat_41 : decode cX0_longestFloat 41 = .ok (.goto (-34), 3) := by decide +kernel
theorem dX0_longestFloat_44 : decode cX0_longestFloat 44 = .ok (.iload_n 2, 1) := by decide +kernel
theorem dX0_longestFloat_45 : decode cX0_longestFloat 45 = .ok (.ireturn, 1) := by decide +kernel
theorem dX0_fits_0 : decode cX0_fits 0 = .ok (.aload_n 0, 1) := by decide +kernel
theorem dX0_fits_1 : decode cX0_fits 1 = .ok (.getfield 30, 3) := by decide +kernel
theorem dX0_fits_4 : decode cX0_fits 4 = .ok (.iload_n 1, 1) := by decide +kernel
theorem dX0_fits_5 : decode cX0_fits 5 = .ok (.iaload, 1) := by decide +kernel
theorem dX0_fits_6 : decode cX0_fits 6 = .ok (.bipush (-99), 2) := by decide +kernel
theorem dX0_fits_8 : decode cX0_fits 8 = .ok (.if_icmp .eq 18, 3) := by decide +kernel
theorem dX0_fits_11 : decode cX0_fits 11 = .ok (.aload_n 0, 1) := by decide +kernel
theorem dX0_fits_12 : decode cX0_fits 12 = .ok (.getfield 30, 3) := by decide +kernel
theorem dX0_fits_15 : decode cX0_fits 15 = .ok (.iload_n 1, 1) := by decide +kernel
theorem dX0_fits_16 : decode cX0_fits 16 = .ok (.iaload, 1) := by decide +kernel
theorem dX0_fits_17 : decode cX0_fits 17 = .ok (.aload_n 0, 1) := by decide +kernel
theorem dX0_fits_18 : decode cX0_fits 18 = .ok (.getfield 15, 3) := by decide +kernel
theorem dX0_fits_21 : decode cX0_fits 21 = .ok (.iload_n 2, 1) := by decide +kernel
theorem dX0_fits_22 : decode cX0_fits 22 = .ok (.iaload, 1) := by decide +kernel
theorem dX0_fits_23 : decode cX0_fits 23 = .ok (.if_icmp .ne 7, 3) := by decide +kernel
theorem dX0_fits_26 : decode cX0_fits 26 = .ok (.iconst 1, 1) := by decide +kernel
theorem dX0_fits_27 : decode cX0_fits 27 = .ok (.goto 4, 3) := by decide +kernel
theorem dX0_fits_30 : decode cX0_fits 30 = .ok (.iconst 0, 1) := by decide +kernel
theorem dX0_fits_31 : decode cX0_fits 31 = .ok (.ireturn, 1) := by decide +kernel
theorem dX0_threadAfter_0 : decode cX0_threadAfter 0 = .ok (.aload_n 0, 1) := by decide +kernel
theorem dX0_threadAfter_1 : decode cX0_threadAfter 1 = .ok (.getfield 9, 3) := by decide +kernel
theorem dX0_threadAfter_4 : decode cX0_threadAfter 4 = .ok (.iload_n 2, 1) := by decide +kernel
theorem dX0_threadAfter_5 : decode cX0_threadAfter 5 = .ok (.iload_n 1, 1) := by decide +kernel
theorem dX0_threadAfter_6 : decode cX0_threadAfter 6 = .ok (.isub, 1) := by decide +kernel
theorem dX0_threadAfter_7 : decode cX0_threadAfter 7 = .ok (.iconst 4, 1) := by decide +kernel
theorem dX0_threadAfter_8 : decode cX0_threadAfter 8 = .ok (.invokestatic 103, 3) := by decide +kernel
theorem dX0_threadAfter_11 : decode cX0_threadAfter 11 = .ok (.iaload, 1) := by decide +kernel
theorem dX0_threadAfter_12 : decode cX0_threadAfter 12 = .ok (.ireturn, 1) := by decide +kernel
theorem dX0_wantedOf_0 : decode cX0_wantedOf 0 = .ok (.iconst 0, 1) := by decide +kernel
theorem dX0_wantedOf_1 : decode cX0_wantedOf 1 = .ok (.istore_n 3, 1) := by decide +kernel
theorem dX0_wantedOf_2 : decode cX0_wantedOf 2 = .ok (.iload_n 3, 1) := by decide +kernel
theorem dX0_wantedOf_3 : decode cX0_wantedOf 3 = .ok (.iload_n 2, 1) := by decide +kernel
theorem dX0_wantedOf_4 : decode cX0_wantedOf 4 = .ok (.if_icmp .ge 37, 3) := by decide +kernel
theorem dX0_wantedOf_7 : decode cX0_wantedOf 7 = .ok (.aload_n 0, 1) := by decide +kernel
theorem dX0_wantedOf_8 : decode cX0_wantedOf 8 = .ok (.getfield 21, 3) := by decide +kernel
theorem dX0_wantedOf_11 : decode cX0_wantedOf 11 = .ok (.iload_n 3, 1) := by decide +kernel
theorem dX0_wantedOf_12 : decode cX0_wantedOf 12 = .ok (.iaload, 1) := by decide +kernel
theorem dX0_wantedOf_13 : decode cX0_wantedOf 13 = .ok (.iload_n 1, 1) := by decide +kernel
theorem dX0_wantedOf_14 : decode cX0_wantedOf 14 = .ok (.if_icmp .ne 21, 3) := by decide +kernel
theorem dX0_wantedOf_17 : decode cX0_wantedOf 17 = .ok (.aload_n 0, 1) := by decide +kernel
theorem dX0_wantedOf_18 : decode cX0_wantedOf 18 = .ok (.getfield 30, 3) := by decide +kernel
theorem dX0_wantedOf_21 : decode cX0_wantedOf 21 = .ok (.iload_n 3, 1) := by decide +kernel
theorem dX0_wantedOf_22 : decode cX0_wantedOf 22 = .ok (.iaload, 1) := by decide +kernel
theorem dX0_wantedOf_23 : decode cX0_wantedOf 23 = .ok (.bipush (-99), 2) := by decide +kernel
theorem dX0_wantedOf_25 : decode cX0_wantedOf 25 = .ok (.if_icmp .eq 10, 3) := by decide +kernel
theorem dX0_wantedOf_28 : decode cX0_wantedOf 28 = .ok (.aload_n 0, 1) := by decide +kernel
theorem dX0_wantedOf_29 : decode cX0_wantedOf 29 = .ok (.getfield 30, 3) := by decide +kernel
theorem dX0_wantedOf_32 : decode cX0_wantedOf 32 = .ok (.iload_n 3, 1) := by decide +kernel
theorem dX0_wantedOf_33 : decode cX0_wantedOf 33 = .ok (.iaload, 1) := by decide +kernel
theorem dX0_wantedOf_34 : decode cX0_wantedOf 34 = .ok (.ireturn, 1) := by decide +kernel
theorem dX0_wantedOf_35 : decode cX0_wantedOf 35 = .ok (.iinc 3 1, 3) := by decide +kernel
theorem dX0_wantedOf_38 : decode cX0_wantedOf 38 = .ok (.goto (-36), 3) := by decide +kernel
theorem dX0_wantedOf_41 : decode cX0_wantedOf 41 = .ok (.bipush (-99), 2) := by decide +kernel
theorem dX0_wantedOf_43 : decode cX0_wantedOf 43 = .ok (.ireturn, 1) := by decide +kernel
theorem dX0_quarrelRow_0 : decode cX0_quarrelRow 0 = .ok (.iconst 0, 1) := by decide +kernel
theorem dX0_quarrelRow_1 : decode cX0_quarrelRow 1 = .ok (.istore_n 2, 1) := by decide +kernel
theorem dX0_quarrelRow_2 : decode cX0_quarrelRow 2 = .ok (.iload_n 2, 1) := by decide +kernel
theorem dX0_quarrelRow_3 : decode cX0_quarrelRow 3 = .ok (.iload_n 1, 1) := by decide +kernel
theorem dX0_quarrelRow_4 : decode cX0_quarrelRow 4 = .ok (.if_icmp .ge 50, 3) := by decide +kernel
theorem dX0_quarrelRow_7 : decode cX0_quarrelRow 7 = .ok (.aload_n 0, 1) := by decide +kernel
theorem dX0_quarrelRow_8 : decode cX0_quarrelRow 8 = .ok (.aload_n 0, 1) := by decide +kernel
theorem dX0_quarrelRow_9 : decode cX0_quarrelRow 9 = .ok (.getfield 21, 3) := by decide +kernel
theorem dX0_quarrelRow_12 : decode cX0_quarrelRow 12 = .ok (.iload_n 2, 1) := by decide +kernel
theorem dX0_quarrelRow_13 : decode cX0_quarrelRow 13 = .ok (.iaload, 1) := by decide +kernel
theorem dX0_quarrelRow_14 : decode cX0_quarrelRow 14 = .ok (.iload_n 2, 1) := by decide +kernel
theorem dX0_quarrelRow_15 : decode cX0_quarrelRow 15 = .ok (.invokevirtual 106, 3) := by decide +kernel
theorem dX0_quarrelRow_18 : decode cX0_quarrelRow 18 = .ok (.istore_n 3, 1) := by decide +kernel
theorem dX0_quarrelRow_19 : decode cX0_quarrelRow 19 = .ok (.aload_n 0, 1) := by decide +kernel
theorem dX0_quarrelRow_20 : decode cX0_quarrelRow 20 = .ok (.getfield 30, 3) := by decide +kernel
theorem dX0_quarrelRow_23 : decode cX0_quarrelRow 23 = .ok (.iload_n 2, 1) := by decide +kernel
theorem dX0_quarrelRow_24 : decode cX0_quarrelRow 24 = .ok (.iaload, 1) := by decide +kernel
theorem dX0_quarrelRow_25 : decode cX0_quarrelRow 25 = .ok (.bipush (-99), 2) := by decide +kernel
theorem dX0_quarrelRow_27 : decode cX0_quarrelRow 27 = .ok (.if_icmp .eq 21, 3) := by decide +kernel
theorem dX0_quarrelRow_30 : decode cX0_quarrelRow 30 = .ok (.iload_n 3, 1) := by decide +kernel
theorem dX0_quarrelRow_31 : decode cX0_quarrelRow 31 = .ok (.bipush (-99), 2) := by decide +kernel
theorem dX0_quarrelRow_33 : decode cX0_quarrelRow 33 = .ok (.if_icmp .eq 15, 3) := by decide +kernel
theorem dX0_quarrelRow_36 : decode cX0_quarrelRow 36 = .ok (.iload_n 3, 1) := by decide +kernel
theorem dX0_quarrelRow_37 : decode cX0_quarrelRow 37 = .ok (.aload_n 0, 1) := by decide +kernel
theorem dX0_quarrelRow_38 : decode cX0_quarrelRow 38 = .ok (.getfield 30, 3) := by decide +kernel
theorem dX0_quarrelRow_41 : decode cX0_quarrelRow 41 = .ok (.iload_n 2, 1) := by decide +kernel
theorem dX0_quarrelRow_42 : decode cX0_quarrelRow 42 = .ok (.iaload, 1) := by decide +kernel
theorem dX0_quarrelRow_43 : decode cX0_quarrelRow 43 = .ok (.if_icmp .eq 5, 3) := by decide +kernel
theorem dX0_quarrelRow_46 : decode cX0_quarrelRow 46 = .ok (.iload_n 2, 1) := by decide +kernel
theorem dX0_quarrelRow_47 : decode cX0_quarrelRow 47 = .ok (.ireturn, 1) := by decide +kernel
theorem dX0_quarrelRow_48 : decode cX0_quarrelRow 48 = .ok (.iinc 2 1, 3) := by decide +kernel
theorem dX0_quarrelRow_51 : decode cX0_quarrelRow 51 = .ok (.goto (-49), 3) := by decide +kernel
theorem dX0_quarrelRow_54 : decode cX0_quarrelRow 54 = .ok (.bipush (-99), 2) := by decide +kernel
theorem dX0_quarrelRow_56 : decode cX0_quarrelRow 56 = .ok (.ireturn, 1) := by decide +kernel
theorem dX0_fitsWith_0 : decode cX0_fitsWith 0 = .ok (.iconst 0, 1) := by decide +kernel
theorem dX0_fitsWith_1 : decode cX0_fitsWith 1 = .ok (.istore 4, 2) := by decide +kernel
theorem dX0_fitsWith_3 : decode cX0_fitsWith 3 = .ok (.iconst 0, 1) := by decide +kernel
theorem dX0_fitsWith_4 : decode cX0_fitsWith 4 = .ok (.istore 5, 2) := by decide +kernel
theorem dX0_fitsWith_6 : decode cX0_fitsWith 6 = .ok (.iconst 0, 1) := by decide +kernel
theorem dX0_fitsWith_7 : decode cX0_fitsWith 7 = .ok (.istore 6, 2) := by decide +kernel
theorem dX0_fitsWith_9 : decode cX0_fitsWith 9 = .ok (.iload 6, 2) := by decide +kernel
theorem dX0_fitsWith_11 : decode cX0_fitsWith 11 = .ok (.iload_n 3, 1) := by decide +kernel
theorem dX0_fitsWith_12 : decode cX0_fitsWith 12 = .ok (.if_icmp .ge 80, 3) := by decide +kernel
theorem dX0_fitsWith_15 : decode cX0_fitsWith 15 = .ok (.iload 6, 2) := by decide +kernel
theorem dX0_fitsWith_17 : decode cX0_fitsWith 17 = .ok (.iload_n 1, 1) := by decide +kernel
theorem dX0_fitsWith_18 : decode cX0_fitsWith 18 = .ok (.if_icmp .ne 7, 3) := by decide +kernel
theorem dX0_fitsWith_21 : decode cX0_fitsWith 21 = .ok (.iload_n 2, 1) := by decide +kernel
theorem dX0_fitsWith_22 : decode cX0_fitsWith 22 = .ok (.goto 10, 3) := by decide +kernel
theorem dX0_fitsWith_25 : decode cX0_fitsWith 25 = .ok (.aload_n 0, 1) := by decide +kernel
theorem dX0_fitsWith_26 : decode cX0_fitsWith 26 = .ok (.getfield 18, 3) := by decide +kernel
theorem dX0_fitsWith_29 : decode cX0_fitsWith 29 = .ok (.iload 6, 2) := by decide +kernel
theorem dX0_fitsWith_31 : decode cX0_fitsWith 31 = .ok (.iaload, 1) := by decide +kernel
theorem dX0_fitsWith_32 : decode cX0_fitsWith 32 = .ok (.istore 7, 2) := by decide +kernel
theorem dX0_fitsWith_34 : decode cX0_fitsWith 34 = .ok (.iload 7, 2) := by decide +kernel
theorem dX0_fitsWith_36 : decode cX0_fitsWith 36 = .ok (.ifCond .ne 18, 3) := by decide +kernel
theorem dX0_fitsWith_39 : decode cX0_fitsWith 39 = .ok (.iinc 4 1, 3) := by decide +kernel
theorem dX0_fitsWith_42 : decode cX0_fitsWith 42 = .ok (.iload 4, 2) := by decide +kernel
theorem dX0_fitsWith_44 : decode cX0_fitsWith 44 = .ok (.ineg, 1) := by decide +kernel
theorem dX0_fitsWith_45 : decode cX0_fitsWith 45 = .ok (.iconst 4, 1) := by decide +kernel
theorem dX0_fitsWith_46 : decode cX0_fitsWith 46 = .ok (.invokestatic 103, 3) := by decide +kernel
theorem dX0_fitsWith_49 : decode cX0_fitsWith 49 = .ok (.istore 5, 2) := by decide +kernel
theorem dX0_fitsWith_51 : decode cX0_fitsWith 51 = .ok (.goto 22, 3) := by decide +kernel
theorem dX0_fitsWith_54 : decode cX0_fitsWith 54 = .ok (.iload 7, 2) := by decide +kernel
theorem dX0_fitsWith_56 : decode cX0_fitsWith 56 = .ok (.iconst 1, 1) := by decide +kernel
theorem dX0_fitsWith_57 : decode cX0_fitsWith 57 = .ok (.if_icmp .ne 16, 3) := by decide +kernel
theorem dX0_fitsWith_60 : decode cX0_fitsWith 60 = .ok (.iinc 4 (-1), 3) := by decide +kernel
theorem dX0_fitsWith_63 : decode cX0_fitsWith 63 = .ok (.iconst 1, 1) := by decide +kernel
theorem dX0_fitsWith_64 : decode cX0_fitsWith 64 = .ok (.iload 4, 2) := by decide +kernel
theorem dX0_fitsWith_66 : decode cX0_fitsWith 66 = .ok (.isub, 1) := by decide +kernel
theorem dX0_fitsWith_67 : decode cX0_fitsWith 67 = .ok (.iconst 4, 1) := by decide +kernel
theorem dX0_fitsWith_68 : decode cX0_fitsWith 68 = .ok (.invokestatic 103, 3) := by decide +kernel
theorem dX0_fitsWith_71 : decode cX0_fitsWith 71 = .ok (.istore 5, 2) := by decide +kernel
theorem dX0_fitsWith_73 : decode cX0_fitsWith 73 = .ok (.aload_n 0, 1) := by decide +kernel
theorem dX0_fitsWith_74 : decode cX0_fitsWith 74 = .ok (.iload 6, 2) := by decide +kernel
theorem dX0_fitsWith_76 : decode cX0_fitsWith 76 = .ok (.iload 5, 2) := by decide +kernel
theorem dX0_fitsWith_78 : decode cX0_fitsWith 78 = .ok (.invokevirtual 109, 3) := by decide +kernel
theorem dX0_fitsWith_81 : decode cX0_fitsWith 81 = .ok (.ifCond .ne 5, 3) := by decide +kernel
theorem dX0_fitsWith_84 : decode cX0_fitsWith 84 = .ok (.iconst 0, 1) := by decide +kernel
theorem dX0_fitsWith_85 : decode cX0_fitsWith 85 = .ok (.ireturn, 1) := by decide +kernel
theorem dX0_fitsWith_86 : decode cX0_fitsWith 86 = .ok (.iinc 6 1, 3) := by decide +kernel
theorem dX0_fitsWith_89 : decode cX0_fitsWith 89 = .ok (.goto (-80), 3) := by decide +kernel
theorem dX0_fitsWith_92 : decode cX0_fitsWith 92 = .ok (.iconst 1, 1) := by decide +kernel
theorem dX0_fitsWith_93 : decode cX0_fitsWith 93 = .ok (.ireturn, 1) := by decide +kernel
theorem dJ6_bitCount_0f7a4_0 : decode cJ6_bitCount_0f7a4 0 = .ok (.iload_n 0, 1) := by decide +kernel
theorem dJ6_bitCount_0f7a4_1 : decode cJ6_bitCount_0f7a4 1 = .ok (.iload_n 0, 1) := by decide +kernel
theorem dJ6_bitCount_0f7a4_2 : decode cJ6_bitCount_0f7a4 2 = .ok (.iconst 1, 1) := by decide +kernel
theorem dJ6_bitCount_0f7a4_3 : decode cJ6_bitCount_0f7a4 3 = .ok (.iushr, 1) := by decide +kernel
theorem dJ6_bitCount_0f7a4_4 : decode cJ6_bitCount_0f7a4 4 = .ok (.ldc_w 265, 3) := by decide +kernel
theorem dJ6_bitCount_0f7a4_7 : decode cJ6_bitCount_0f7a4 7 = .ok (.iand, 1) := by decide +kernel
theorem dJ6_bitCount_0f7a4_8 : decode cJ6_bitCount_0f7a4 8 = .ok (.isub, 1) := by decide +kernel
theorem dJ6_bitCount_0f7a4_9 : decode cJ6_bitCount_0f7a4 9 = .ok (.istore_n 0, 1) := by decide +kernel
theorem dJ6_bitCount_0f7a4_10 : decode cJ6_bitCount_0f7a4 10 = .ok (.iload_n 0, 1) := by decide +kernel
theorem dJ6_bitCount_0f7a4_11 : decode cJ6_bitCount_0f7a4 11 = .ok (.ldc_w 266, 3) := by decide +kernel
theorem dJ6_bitCount_0f7a4_14 : decode cJ6_bitCount_0f7a4 14 = .ok (.iand, 1) := by decide +kernel
theorem dJ6_bitCount_0f7a4_15 : decode cJ6_bitCount_0f7a4 15 = .ok (.iload_n 0, 1) := by decide +kernel
theorem dJ6_bitCount_0f7a4_16 : decode cJ6_bitCount_0f7a4 16 = .ok (.iconst 2, 1) := by decide +kernel
theorem dJ6_bitCount_0f7a4_17 : decode cJ6_bitCount_0f7a4 17 = .ok (.iushr, 1) := by decide +kernel
theorem dJ6_bitCount_0f7a4_18 : decode cJ6_bitCount_0f7a4 18 = .ok (.ldc_w 266, 3) := by decide +kernel
theorem dJ6_bitCount_0f7a4_21 : decode cJ6_bitCount_0f7a4 21 = .ok (.iand, 1) := by decide +kernel
theorem dJ6_bitCount_0f7a4_22 : decode cJ6_bitCount_0f7a4 22 = .ok (.iadd, 1) := by decide +kernel
theorem dJ6_bitCount_0f7a4_23 : decode cJ6_bitCount_0f7a4 23 = .ok (.istore_n 0, 1) := by decide +kernel
theorem dJ6_bitCount_0f7a4_24 : decode cJ6_bitCount_0f7a4 24 = .ok (.iload_n 0, 1) := by decide +kernel
theorem dJ6_bitCount_0f7a4_25 : decode cJ6_bitCount_0f7a4 25 = .ok (.iload_n 0, 1) := by decide +kernel
theorem dJ6_bitCount_0f7a4_26 : decode cJ6_bitCount_0f7a4 26 = .ok (.iconst 4, 1) := by decide +kernel
theorem dJ6_bitCount_0f7a4_27 : decode cJ6_bitCount_0f7a4 27 = .ok (.iushr, 1) := by decide +kernel
theorem dJ6_bitCount_0f7a4_28 : decode cJ6_bitCount_0f7a4 28 = .ok (.iadd, 1) := by decide +kernel
theorem dJ6_bitCount_0f7a4_29 : decode cJ6_bitCount_0f7a4 29 = .ok (.ldc_w 267, 3) := by decide +kernel
theorem dJ6_bitCount_0f7a4_32 : decode cJ6_bitCount_0f7a4 32 = .ok (.iand, 1) := by decide +kernel
theorem dJ6_bitCount_0f7a4_33 : decode cJ6_bitCount_0f7a4 33 = .ok (.istore_n 0, 1) := by decide +kernel
theorem dJ6_bitCount_0f7a4_34 : decode cJ6_bitCount_0f7a4 34 = .ok (.iload_n 0, 1) := by decide +kernel
theorem dJ6_bitCount_0f7a4_35 : decode cJ6_bitCount_0f7a4 35 = .ok (.iload_n 0, 1) := by decide +kernel
theorem dJ6_bitCount_0f7a4_36 : decode cJ6_bitCount_0f7a4 36 = .ok (.bipush 8, 2) := by decide +kernel
theorem dJ6_bitCount_0f7a4_38 : decode cJ6_bitCount_0f7a4 38 = .ok (.iushr, 1) := by decide +kernel
theorem dJ6_bitCount_0f7a4_39 : decode cJ6_bitCount_0f7a4 39 = .ok (.iadd, 1) := by decide +kernel
theorem dJ6_bitCount_0f7a4_40 : decode cJ6_bitCount_0f7a4 40 = .ok (.istore_n 0, 1) := by decide +kernel
theorem dJ6_bitCount_0f7a4_41 : decode cJ6_bitCount_0f7a4 41 = .ok (.iload_n 0, 1) := by decide +kernel
theorem dJ6_bitCount_0f7a4_42 : decode cJ6_bitCount_0f7a4 42 = .ok (.iload_n 0, 1) := by decide +kernel
theorem dJ6_bitCount_0f7a4_43 : decode cJ6_bitCount_0f7a4 43 = .ok (.bipush 16, 2) := by decide +kernel
theorem dJ6_bitCount_0f7a4_45 : decode cJ6_bitCount_0f7a4 45 = .ok (.iushr, 1) := by decide +kernel
theorem dJ6_bitCount_0f7a4_46 : decode cJ6_bitCount_0f7a4 46 = .ok (.iadd, 1) := by decide +kernel
theorem dJ6_bitCount_0f7a4_47 : decode cJ6_bitCount_0f7a4 47 = .ok (.istore_n 0, 1) := by decide +kernel
theorem dJ6_bitCount_0f7a4_48 : decode cJ6_bitCount_0f7a4 48 = .ok (.iload_n 0, 1) := by decide +kernel
theorem dJ6_bitCount_0f7a4_49 : decode cJ6_bitCount_0f7a4 49 = .ok (.bipush 63, 2) := by decide +kernel
theorem dJ6_bitCount_0f7a4_51 : decode cJ6_bitCount_0f7a4 51 = .ok (.iand, 1) := by decide +kernel
theorem dJ6_bitCount_0f7a4_52 : decode cJ6_bitCount_0f7a4 52 = .ok (.ireturn, 1) := by decide +kernel
theorem dJ9_floorMod_7cf53_0 : decode cJ9_floorMod_7cf53 0 = .ok (.iload_n 0, 1) := by decide +kernel
theorem dJ9_floorMod_7cf53_1 : decode cJ9_floorMod_7cf53 1 = .ok (.iload_n 1, 1) := by decide +kernel
theorem dJ9_floorMod_7cf53_2 : decode cJ9_floorMod_7cf53 2 = .ok (.irem, 1) := by decide +kernel
theorem dJ9_floorMod_7cf53_3 : decode cJ9_floorMod_7cf53 3 = .ok (.istore_n 2, 1) := by decide +kernel
theorem dJ9_floorMod_7cf53_4 : decode cJ9_floorMod_7cf53 4 = .ok (.iload_n 0, 1) := by decide +kernel
theorem dJ9_floorMod_7cf53_5 : decode cJ9_floorMod_7cf53 5 = .ok (.iload_n 1, 1) := by decide +kernel
theorem dJ9_floorMod_7cf53_6 : decode cJ9_floorMod_7cf53 6 = .ok (.ixor, 1) := by decide +kernel
theorem dJ9_floorMod_7cf53_7 : decode cJ9_floorMod_7cf53 7 = .ok (.ifCond .ge 11, 3) := by decide +kernel
theorem dJ9_floorMod_7cf53_10 : decode cJ9_floorMod_7cf53 10 = .ok (.iload_n 2, 1) := by decide +kernel
theorem dJ9_floorMod_7cf53_11 : decode cJ9_floorMod_7cf53 11 = .ok (.ifCond .eq 7, 3) := by decide +kernel
theorem dJ9_floorMod_7cf53_14 : decode cJ9_floorMod_7cf53 14 = .ok (.iload_n 2, 1) := by decide +kernel
theorem dJ9_floorMod_7cf53_15 : decode cJ9_floorMod_7cf53 15 = .ok (.iload_n 1, 1) := by decide +kernel
theorem dJ9_floorMod_7cf53_16 : decode cJ9_floorMod_7cf53 16 = .ok (.iadd, 1) := by decide +kernel
theorem dJ9_floorMod_7cf53_17 : decode cJ9_floorMod_7cf53 17 = .ok (.ireturn, 1) := by decide +kernel
theorem dJ9_floorMod_7cf53_18 : decode cJ9_floorMod_7cf53 18 = .ok (.iload_n 2, 1) := by decide +kernel
theorem dJ9_floorMod_7cf53_19 : decode cJ9_floorMod_7cf53 19 = .ok (.ireturn, 1) := by decide +kernel
theorem dJ9_abs_0f7a4_0 : decode cJ9_abs_0f7a4 0 = .ok (.iload_n 0, 1) := by decide +kernel
theorem dJ9_abs_0f7a4_1 : decode cJ9_abs_0f7a4 1 = .ok (.ifCond .ge 8, 3) := by decide +kernel
theorem dJ9_abs_0f7a4_4 : decode cJ9_abs_0f7a4 4 = .ok (.iload_n 0, 1) := by decide +kernel
theorem dJ9_abs_0f7a4_5 : decode cJ9_abs_0f7a4 5 = .ok (.ineg, 1) := by decide +kernel
theorem dJ9_abs_0f7a4_6 : decode cJ9_abs_0f7a4 6 = .ok (.goto 4, 3) := by decide +kernel
theorem dJ9_abs_0f7a4_9 : decode cJ9_abs_0f7a4 9 = .ok (.iload_n 0, 1) := by decide +kernel
theorem dJ9_abs_0f7a4_10 : decode cJ9_abs_0f7a4 10 = .ok (.ireturn, 1) := by decide +kernel
theorem dJ9_max_7cf53_0 : decode cJ9_max_7cf53 0 = .ok (.iload_n 0, 1) := by decide +kernel
theorem dJ9_max_7cf53_1 : decode cJ9_max_7cf53 1 = .ok (.iload_n 1, 1) := by decide +kernel
theorem dJ9_max_7cf53_2 : decode cJ9_max_7cf53 2 = .ok (.if_icmp .lt 7, 3) := by decide +kernel
theorem dJ9_max_7cf53_5 : decode cJ9_max_7cf53 5 = .ok (.iload_n 0, 1) := by decide +kernel
theorem dJ9_max_7cf53_6 : decode cJ9_max_7cf53 6 = .ok (.goto 4, 3) := by decide +kernel
theorem dJ9_max_7cf53_9 : decode cJ9_max_7cf53 9 = .ok (.iload_n 1, 1) := by decide +kernel
theorem dJ9_max_7cf53_10 : decode cJ9_max_7cf53 10 = .ok (.ireturn, 1) := by decide +kernel
theorem dJ9_min_7cf53_0 : decode cJ9_min_7cf53 0 = .ok (.iload_n 0, 1) := by decide +kernel
theorem dJ9_min_7cf53_1 : decode cJ9_min_7cf53 1 = .ok (.iload_n 1, 1) := by decide +kernel
theorem dJ9_min_7cf53_2 : decode cJ9_min_7cf53 2 = .ok (.if_icmp .gt 7, 3) := by decide +kernel
theorem dJ9_min_7cf53_5 : decode cJ9_min_7cf53 5 = .ok (.iload_n 0, 1) := by decide +kernel
theorem dJ9_min_7cf53_6 : decode cJ9_min_7cf53 6 = .ok (.goto 4, 3) := by decide +kernel
theorem dJ9_min_7cf53_9 : decode cJ9_min_7cf53 9 = .ok (.iload_n 1, 1) := by decide +kernel
theorem dJ9_min_7cf53_10 : decode cJ9_min_7cf53 10 = .ok (.ireturn, 1) := by decide +kernel
