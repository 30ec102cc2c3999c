theorem dX3_rows_8 : decode cX3_rows 8 = .ok (.istore_n 2, 1) := by decide +kernel
theorem dX3_rows_9 : decode cX3_rows 9 = .ok (.iload_n 2, 1) := by decide +kernel
theorem dX3_rows_10 : decode cX3_rows 10 = .ok (.aload_n 0, 1) := by decide +kernel
theorem dX3_rows_11 : decode cX3_rows 11 = .ok (.getfield 92, 3) := by decide +kernel
theorem dX3_rows_14 : decode cX3_rows 14 = .ok (.if_icmp .ge 58, 3) := by decide +kernel
theorem dX3_rows_17 : decode cX3_rows 17 = .ok (.iconst 1, 1) := by decide +kernel
theorem dX3_rows_18 : decode cX3_rows 18 = .ok (.istore_n 3, 1) := by decide +kernel
theorem dX3_rows_19 : decode cX3_rows 19 = .ok (.iconst 0, 1) := by decide +kernel
theorem dX3_rows_20 : decode cX3_rows 20 = .ok (.istore 4, 2) := by decide +kernel
theorem dX3_rows_22 : decode cX3_rows 22 = .ok (.iload 4, 2) := by decide +kernel
theorem dX3_rows_24 : decode cX3_rows 24 = .ok (.iload_n 2, 1) := by decide +kernel
theorem dX3_rows_25 : decode cX3_rows 25 = .ok (.if_icmp .ge 29, 3) := by decide +kernel
theorem dX3_rows_28 : decode cX3_rows 28 = .ok (.iload_n 3, 1) := by decide +kernel
theorem dX3_rows_29 : decode cX3_rows 29 = .ok (.ifCond .eq 17, 3) := by decide +kernel
theorem dX3_rows_32 : decode cX3_rows 32 = .ok (.aload_n 0, 1) := by decide +kernel
theorem dX3_rows_33 : decode cX3_rows 33 = .ok (.iload_n 2, 1) := by decide +kernel
theorem dX3_rows_34 : decode cX3_rows 34 = .ok (.iload 4, 2) := by decide +kernel
theorem dX3_rows_36 : decode cX3_rows 36 = .ok (.invokevirtual 127, 3) := by decide +kernel
theorem dX3_rows_39 : decode cX3_rows 39 = .ok (.ifCond .ne 7, 3) := by decide +kernel
theorem dX3_rows_42 : decode cX3_rows 42 = .ok (.iconst 1, 1) := by decide +kernel
theorem dX3_rows_43 : decode cX3_rows 43 = .ok (.goto 4, 3) := by decide +kernel
theorem dX3_rows_46 : decode cX3_rows 46 = .ok (.iconst 0, 1) := by decide +kernel
theorem dX3_rows_47 : decode cX3_rows 47 = .ok (.istore_n 3, 1) := by decide +kernel
theorem dX3_rows_48 : decode cX3_rows 48 = .ok (.iinc 4 1, 3) := by decide +kernel
theorem dX3_rows_51 : decode cX3_rows 51 = .ok (.goto (-29), 3) := by decide +kernel
theorem dX3_rows_54 : decode cX3_rows 54 = .ok (.iload_n 1, 1) := by decide +kernel
theorem dX3_rows_55 : decode cX3_rows 55 = .ok (.iload_n 3, 1) := by decide +kernel
theorem dX3_rows_56 : decode cX3_rows 56 = .ok (.ifCond .eq 7, 3) := by decide +kernel
theorem dX3_rows_59 : decode cX3_rows 59 = .ok (.iconst 1, 1) := by decide +kernel
theorem dX3_rows_60 : decode cX3_rows 60 = .ok (.goto 4, 3) := by decide +kernel
theorem dX3_rows_63 : decode cX3_rows 63 = .ok (.iconst 0, 1) := by decide +kernel
theorem dX3_rows_64 : decode cX3_rows 64 = .ok (.iadd, 1) := by decide +kernel
theorem dX3_rows_65 : decode cX3_rows 65 = .ok (.istore_n 1, 1) := by decide +kernel
theorem dX3_rows_66 : decode cX3_rows 66 = .ok (.iinc 2 1, 3) := by decide +kernel
theorem dX3_rows_69 : decode cX3_rows 69 = .ok (.goto (-60), 3) := by decide +kernel
theorem dX3_rows_72 : decode cX3_rows 72 = .ok (.iload_n 1, 1) := by decide +kernel
theorem dX3_rows_73 : decode cX3_rows 73 = .ok (.ireturn, 1) := by decide +kernel
theorem dX3_worst_0 : decode cX3_worst 0 = .ok (.aload_n 0, 1) := by decide +kernel
theorem dX3_worst_1 : decode cX3_worst 1 = .ok (.iconst 0, 1) := by decide +kernel
theorem dX3_worst_2 : decode cX3_worst 2 = .ok (.putfield 85, 3) := by decide +kernel
theorem dX3_worst_5 : decode cX3_worst 5 = .ok (.iconst 0, 1) := by decide +kernel
theorem dX3_worst_6 : decode cX3_worst 6 = .ok (.istore_n 2, 1) := by decide +kernel
theorem dX3_worst_7 : decode cX3_worst 7 = .ok (.iconst 1, 1) := by decide +kernel
theorem dX3_worst_8 : decode cX3_worst 8 = .ok (.istore_n 3, 1) := by decide +kernel
theorem dX3_worst_9 : decode cX3_worst 9 = .ok (.iload_n 3, 1) := by decide +kernel
theorem dX3_worst_10 : decode cX3_worst 10 = .ok (.aload_n 0, 1) := by decide +kernel
theorem dX3_worst_11 : decode cX3_worst 11 = .ok (.getfield 7, 3) := by decide +kernel
theorem dX3_worst_14 : decode cX3_worst 14 = .ok (.if_icmp .ge 36, 3) := by decide +kernel
theorem dX3_worst_17 : decode cX3_worst 17 = .ok (.aload_n 0, 1) := by decide +kernel
theorem dX3_worst_18 : decode cX3_worst 18 = .ok (.getfield 26, 3) := by decide +kernel
theorem dX3_worst_21 : decode cX3_worst 21 = .ok (.iload_n 3, 1) := by decide +kernel
theorem dX3_worst_22 : decode cX3_worst 22 = .ok (.iaload, 1) := by decide +kernel
theorem dX3_worst_23 : decode cX3_worst 23 = .ok (.invokestatic 131, 3) := by decide +kernel
theorem dX3_worst_26 : decode cX3_worst 26 = .ok (.aload_n 0, 1) := by decide +kernel
theorem dX3_worst_27 : decode cX3_worst 27 = .ok (.getfield 26, 3) := by decide +kernel
theorem dX3_worst_30 : decode cX3_worst 30 = .ok (.iload_n 2, 1) := by decide +kernel
theorem dX3_worst_31 : decode cX3_worst 31 = .ok (.iaload, 1) := by decide +kernel
theorem dX3_worst_32 : decode cX3_worst 32 = .ok (.invokestatic 131, 3) := by decide +kernel
theorem dX3_worst_35 : decode cX3_worst 35 = .ok (.if_icmp .le 7, 3) := by decide +kernel
theorem dX3_worst_38 : decode cX3_worst 38 = .ok (.iload_n 3, 1) := by decide +kernel
theorem dX3_worst_39 : decode cX3_worst 39 = .ok (.goto 4, 3) := by decide +kernel
theorem dX3_worst_42 : decode cX3_worst 42 = .ok (.iload_n 2, 1) := by decide +kernel
theorem dX3_worst_43 : decode cX3_worst 43 = .ok (.istore_n 2, 1) := by decide +kernel
theorem dX3_worst_44 : decode cX3_worst 44 = .ok (.iinc 3 1, 3) := by decide +kernel
theorem dX3_worst_47 : decode cX3_worst 47 = .ok (.goto (-38), 3) := by decide +kernel
theorem dX3_worst_50 : decode cX3_worst 50 = .ok (.iload_n 1, 1) := by decide +kernel
theorem dX3_worst_51 : decode cX3_worst 51 = .ok (.ifCond .eq 7, 3) := by decide +kernel
theorem dX3_worst_54 : decode cX3_worst 54 = .ok (.iload_n 2, 1) := by decide +kernel
theorem dX3_worst_55 : decode cX3_worst 55 = .ok (.goto 12, 3) := by decide +kernel
theorem dX3_worst_58 : decode cX3_worst 58 = .ok (.aload_n 0, 1) := by decide +kernel
theorem dX3_worst_59 : decode cX3_worst 59 = .ok (.getfield 26, 3) := by decide +kernel
theorem dX3_worst_62 : decode cX3_worst 62 = .ok (.iload_n 2, 1) := by decide +kernel
theorem dX3_worst_63 : decode cX3_worst 63 = .ok (.iaload, 1) := by decide +kernel
theorem dX3_worst_64 : decode cX3_worst 64 = .ok (.invokestatic 131, 3) := by decide +kernel
theorem dX3_worst_67 : decode cX3_worst 67 = .ok (.ireturn, 1) := by decide +kernel
theorem dX3_goes_0 : decode cX3_goes 0 = .ok (.iconst 1, 1) := by decide +kernel
theorem dX3_goes_1 : decode cX3_goes 1 = .ok (.istore 4, 2) := by decide +kernel
theorem dX3_goes_3 : decode cX3_goes 3 = .ok (.iconst 0, 1) := by decide +kernel
theorem dX3_goes_4 : decode cX3_goes 4 = .ok (.istore 5, 2) := by decide +kernel
theorem dX3_goes_6 : decode cX3_goes 6 = .ok (.iload 5, 2) := by decide +kernel
theorem dX3_goes_8 : decode cX3_goes 8 = .ok (.aload_n 0, 1) := by decide +kernel
theorem dX3_goes_9 : decode cX3_goes 9 = .ok (.getfield 7, 3) := by decide +kernel
theorem dX3_goes_12 : decode cX3_goes 12 = .ok (.if_icmp .ge 63, 3) := by decide +kernel
theorem dX3_goes_15 : decode cX3_goes 15 = .ok (.iload 4, 2) := by decide +kernel
theorem dX3_goes_17 : decode cX3_goes 17 = .ok (.ifCond .eq 49, 3) := by decide +kernel
theorem dX3_goes_20 : decode cX3_goes 20 = .ok (.aload_n 0, 1) := by decide +kernel
theorem dX3_goes_21 : decode cX3_goes 21 = .ok (.getfield 23, 3) := by decide +kernel
theorem dX3_goes_24 : decode cX3_goes 24 = .ok (.iload 5, 2) := by decide +kernel
theorem dX3_goes_26 : decode cX3_goes 26 = .ok (.iaload, 1) := by decide +kernel
theorem dX3_goes_27 : decode cX3_goes 27 = .ok (.iload_n 1, 1) := by decide +kernel
theorem dX3_goes_28 : decode cX3_goes 28 = .ok (.if_icmp .ne 34, 3) := by decide +kernel
theorem dX3_goes_31 : decode cX3_goes 31 = .ok (.aload_n 0, 1) := by decide +kernel
theorem dX3_goes_32 : decode cX3_goes 32 = .ok (.getfield 26, 3) := by decide +kernel
theorem dX3_goes_35 : decode cX3_goes 35 = .ok (.iload 5, 2) := by decide +kernel
theorem dX3_goes_37 : decode cX3_goes 37 = .ok (.iaload, 1) := by decide +kernel
theorem dX3_goes_38 : decode cX3_goes 38 = .ok (.aload_n 0, 1) := by decide +kernel
theorem dX3_goes_39 : decode cX3_goes 39 = .ok (.getfield 20, 3) := by decide +kernel
theorem dX3_goes_42 : decode cX3_goes 42 = .ok (.iload 5, 2) := by decide +kernel
theorem dX3_goes_44 : decode cX3_goes 44 = .ok (.iaload, 1) := by decide +kernel
theorem dX3_goes_45 : decode cX3_goes 45 = .ok (.ifCond .ne 7, 3) := by decide +kernel
theorem dX3_goes_48 : decode cX3_goes 48 = .ok (.iload_n 3, 1) := by decide +kernel
theorem dX3_goes_49 : decode cX3_goes 49 = .ok (.goto 5, 3) := by decide +kernel
theorem dX3_goes_52 : decode cX3_goes 52 = .ok (.iload_n 3, 1) := by decide +kernel
theorem dX3_goes_53 : decode cX3_goes 53 = .ok (.ineg, 1) := by decide +kernel
theorem dX3_goes_54 : decode cX3_goes 54 = .ok (.iadd, 1) := by decide +kernel
theorem dX3_goes_55 : decode cX3_goes 55 = .ok (.invokestatic 131, 3) := by decide +kernel
theorem dX3_goes_58 : decode cX3_goes 58 = .ok (.iload_n 2, 1) := by decide +kernel
theorem dX3_goes_59 : decode cX3_goes 59 = .ok (.if_icmp .gt 7, 3) := by decide +kernel
theorem dX3_goes_62 : decode cX3_goes 62 = .ok (.iconst 1, 1) := by decide +kernel
theorem dX3_goes_63 : decode cX3_goes 63 = .ok (.goto 4, 3) := by decide +kernel
theorem dX3_goes_66 : decode cX3_goes 66 = .ok (.iconst 0, 1) := by decide +kernel
theorem dX3_goes_67 : decode cX3_goes 67 = .ok (.istore 4, 2) := by decide +kernel
theorem dX3_goes_69 : decode cX3_goes 69 = .ok (.iinc 5 1, 3) := by decide +kernel
theorem dX3_goes_72 : decode cX3_goes 72 = .ok (.goto (-66), 3) := by decide +kernel
theorem dX3_goes_75 : decode cX3_goes 75 = .ok (.iload 4, 2) := by decide +kernel
theorem dX3_goes_77 : decode cX3_goes 77 = .ok (.ireturn, 1) := by decide +kernel
theorem dX3_goingOf_0 : decode cX3_goingOf 0 = .ok (.iconst 0, 1) := by decide +kernel
theorem dX3_goingOf_1 : decode cX3_goingOf 1 = .ok (.istore_n 3, 1) := by decide +kernel
theorem dX3_goingOf_2 : decode cX3_goingOf 2 = .ok (.iload_n 3, 1) := by decide +kernel
theorem dX3_goingOf_3 : decode cX3_goingOf 3 = .ok (.bipush 60, 2) := by decide +kernel
theorem dX3_goingOf_5 : decode cX3_goingOf 5 = .ok (.if_icmp .gt 35, 3) := by decide +kernel
theorem dX3_goingOf_8 : decode cX3_goingOf 8 = .ok (.aload_n 0, 1) := by decide +kernel
theorem dX3_goingOf_9 : decode cX3_goingOf 9 = .ok (.iload_n 1, 1) := by decide +kernel
theorem dX3_goingOf_10 : decode cX3_goingOf 10 = .ok (.iload_n 2, 1) := by decide +kernel
theorem dX3_goingOf_11 : decode cX3_goingOf 11 = .ok (.iload_n 3, 1) := by decide +kernel
theorem dX3_goingOf_12 : decode cX3_goingOf 12 = .ok (.invokevirtual 135, 3) := by decide +kernel
theorem dX3_goingOf_15 : decode cX3_goingOf 15 = .ok (.ifCond .eq 5, 3) := by decide +kernel
theorem dX3_goingOf_18 : decode cX3_goingOf 18 = .ok (.iload_n 3, 1) := by decide +kernel
theorem dX3_goingOf_19 : decode cX3_goingOf 19 = .ok (.ireturn, 1) := by decide +kernel
theorem dX3_goingOf_20 : decode cX3_goingOf 20 = .ok (.aload_n 0, 1) := by decide +kernel
theorem dX3_goingOf_21 : decode cX3_goingOf 21 = .ok (.iload_n 1, 1) := by decide +kernel
theorem dX3_goingOf_22 : decode cX3_goingOf 22 = .ok (.iload_n 2, 1) := by decide +kernel
theorem dX3_goingOf_23 : decode cX3_goingOf 23 = .ok (.iload_n 3, 1) := by decide +kernel
theorem dX3_goingOf_24 : decode cX3_goingOf 24 = .ok (.ineg, 1) := by decide +kernel
theorem dX3_goingOf_25 : decode cX3_goingOf 25 = .ok (.invokevirtual 135, 3) := by decide +kernel
theorem dX3_goingOf_28 : decode cX3_goingOf 28 = .ok (.ifCond .eq 6, 3) := by decide +kernel
theorem dX3_goingOf_31 : decode cX3_goingOf 31 = .ok (.iload_n 3, 1) := by decide +kernel
theorem dX3_goingOf_32 : decode cX3_goingOf 32 = .ok (.ineg, 1) := by decide +kernel
theorem dX3_goingOf_33 : decode cX3_goingOf 33 = .ok (.ireturn, 1) := by decide +kernel
theorem dX3_goingOf_34 : decode cX3_goingOf 34 = .ok (.iinc 3 1, 3) := by decide +kernel
theorem dX3_goingOf_37 : decode cX3_goingOf 37 = .ok (.goto (-35), 3) := by decide +kernel
theorem dX3_goingOf_40 : decode cX3_goingOf 40 = .ok (.bipush (-99), 2) := by decide +kernel
theorem dX3_goingOf_42 : decode cX3_goingOf 42 = .ok (.ireturn, 1) := by decide +kernel
theorem dX3_going_0 : decode cX3_going 0 = .ok (.aload_n 0, 1) := by decide +kernel
theorem dX3_going_1 : decode cX3_going 1 = .ok (.iconst 0, 1) := by decide +kernel
theorem dX3_going_2 : decode cX3_going 2 = .ok (.putfield 85, 3) := by decide +kernel
theorem dX3_going_5 : decode cX3_going 5 = .ok (.iload_n 1, 1) := by decide +kernel
theorem dX3_going_6 : decode cX3_going 6 = .ok (.i2l, 1) := by decide +kernel
theorem dX3_going_7 : decode cX3_going 7 = .ok (.lconst 0, 1) := by decide +kernel
theorem dX3_going_8 : decode cX3_going 8 = .ok (.ldc2_w 101, 3) := by decide +kernel
theorem dX3_going_11 : decode cX3_going 11 = .ok (.invokestatic 88, 3) := by decide +kernel
theorem dX3_going_14 : decode cX3_going 14 = .ok (.ifCond .ne 5, 3) := by decide +kernel
theorem dX3_going_17 : decode cX3_going 17 = .ok (.iconst (-1), 1) := by decide +kernel
theorem dX3_going_18 : decode cX3_going 18 = .ok (.ireturn, 1) := by decide +kernel
theorem dX3_going_19 : decode cX3_going 19 = .ok (.iload_n 2, 1) := by decide +kernel
theorem dX3_going_20 : decode cX3_going 20 = .ok (.i2l, 1) := by decide +kernel
theorem dX3_going_21 : decode cX3_going 21 = .ok (.lconst 0, 1) := by decide +kernel
theorem dX3_going_22 : decode cX3_going 22 = .ok (.ldc2_w 139, 3) := by decide +kernel
theorem dX3_going_25 : decode cX3_going 25 = .ok (.invokestatic 88, 3) := by decide +kernel
theorem dX3_going_28 : decode cX3_going 28 = .ok (.ifCond .eq 12, 3) := by decide +kernel
theorem dX3_going_31 : decode cX3_going 31 = .ok (.aload_n 0, 1) := by decide +kernel
theorem dX3_going_32 : decode cX3_going 32 = .ok (.iload_n 1, 1) := by decide +kernel
theorem dX3_going_33 : decode cX3_going 33 = .ok (.iload_n 2, 1) := by decide +kernel
theorem dX3_going_34 : decode cX3_going 34 = .ok (.invokevirtual 141, 3) := by decide +kernel
theorem dX3_going_37 : decode cX3_going 37 = .ok (.goto 5, 3) := by decide +kernel
theorem dX3_going_40 : decode cX3_going 40 = .ok (.bipush (-2), 2) := by decide +kernel
theorem dX3_going_42 : decode cX3_going 42 = .ok (.ireturn, 1) := by decide +kernel
theorem dX3_evens_0 : decode cX3_evens 0 = .ok (.aload_n 0, 1) := by decide +kernel
theorem dX3_evens_1 : decode cX3_evens 1 = .ok (.iconst 0, 1) := by decide +kernel
theorem dX3_evens_2 : decode cX3_evens 2 = .ok (.putfield 85, 3) := by decide +kernel
theorem dX3_evens_5 : decode cX3_evens 5 = .ok (.iload_n 1, 1) := by decide +kernel
theorem dX3_evens_6 : decode cX3_evens 6 = .ok (.i2l, 1) := by decide +kernel
theorem dX3_evens_7 : decode cX3_evens 7 = .ok (.lconst 0, 1) := by decide +kernel
theorem dX3_evens_8 : decode cX3_evens 8 = .ok (.ldc2_w 139, 3) := by decide +kernel
theorem dX3_evens_11 : decode cX3_evens 11 = .ok (.invokestatic 88, 3) := by decide +kernel
theorem dX3_evens_14 : decode cX3_evens 14 = .ok (.ifCond .ne 6, 3) := by decide +kernel
theorem dX3_evens_17 : decode cX3_evens 17 = .ok (.bipush (-2), 2) := by decide +kernel
theorem dX3_evens_19 : decode cX3_evens 19 = .ok (.ireturn, 1) := by decide +kernel
theorem dX3_evens_20 : decode cX3_evens 20 = .ok (.iconst 0, 1) := by decide +kernel
theorem dX3_evens_21 : decode cX3_evens 21 = .ok (.istore_n 2, 1) := by decide +kernel
theorem dX3_evens_22 : decode cX3_evens 22 = .ok (.iconst 0, 1) := by decide +kernel
theorem dX3_evens_23 : decode cX3_evens 23 = .ok (.istore_n 3, 1) := by decide +kernel
theorem dX3_evens_24 : decode cX3_evens 24 = .ok (.iload_n 3, 1) := by decide +kernel
theorem dX3_evens_25 : decode cX3_evens 25 = .ok (.iconst 4, 1) := by decide +kernel
theorem dX3_evens_26 : decode cX3_evens 26 = .ok (.if_icmp .ge 46, 3) := by decide +kernel
theorem dX3_evens_29 : decode cX3_evens 29 = .ok (.aload_n 0, 1) := by decide +kernel
theorem dX3_evens_30 : decode cX3_evens 30 = .ok (.iload_n 3, 1) := by decide +kernel
theorem dX3_evens_31 : decode cX3_evens 31 = .ok (.iload_n 1, 1) := by decide +kernel
theorem dX3_evens_32 : decode cX3_evens 32 = .ok (.invokevirtual 141, 3) := by decide +kernel
theorem dX3_evens_35 : decode cX3_evens 35 = .ok (.istore 4, 2) := by decide +kernel
theorem dX3_evens_37 : decode cX3_evens 37 = .ok (.iload 4, 2) := by decide +kernel
theorem dX3_evens_39 : decode cX3_evens 39 = .ok (.bipush (-99), 2) := by decide +kernel
theorem dX3_evens_41 : decode cX3_evens 41 = .ok (.if_icmp .ne 6, 3) := by decide +kernel
theorem dX3_evens_44 : decode cX3_evens 44 = .ok (.bipush (-99), 2) := by decide +kernel
theorem dX3_evens_46 : decode cX3_evens 46 = .ok (.ireturn, 1) := by decide +kernel
theorem dX3_evens_47 : decode cX3_evens 47 = .ok (.iload 4, 2) := by decide +kernel
theorem dX3_evens_49 : decode cX3_evens 49 = .ok (.invokestatic 131, 3) := by decide +kernel
theorem dX3_evens_52 : decode cX3_evens 52 = .ok (.iload_n 2, 1) := by decide +kernel
theorem dX3_evens_53 : decode cX3_evens 53 = .ok (.if_icmp .le 11, 3) := by decide +kernel
theorem dX3_evens_56 : decode cX3_evens 56 = .ok (.iload 4, 2) := by decide +kernel
theorem dX3_evens_58 : decode cX3_evens 58 = .ok (.invokestatic 131, 3) := by decide +kernel
theorem dX3_evens_61 : decode cX3_evens 61 = .ok (.goto 4, 3) := by decide +kernel
theorem dX3_evens_64 : decode cX3_evens 64 = .ok (.iload_n 2, 1) := by decide +kernel
theorem dX3_evens_65 : decode cX3_evens 65 = .ok (.istore_n 2, 1) := by decide +kernel
theorem dX3_evens_66 : decode cX3_evens 66 = .ok (.iinc 3 1, 3) := by decide +kernel
theorem dX3_evens_69 : decode cX3_evens 69 = .ok (.goto (-45), 3) := by decide +kernel
theorem dX3_evens_72 : decode cX3_evens 72 = .ok (.iload_n 2, 1) := by decide +kernel
theorem dX3_evens_73 : decode cX3_evens 73 = .ok (.ireturn, 1) := by decide +kernel
theorem dX3_paint_0 : decode cX3_paint 0 = .ok (.aload_n 0, 1) := by decide +kernel
theorem dX3_paint_1 : decode cX3_paint 1 = .ok (.iconst 0, 1) := by decide +kernel
theorem dX3_paint_2 : decode cX3_paint 2 = .ok (.putfield 85, 3) := by decide +kernel
theorem dX3_paint_5 : decode cX3_paint 5 = .ok (.aload_n 0, 1) := by decide +kernel
theorem dX3_paint_6 : decode cX3_paint 6 = .ok (.iload_n 2, 1) := by decide +kernel
theorem dX3_paint_7 : decode cX3_paint 7 = .ok (.invokevirtual 97, 3) := by decide +kernel
theorem dX3_paint_10 : decode cX3_paint 10 = .ok (.ifCond .eq 5, 3) := by decide +kernel
theorem dX3_paint_13 : decode cX3_paint 13 = .ok (.iconst (-1), 1) := by decide +kernel
theorem dX3_paint_14 : decode cX3_paint 14 = .ok (.ireturn, 1) := by decide +kernel
theorem dX3_paint_15 : decode cX3_paint 15 = .ok (.iload_n 1, 1) := by decide +kernel
theorem dX3_paint_16 : decode cX3_paint 16 = .ok (.i2l, 1) := by decide +kernel
theorem dX3_paint_17 : decode cX3_paint 17 = .ok (.lconst 0, 1) := by decide +kernel
theorem dX3_paint_18 : decode cX3_paint 18 = .ok (.ldc2_w 144, 3) := by decide +kernel
theorem dX3_paint_21 : decode cX3_paint 21 = .ok (.invokestatic 88, 3) := by decide +kernel
theorem dX3_paint_24 : decode cX3_paint 24 = .ok (.ifCond .eq 21, 3) := by decide +kernel
theorem dX3_paint_27 : decode cX3_paint 27 = .ok (.iload_n 3, 1) := by decide +kernel
theorem dX3_paint_28 : decode cX3_paint 28 = .ok (.bipush (-99), 2) := by decide +kernel
theorem dX3_paint_30 : decode cX3_paint 30 = .ok (.if_icmp .eq 18, 3) := by decide +kernel
theorem dX3_paint_33 : decode cX3_paint 33 = .ok (.iload_n 3, 1) := by decide +kernel
theorem dX3_paint_34 : decode cX3_paint 34 = .ok (.i2l, 1) := by decide +kernel
theorem dX3_paint_35 : decode cX3_paint 35 = .ok (.lconst 0, 1) := by decide +kernel
theorem dX3_paint_36 : decode cX3_paint 36 = .ok (.ldc2_w 103, 3) := by decide +kernel
theorem dX3_paint_39 : decode cX3_paint 39 = .ok (.invokestatic 88, 3) := by decide +kernel
theorem dX3_paint_42 : decode cX3_paint 42 = .ok (.ifCond .ne 6, 3) := by decide +kernel
theorem dX3_paint_45 : decode cX3_paint 45 = .ok (.bipush (-2), 2) := by decide +kernel
theorem dX3_paint_47 : decode cX3_paint 47 = .ok (.ireturn, 1) := by decide +kernel
theorem dX3_paint_48 : decode cX3_paint 48 = .ok (.aload_n 0, 1) := by decide +kernel
theorem dX3_paint_49 : decode cX3_paint 49 = .ok (.getfield 62, 3) := by decide +kernel
theorem dX3_paint_52 : decode cX3_paint 52 = .ok (.bipush 16, 2) := by decide +kernel
theorem dX3_paint_54 : decode cX3_paint 54 = .ok (.iload_n 1, 1) := by decide +kernel
theorem dX3_paint_55 : decode cX3_paint 55 = .ok (.imul, 1) := by decide +kernel
theorem dX3_paint_56 : decode cX3_paint 56 = .ok (.iload_n 2, 1) := by decide +kernel
theorem dX3_paint_57 : decode cX3_paint 57 = .ok (.iadd, 1) := by decide +kernel
theorem dX3_paint_58 : decode cX3_paint 58 = .ok (.iaload, 1) := by decide +kernel
theorem dX3_paint_59 : decode cX3_paint 59 = .ok (.istore 4, 2) := by decide +kernel
theorem dX3_paint_61 : decode cX3_paint 61 = .ok (.aload_n 0, 1) := by decide +kernel
theorem dX3_paint_62 : decode cX3_paint 62 = .ok (.getfield 62, 3) := by decide +kernel
theorem dX3_paint_65 : decode cX3_paint 65 = .ok (.bipush 16, 2) := by decide +kernel
theorem dX3_paint_67 : decode cX3_paint 67 = .ok (.iload_n 1, 1) := by decide +kernel
theorem dX3_paint_68 : decode cX3_paint 68 = .ok (.imul, 1) := by decide +kernel
theorem dX3_paint_69 : decode cX3_paint 69 = .ok (.iload_n 2, 1) := by decide +kernel
theorem dX3_paint_70 : decode cX3_paint 70 = .ok (.iadd, 1) := by decide +kernel
theorem dX3_paint_71 : decode cX3_paint 71 = .ok (.iload_n 3, 1) := by decide +kernel
theorem dX3_paint_72 : decode cX3_paint 72 = .ok (.iastore, 1) := by decide +kernel
theorem dX3_paint_73 : decode cX3_paint 73 = .ok (.iload 4, 2) := by decide +kernel
theorem dX3_paint_75 : decode cX3_paint 75 = .ok (.ireturn, 1) := by decide +kernel
theorem dX3_rule_0 : decode cX3_rule 0 = .ok (.aload_n 0, 1) := by decide +kernel
theorem dX3_rule_1 : decode cX3_rule 1 = .ok (.iconst 0, 1) := by decide +kernel
theorem dX3_rule_2 : decode cX3_rule 2 = .ok (.putfield 85, 3) := by decide +kernel
theorem dX3_rule_5 : decode cX3_rule 5 = .ok (.iload_n 1, 1) := by decide +kernel
theorem dX3_rule_6 : decode cX3_rule 6 = .ok (.i2l, 1) := by decide +kernel
theorem dX3_rule_7 : decode cX3_rule 7 = .ok (.lconst 0, 1) := by decide +kernel
theorem dX3_rule_8 : decode cX3_rule 8 = .ok (.lconst 1, 1) := by decide +kernel
theorem dX3_rule_9 : decode cX3_rule 9 = .ok (.invokestatic 88, 3) := by decide +kernel
theorem dX3_rule_12 : decode cX3_rule 12 = .ok (.ifCond .eq 33, 3) := by decide +kernel
theorem dX3_rule_15 : decode cX3_rule 15 = .ok (.iload_n 2, 1) := by decide +kernel
theorem dX3_rule_16 : decode cX3_rule 16 = .ok (.i2l, 1) := by decide +kernel
theorem dX3_rule_17 : decode cX3_rule 17 = .ok (.iload_n 1, 1) := by decide +kernel
theorem dX3_rule_18 : decode cX3_rule 18 = .ok (.ifCond .ne 7, 3) := by decide +kernel
theorem dX3_rule_21 : decode cX3_rule 21 = .ok (.lconst 1, 1) := by decide +kernel
theorem dX3_rule_22 : decode cX3_rule 22 = .ok (.goto 4, 3) := by decide +kernel
theorem dX3_rule_25 : decode cX3_rule 25 = .ok (.lconst 0, 1) := by decide +kernel
theorem dX3_rule_26 : decode cX3_rule 26 = .ok (.iload_n 1, 1) := by decide +kernel
theorem dX3_rule_27 : decode cX3_rule 27 = .ok (.ifCond .ne 9, 3) := by decide +kernel
theorem dX3_rule_30 : decode cX3_rule 30 = .ok (.ldc2_w 146, 3) := by decide +kernel
theorem dX3_rule_33 : decode cX3_rule 33 = .ok (.goto 6, 3) := by decide +kernel
theorem dX3_rule_36 : decode cX3_rule 36 = .ok (.ldc2_w 148, 3) := by decide +kernel
theorem dX3_rule_39 : decode cX3_rule 39 = .ok (.invokestatic 88, 3) := by decide +kernel
theorem dX3_rule_42 : decode cX3_rule 42 = .ok (.ifCond .ne 6, 3) := by decide +kernel
theorem dX3_rule_45 : decode cX3_rule 45 = .ok (.bipush (-2), 2) := by decide +kernel
theorem dX3_rule_47 : decode cX3_rule 47 = .ok (.ireturn, 1) := by decide +kernel
theorem dX3_rule_48 : decode cX3_rule 48 = .ok (.iload_n 1, 1) := by decide +kernel
theorem dX3_rule_49 : decode cX3_rule 49 = .ok (.ifCond .ne 10, 3) := by decide +kernel
theorem dX3_rule_52 : decode cX3_rule 52 = .ok (.aload_n 0, 1) := by decide +kernel
theorem dX3_rule_53 : decode cX3_rule 53 = .ok (.getfield 65, 3) := by decide +kernel
theorem dX3_rule_56 : decode cX3_rule 56 = .ok (.goto 7, 3) := by decide +kernel
theorem dX3_rule_59 : decode cX3_rule 59 = .ok (.aload_n 0, 1) := by decide +kernel
theorem dX3_rule_60 : decode cX3_rule 60 = .ok (.getfield 68, 3) := by decide +kernel
theorem dX3_rule_63 : decode cX3_rule 63 = .ok (.istore_n 3, 1) := by decide +kernel
theorem dX3_rule_64 : decode cX3_rule 64 = .ok (.iload_n 1, 1) := by decide +kernel
theorem dX3_rule_65 : decode cX3_rule 65 = .ok (.ifCond .ne 11, 3) := by decide +kernel
theorem dX3_rule_68 : decode cX3_rule 68 = .ok (.aload_n 0, 1) := by decide +kernel
theorem dX3_rule_69 : decode cX3_rule 69 = .ok (.iload_n 2, 1) := by decide +kernel
theorem dX3_rule_70 : decode cX3_rule 70 = .ok (.putfield 65, 3) := by decide +kernel
theorem dX3_rule_73 : decode cX3_rule 73 = .ok (.goto 8, 3) := by decide +kernel
theorem dX3_rule_76 : decode cX3_rule 76 = .ok (.aload_n 0, 1) := by decide +kernel
theorem dX3_rule_77 : decode cX3_rule 77 = .ok (.iload_n 2, 1) := by decide +kernel
theorem dX3_rule_78 : decode cX3_rule 78 = .ok (.putfield 68, 3) := by decide +kernel
theorem dX3_rule_81 : decode cX3_rule 81 = .ok (.iload_n 3, 1) := by decide +kernel
theorem dX3_rule_82 : decode cX3_rule 82 = .ok (.ireturn, 1) := by decide +kernel
theorem dX3_fits_0 : decode cX3_fits 0 = .ok (.aload_n 0, 1) := by decide +kernel
theorem dX3_fits_1 : decode cX3_fits 1 = .ok (.getfield 62, 3) := by decide +kernel
theorem dX3_fits_4 : decode cX3_fits 4 = .ok (.bipush 16, 2) := by decide +kernel
theorem dX3_fits_6 : decode cX3_fits 6 = .ok (.iload_n 1, 1) := by decide +kernel
theorem dX3_fits_7 : decode cX3_fits 7 = .ok (.imul, 1) := by decide +kernel
theorem dX3_fits_8 : decode cX3_fits 8 = .ok (.iload_n 2, 1) := by decide +kernel
theorem dX3_fits_9 : decode cX3_fits 9 = .ok (.iadd, 1) := by decide +kernel
theorem dX3_fits_10 : decode cX3_fits 10 = .ok (.iaload, 1) := by decide +kernel
theorem dX3_fits_11 : decode cX3_fits 11 = .ok (.bipush (-99), 2) := by decide +kernel
theorem dX3_fits_13 : decode cX3_fits 13 = .ok (.if_icmp .eq 18, 3) := by decide +kernel
theorem dX3_fits_16 : decode cX3_fits 16 = .ok (.aload_n 0, 1) := by decide +kernel
theorem dX3_fits_17 : decode cX3_fits 17 = .ok (.getfield 62, 3) := by decide +kernel
theorem dX3_fits_20 : decode cX3_fits 20 = .ok (.bipush 16, 2) := by decide +kernel
theorem dX3_fits_22 : decode cX3_fits 22 = .ok (.iload_n 1, 1) := by decide +kernel
theorem dX3_fits_23 : decode cX3_fits 23 = .ok (.imul, 1) := by decide +kernel
theorem dX3_fits_24 : decode cX3_fits 24 = .ok (.iload_n 2, 1) := by decide +kernel
theorem dX3_fits_25 : decode cX3_fits 25 = .ok (.iadd, 1) := by decide +kernel
theorem dX3_fits_26 : decode cX3_fits 26 = .ok (.iaload, 1) := by decide +kernel
theorem dX3_fits_27 : decode cX3_fits 27 = .ok (.iload_n 3, 1) := by decide +kernel
theorem dX3_fits_28 : decode cX3_fits 28 = .ok (.if_icmp .ne 7, 3) := by decide +kernel
theorem dX3_fits_31 : decode cX3_fits 31 = .ok (.iconst 1, 1) := by decide +kernel
theorem dX3_fits_32 : decode cX3_fits 32 = .ok (.goto 4, 3) := by decide +kernel
theorem dX3_fits_35 : decode cX3_fits 35 = .ok (.iconst 0, 1) := by decide +kernel
theorem dX3_fits_36 : decode cX3_fits 36 = .ok (.ireturn, 1) := by decide +kernel
theorem dX3_seenRows_0 : decode cX3_seenRows 0 = .ok (.aload_n 0, 1) := by decide +kernel
theorem dX3_seenRows_1 : decode cX3_seenRows 1 = .ok (.getfield 65, 3) := by decide +kernel
theorem dX3_seenRows_4 : decode cX3_seenRows 4 = .ok (.aload_n 0, 1) := by decide +kernel
theorem dX3_seenRows_5 : decode cX3_seenRows 5 = .ok (.getfield 92, 3) := by decide +kernel
theorem dX3_seenRows_8 : decode cX3_seenRows 8 = .ok (.if_icmp .ge 10, 3) := by decide +kernel
theorem dX3_seenRows_11 : decode cX3_seenRows 11 = .ok (.aload_n 0, 1) := by decide +kernel
theorem dX3_seenRows_12 : decode cX3_seenRows 12 = .ok (.getfield 65, 3) := by decide +kernel
theorem dX3_seenRows_15 : decode cX3_seenRows 15 = .ok (.goto 7, 3) := by decide +kernel
theorem dX3_seenRows_18 : decode cX3_seenRows 18 = .ok (.aload_n 0, 1) := by decide +kernel
theorem dX3_seenRows_19 : decode cX3_seenRows 19 = .ok (.getfield 92, 3) := by decide +kernel
theorem dX3_seenRows_22 : decode cX3_seenRows 22 = .ok (.ireturn, 1) := by decide +kernel
theorem dX3_unlike_0 : decode cX3_unlike 0 = .ok (.aload_n 0, 1) := by decide +kernel
theorem dX3_unlike_1 : decode cX3_unlike 1 = .ok (.iconst 0, 1) := by decide +kernel
theorem dX3_unlike_2 : decode cX3_unlike 2 = .ok (.putfield 85, 3) := by decide +kernel
theorem dX3_unlike_5 : decode cX3_unlike 5 = .ok (.iconst 0, 1) := by decide +kernel
theorem dX3_unlike_6 : decode cX3_unlike 6 = .ok (.istore_n 1, 1) := by decide +kernel
theorem dX3_unlike_7 : decode cX3_unlike 7 = .ok (.iconst 0, 1) := by decide +kernel
theorem dX3_unlike_8 : decode cX3_unlike 8 = .ok (.istore_n 2, 1) := by decide +kernel
theorem dX3_unlike_9 : decode cX3_unlike 9 = .ok (.iload_n 2, 1) := by decide +kernel
theorem dX3_unlike_10 : decode cX3_unlike 10 = .ok (.aload_n 0, 1) := by decide +kernel
theorem dX3_unlike_11 : decode cX3_unlike 11 = .ok (.invokevirtual 150, 3) := by decide +kernel
theorem dX3_unlike_14 : decode cX3_unlike 14 = .ok (.if_icmp .ge 48, 3) := by decide +kernel
theorem dX3_unlike_17 : decode cX3_unlike 17 = .ok (.iconst 0, 1) := by decide +kernel
theorem dX3_unlike_18 : decode cX3_unlike 18 = .ok (.istore_n 3, 1) := by decide +kernel
theorem dX3_unlike_19 : decode cX3_unlike 19 = .ok (.iload_n 3, 1) := by decide +kernel
theorem dX3_unlike_20 : decode cX3_unlike 20 = .ok (.aload_n 0, 1) := by decide +kernel
theorem dX3_unlike_21 : decode cX3_unlike 21 = .ok (.getfield 7, 3) := by decide +kernel
theorem dX3_unlike_24 : decode cX3_unlike 24 = .ok (.if_icmp .ge 32, 3) := by decide +kernel
theorem dX3_unlike_27 : decode cX3_unlike 27 = .ok (.iload_n 1, 1) := by decide +kernel
theorem dX3_unlike_28 : decode cX3_unlike 28 = .ok (.aload_n 0, 1) := by decide +kernel
theorem dX3_unlike_29 : decode cX3_unlike 29 = .ok (.iload_n 2, 1) := by decide +kernel
theorem dX3_unlike_30 : decode cX3_unlike 30 = .ok (.iload_n 3, 1) := by decide +kernel
theorem dX3_unlike_31 : decode cX3_unlike 31 = .ok (.aload_n 0, 1) := by decide +kernel
theorem dX3_unlike_32 : decode cX3_unlike 32 = .ok (.iload_n 2, 1) := by decide +kernel
theorem dX3_unlike_33 : decode cX3_unlike 33 = .ok (.iload_n 3, 1) := by decide +kernel
theorem dX3_unlike_34 : decode cX3_unlike 34 = .ok (.invokevirtual 124, 3) := by decide +kernel
theorem dX3_unlike_37 : decode cX3_unlike 37 = .ok (.invokevirtual 154, 3) := by decide +kernel
theorem dX3_unlike_40 : decode cX3_unlike 40 = .ok (.ifCond .eq 7, 3) := by decide +kernel
theorem dX3_unlike_43 : decode cX3_unlike 43 = .ok (.iconst 0, 1) := by decide +kernel
theorem dX3_unlike_44 : decode cX3_unlike 44 = .ok (.goto 4, 3) := by decide +kernel
theorem dX3_unlike_47 : decode cX3_unlike 47 = .ok (.iconst 1, 1) := by decide +kernel
theorem dX3_unlike_48 : decode cX3_unlike 48 = .ok (.iadd, 1) := by decide +kernel
theorem dX3_unlike_49 : decode cX3_unlike 49 = .ok (.istore_n 1, 1) := by decide +kernel
theorem dX3_unlike_50 : decode cX3_unlike 50 = .ok (.iinc 3 1, 3) := by decide +kernel
theorem dX3_unlike_53 : decode cX3_unlike 53 = .ok (.goto (-34), 3) := by decide +kernel
theorem dX3_unlike_56 : decode cX3_unlike 56 = .ok (.iinc 2 1, 3) := by decide +kernel
theorem dX3_unlike_59 : decode cX3_unlike 59 = .ok (.goto (-50), 3) := by decide +kernel
theorem dX3_unlike_62 : decode cX3_unlike 62 = .ok (.iload_n 1, 1) := by decide +kernel
theorem dX3_unlike_63 : decode cX3_unlike 63 = .ok (.ireturn, 1) := by decide +kernel
theorem dX3_lies_0 : decode cX3_lies 0 = .ok (.aload_n 0, 1) := by decide +kernel
theorem dX3_lies_1 : decode cX3_lies 1 = .ok (.getfield 17, 3) := by decide +kernel
theorem dX3_lies_4 : decode cX3_lies 4 = .ok (.iconst 4, 1) := by decide +kernel
theorem dX3_lies_5 : decode cX3_lies 5 = .ok (.iload_n 1, 1) := by decide +kernel
theorem dX3_lies_6 : decode cX3_lies 6 = .ok (.imul, 1) := by decide +kernel
theorem dX3_lies_7 : decode cX3_lies 7 = .ok (.iload_n 3, 1) := by decide +kernel
theorem dX3_lies_8 : decode cX3_lies 8 = .ok (.bipush 8, 2) := by decide +kernel
theorem dX3_lies_10 : decode cX3_lies 10 = .ok (.iadd, 1) := by decide +kernel
theorem dX3_lies_11 : decode cX3_lies 11 = .ok (.iload_n 2, 1) := by decide +kernel
theorem dX3_lies_12 : decode cX3_lies 12 = .ok (.isub, 1) := by decide +kernel
theorem dX3_lies_13 : decode cX3_lies 13 = .ok (.iconst 4, 1) := by decide +kernel
theorem dX3_lies_14 : decode cX3_lies 14 = .ok (.irem, 1) := by decide +kernel
theorem dX3_lies_15 : decode cX3_lies 15 = .ok (.iadd, 1) := by decide +kernel
theorem dX3_lies_16 : decode cX3_lies 16 = .ok (.iaload, 1) := by decide +kernel
theorem dX3_lies_17 : decode cX3_lies 17 = .ok (.ireturn, 1) := by decide +kernel
theorem dX3_spot_0 : decode cX3_spot 0 = .ok (.iload_n 0, 1) := by decide +kernel
theorem dX3_spot_1 : decode cX3_spot 1 = .ok (.iconst 4, 1) := by decide +kernel
theorem dX3_spot_2 : decode cX3_spot 2 = .ok (.imul, 1) := by decide +kernel
theorem dX3_spot_3 : decode cX3_spot 3 = .ok (.iload_n 1, 1) := by decide +kernel
theorem dX3_spot_4 : decode cX3_spot 4 = .ok (.iadd, 1) := by decide +kernel
theorem dX3_spot_5 : decode cX3_spot 5 = .ok (.iconst 4, 1) := by decide +kernel
theorem dX3_spot_6 : decode cX3_spot 6 = .ok (.imul, 1) := by decide +kernel
theorem dX3_spot_7 : decode cX3_spot 7 = .ok (.iload_n 2, 1) := by decide +kernel
theorem dX3_spot_8 : decode cX3_spot 8 = .ok (.iadd, 1) := by decide +kernel
theorem dX3_spot_9 : decode cX3_spot 9 = .ok (.bipush 10, 2) := by decide +kernel
theorem dX3_spot_11 : decode cX3_spot 11 = .ok (.imul, 1) := by decide +kernel
theorem dX3_spot_12 : decode cX3_spot 12 = .ok (.iload_n 3, 1) := by decide +kernel
theorem dX3_spot_13 : decode cX3_spot 13 = .ok (.iadd, 1) := by decide +kernel
theorem dX3_spot_14 : decode cX3_spot 14 = .ok (.bipush 61, 2) := by decide +kernel
theorem dX3_spot_16 : decode cX3_spot 16 = .ok (.imul, 1) := by decide +kernel
theorem dX3_spot_17 : decode cX3_spot 17 = .ok (.iload 4, 2) := by decide +kernel
theorem dX3_spot_19 : decode cX3_spot 19 = .ok (.iadd, 1) := by decide +kernel
theorem dX3_spot_20 : decode cX3_spot 20 = .ok (.bipush 30, 2) := by decide +kernel
theorem dX3_spot_22 : decode cX3_spot 22 = .ok (.iadd, 1) := by decide +kernel
theorem dX3_spot_23 : decode cX3_spot 23 = .ok (.ireturn, 1) := by decide +kernel
theorem dX3_by_0 : decode cX3_by 0 = .ok (.iload 7, 2) := by decide +kernel
theorem dX3_by_2 : decode cX3_by 2 = .ok (.iconst 2, 1) := by decide +kernel
theorem dX3_by_3 : decode cX3_by 3 = .ok (.if_icmp .ne 90, 3) := by decide +kernel
theorem dX3_by_6 : decode cX3_by 6 = .ok (.iload 5, 2) := by decide +kernel
theorem dX3_by_8 : decode cX3_by 8 = .ok (.aload_n 0, 1) := by decide +kernel
theorem dX3_by_9 : decode cX3_by 9 = .ok (.getfield 68, 3) := by decide +kernel
theorem dX3_by_12 : decode cX3_by 12 = .ok (.if_icmp .ge 27, 3) := by decide +kernel
theorem dX3_by_15 : decode cX3_by 15 = .ok (.aload_n 0, 1) := by decide +kernel
theorem dX3_by_16 : decode cX3_by 16 = .ok (.iload_n 2, 1) := by decide +kernel
theorem dX3_by_17 : decode cX3_by 17 = .ok (.iload_n 1, 1) := by decide +kernel
theorem dX3_by_18 : decode cX3_by 18 = .ok (.aload_n 0, 1) := by decide +kernel
theorem dX3_by_19 : decode cX3_by 19 = .ok (.getfield 13, 3) := by decide +kernel
theorem dX3_by_22 : decode cX3_by 22 = .ok (.iconst 4, 1) := by decide +kernel
theorem dX3_by_23 : decode cX3_by 23 = .ok (.iload_n 1, 1) := by decide +kernel
theorem dX3_by_24 : decode cX3_by 24 = .ok (.imul, 1) := by decide +kernel
theorem dX3_by_25 : decode cX3_by 25 = .ok (.iload 4, 2) := by decide +kernel
theorem dX3_by_27 : decode cX3_by 27 = .ok (.iadd, 1) := by decide +kernel
theorem dX3_by_28 : decode cX3_by 28 = .ok (.iaload, 1) := by decide +kernel
theorem dX3_by_29 : decode cX3_by 29 = .ok (.invokevirtual 154, 3) := by decide +kernel
theorem dX3_by_32 : decode cX3_by 32 = .ok (.ifCond .eq 7, 3) := by decide +kernel
theorem dX3_by_35 : decode cX3_by 35 = .ok (.iconst 1, 1) := by decide +kernel
theorem dX3_by_36 : decode cX3_by 36 = .ok (.goto 4, 3) := by decide +kernel
theorem dX3_by_39 : decode cX3_by 39 = .ok (.iconst 0, 1) := by decide +kernel
theorem dX3_by_40 : decode cX3_by 40 = .ok (.istore 8, 2) := by decide +kernel
theorem dX3_by_42 : decode cX3_by 42 = .ok (.iload 8, 2) := by decide +kernel
theorem dX3_by_44 : decode cX3_by 44 = .ok (.ifCond .eq 26, 3) := by decide +kernel
theorem dX3_by_47 : decode cX3_by 47 = .ok (.aload_n 0, 1) := by decide +kernel
theorem dX3_by_48 : decode cX3_by 48 = .ok (.getfield 72, 3) := by decide +kernel
theorem dX3_by_51 : decode cX3_by 51 = .ok (.iload_n 2, 1) := by decide +kernel
theorem dX3_by_52 : decode cX3_by 52 = .ok (.iconst 1, 1) := by decide +kernel
theorem dX3_by_53 : decode cX3_by 53 = .ok (.iadd, 1) := by decide +kernel
theorem dX3_by_54 : decode cX3_by 54 = .ok (.iload_n 3, 1) := by decide +kernel
theorem dX3_by_55 : decode cX3_by 55 = .ok (.iload 4, 2) := by decide +kernel
theorem dX3_by_57 : decode cX3_by 57 = .ok (.iload 5, 2) := by decide +kernel
theorem dX3_by_59 : decode cX3_by 59 = .ok (.iconst 1, 1) := by decide +kernel
theorem dX3_by_60 : decode cX3_by 60 = .ok (.iadd, 1) := by decide +kernel
theorem dX3_by_61 : decode cX3_by 61 = .ok (.iload 6, 2) := by decide +kernel
theorem dX3_by_63 : decode cX3_by 63 = .ok (.invokestatic 157, 3) := by decide +kernel
theorem dX3_by_66 : decode cX3_by 66 = .ok (.iaload, 1) := by decide +kernel
theorem dX3_by_67 : decode cX3_by 67 = .ok (.goto 5, 3) := by decide +kernel
theorem dX3_by_70 : decode cX3_by 70 = .ok (.ldc 161, 2) := by decide +kernel
theorem dX3_by_72 : decode cX3_by 72 = .ok (.istore 9, 2) := by decide +kernel
theorem dX3_by_74 : decode cX3_by 74 = .ok (.iload 9, 2) := by decide +kernel
theorem dX3_by_76 : decode cX3_by 76 = .ok (.ldc 161, 2) := by decide +kernel
theorem dX3_by_78 : decode cX3_by 78 = .ok (.if_icmp .ge 12, 3) := by decide +kernel
theorem dX3_by_81 : decode cX3_by 81 = .ok (.iload 9, 2) := by decide +kernel
theorem dX3_by_83 : decode cX3_by 83 = .ok (.sipush 1000, 3) := by decide +kernel
theorem dX3_by_86 : decode cX3_by 86 = .ok (.iadd, 1) := by decide +kernel
theorem dX3_by_87 : decode cX3_by 87 = .ok (.goto 5, 3) := by decide +kernel
theorem dX3_by_90 : decode cX3_by 90 = .ok (.ldc 161, 2) := by decide +kernel
theorem dX3_by_92 : decode cX3_by 92 = .ok (.ireturn, 1) := by decide +kernel
theorem dX3_by_93 : decode cX3_by 93 = .ok (.iload_n 3, 1) := by decide +kernel
theorem dX3_by_94 : decode cX3_by 94 = .ok (.iload 7, 2) := by decide +kernel
theorem dX3_by_96 : decode cX3_by 96 = .ok (.ifCond .ne 7, 3) := by decide +kernel
theorem dX3_by_99 : decode cX3_by 99 = .ok (.iconst 1, 1) := by decide +kernel
theorem dX3_by_100 : decode cX3_by 100 = .ok (.goto 4, 3) := by decide +kernel
theorem dX3_by_103 : decode cX3_by 103 = .ok (.iconst 3, 1) := by decide +kernel
theorem dX3_by_104 : decode cX3_by 104 = .ok (.iadd, 1) := by decide +kernel
theorem dX3_by_105 : decode cX3_by 105 = .ok (.iconst 4, 1) := by decide +kernel
theorem dX3_by_106 : decode cX3_by 106 = .ok (.irem, 1) := by decide +kernel
theorem dX3_by_107 : decode cX3_by 107 = .ok (.istore 8, 2) := by decide +kernel
theorem dX3_by_109 : decode cX3_by 109 = .ok (.aload_n 0, 1) := by decide +kernel
theorem dX3_by_110 : decode cX3_by 110 = .ok (.iload_n 1, 1) := by decide +kernel
theorem dX3_by_111 : decode cX3_by 111 = .ok (.iload 8, 2) := by decide +kernel
theorem dX3_by_113 : decode cX3_by 113 = .ok (.iload 7, 2) := by decide +kernel
theorem dX3_by_115 : decode cX3_by 115 = .ok (.invokevirtual 162, 3) := by decide +kernel
theorem dX3_by_118 : decode cX3_by 118 = .ok (.istore 9, 2) := by decide +kernel
theorem dX3_by_120 : decode cX3_by 120 = .ok (.iload 6, 2) := by decide +kernel
theorem dX3_by_122 : decode cX3_by 122 = .ok (.iload 7, 2) := by decide +kernel
theorem dX3_by_124 : decode cX3_by 124 = .ok (.aload_n 0, 1) := by decide +kernel
theorem dX3_by_125 : decode cX3_by 125 = .ok (.getfield 20, 3) := by decide +kernel
theorem dX3_by_128 : decode cX3_by 128 = .ok (.iload_n 1, 1) := by decide +kernel
theorem dX3_by_129 : decode cX3_by 129 = .ok (.iaload, 1) := by decide +kernel
theorem dX3_by_130 : decode cX3_by 130 = .ok (.if_icmp .ne 7, 3) := by decide +kernel
theorem dX3_by_133 : decode cX3_by 133 = .ok (.iconst 1, 1) := by decide +kernel
theorem dX3_by_134 : decode cX3_by 134 = .ok (.goto 4, 3) := by decide +kernel
theorem dX3_by_137 : decode cX3_by 137 = .ok (.iconst (-1), 1) := by decide +kernel
theorem dX3_by_138 : decode cX3_by 138 = .ok (.iadd, 1) := by decide +kernel
theorem dX3_by_139 : decode cX3_by 139 = .ok (.istore 10, 2) := by decide +kernel
theorem dX3_by_141 : decode cX3_by 141 = .ok (.iload 10, 2) := by decide +kernel
theorem dX3_by_143 : decode cX3_by 143 = .ok (.i2l, 1) := by decide +kernel
theorem dX3_by_144 : decode cX3_by 144 = .ok (.ldc2_w 166, 3) := by decide +kernel
theorem dX3_by_147 : decode cX3_by 147 = .ok (.ldc2_w 146, 3) := by decide +kernel
theorem dX3_by_150 : decode cX3_by 150 = .ok (.invokestatic 88, 3) := by decide +kernel
theorem dX3_by_153 : decode cX3_by 153 = .ok (.ifCond .eq 44, 3) := by decide +kernel
theorem dX3_by_156 : decode cX3_by 156 = .ok (.aload_n 0, 1) := by decide +kernel
theorem dX3_by_157 : decode cX3_by 157 = .ok (.iload_n 2, 1) := by decide +kernel
theorem dX3_by_158 : decode cX3_by 158 = .ok (.iload_n 1, 1) := by decide +kernel
theorem dX3_by_159 : decode cX3_by 159 = .ok (.aload_n 0, 1) := by decide +kernel
theorem dX3_by_160 : decode cX3_by 160 = .ok (.getfield 13, 3) := by decide +kernel
theorem dX3_by_163 : decode cX3_by 163 = .ok (.iconst 4, 1) := by decide +kernel
theorem dX3_by_164 : decode cX3_by 164 = .ok (.iload_n 1, 1) := by decide +kernel
theorem dX3_by_165 : decode cX3_by 165 = .ok (.imul, 1) := by decide +kernel
theorem dX3_by_166 : decode cX3_by 166 = .ok (.iload 9, 2) := by decide +kernel
theorem dX3_by_168 : decode cX3_by 168 = .ok (.iadd, 1) := by decide +kernel
theorem dX3_by_169 : decode cX3_by 169 = .ok (.iaload, 1) := by decide +kernel
theorem dX3_by_170 : decode cX3_by 170 = .ok (.invokevirtual 154, 3) := by decide +kernel
theorem dX3_by_173 : decode cX3_by 173 = .ok (.ifCond .eq 24, 3) := by decide +kernel
theorem dX3_by_176 : decode cX3_by 176 = .ok (.aload_n 0, 1) := by decide +kernel
theorem dX3_by_177 : decode cX3_by 177 = .ok (.getfield 72, 3) := by decide +kernel
theorem dX3_by_180 : decode cX3_by 180 = .ok (.iload_n 2, 1) := by decide +kernel
theorem dX3_by_181 : decode cX3_by 181 = .ok (.iconst 1, 1) := by decide +kernel
theorem dX3_by_182 : decode cX3_by 182 = .ok (.iadd, 1) := by decide +kernel
theorem dX3_by_183 : decode cX3_by 183 = .ok (.iload 8, 2) := by decide +kernel
theorem dX3_by_185 : decode cX3_by 185 = .ok (.iload 9, 2) := by decide +kernel
theorem dX3_by_187 : decode cX3_by 187 = .ok (.iconst 0, 1) := by decide +kernel
theorem dX3_by_188 : decode cX3_by 188 = .ok (.iload 10, 2) := by decide +kernel
theorem dX3_by_190 : decode cX3_by 190 = .ok (.invokestatic 157, 3) := by decide +kernel
theorem dX3_by_193 : decode cX3_by 193 = .ok (.iaload, 1) := by decide +kernel
theorem dX3_by_194 : decode cX3_by 194 = .ok (.goto 5, 3) := by decide +kernel
theorem dX3_by_197 : decode cX3_by 197 = .ok (.ldc 161, 2) := by decide +kernel
theorem dX3_by_199 : decode cX3_by 199 = .ok (.ireturn, 1) := by decide +kernel
theorem dX3_look_0 : decode cX3_look 0 = .ok (.iconst 0, 1) := by decide +kernel
theorem dX3_look_1 : decode cX3_look 1 = .ok (.istore_n 2, 1) := by decide +kernel
theorem dX3_look_2 : decode cX3_look 2 = .ok (.iload_n 2, 1) := by decide +kernel
theorem dX3_look_3 : decode cX3_look 3 = .ok (.iconst 4, 1) := by decide +kernel
theorem dX3_look_4 : decode cX3_look 4 = .ok (.if_icmp .ge 85, 3) := by decide +kernel
theorem dX3_look_7 : decode cX3_look 7 = .ok (.iconst 0, 1) := by decide +kernel
theorem dX3_look_8 : decode cX3_look 8 = .ok (.istore_n 3, 1) := by decide +kernel
theorem dX3_look_9 : decode cX3_look 9 = .ok (.iload_n 3, 1) := by decide +kernel
theorem dX3_look_10 : decode cX3_look 10 = .ok (.iconst 4, 1) := by decide +kernel
theorem dX3_look_11 : decode cX3_look 11 = .ok (.if_icmp .ge 72, 3) := by decide +kernel
theorem dX3_look_14 : decode cX3_look 14 = .ok (.iconst 0, 1) := by decide +kernel
theorem dX3_look_15 : decode cX3_look 15 = .ok (.istore 4, 2) := by decide +kernel
theorem dX3_look_17 : decode cX3_look 17 = .ok (.iload 4, 2) := by decide +kernel
theorem dX3_look_19 : decode cX3_look 19 = .ok (.bipush 10, 2) := by decide +kernel
theorem dX3_look_21 : decode cX3_look 21 = .ok (.if_icmp .ge 56, 3) := by decide +kernel
theorem dX3_look_24 : decode cX3_look 24 = .ok (.bipush (-30), 2) := by decide +kernel
theorem dX3_look_26 : decode cX3_look 26 = .ok (.istore 5, 2) := by decide +kernel
theorem dX3_look_28 : decode cX3_look 28 = .ok (.iload 5, 2) := by decide +kernel
theorem dX3_look_30 : decode cX3_look 30 = .ok (.bipush 30, 2) := by decide +kernel
theorem dX3_look_32 : decode cX3_look 32 = .ok (.if_icmp .gt 39, 3) := by decide +kernel
theorem dX3_look_35 : decode cX3_look 35 = .ok (.aload_n 0, 1) := by decide +kernel
theorem dX3_look_36 : decode cX3_look 36 = .ok (.getfield 72, 3) := by decide +kernel
theorem dX3_look_39 : decode cX3_look 39 = .ok (.aload_n 0, 1) := by decide +kernel
theorem dX3_look_40 : decode cX3_look 40 = .ok (.getfield 65, 3) := by decide +kernel
theorem dX3_look_43 : decode cX3_look 43 = .ok (.iload_n 2, 1) := by decide +kernel
theorem dX3_look_44 : decode cX3_look 44 = .ok (.iload_n 3, 1) := by decide +kernel
theorem dX3_look_45 : decode cX3_look 45 = .ok (.iload 4, 2) := by decide +kernel
theorem dX3_look_47 : decode cX3_look 47 = .ok (.iload 5, 2) := by decide +kernel
theorem dX3_look_49 : decode cX3_look 49 = .ok (.invokestatic 157, 3) := by decide +kernel
theorem dX3_look_52 : decode cX3_look 52 = .ok (.aload_n 0, 1) := by decide +kernel
theorem dX3_look_53 : decode cX3_look 53 = .ok (.getfield 26, 3) := by decide +kernel
theorem dX3_look_56 : decode cX3_look 56 = .ok (.iload_n 1, 1) := by decide +kernel
theorem dX3_look_57 : decode cX3_look 57 = .ok (.iaload, 1) := by decide +kernel
theorem dX3_look_58 : decode cX3_look 58 = .ok (.iload 5, 2) := by decide +kernel
theorem dX3_look_60 : decode cX3_look 60 = .ok (.iadd, 1) := by decide +kernel
theorem dX3_look_61 : decode cX3_look 61 = .ok (.invokestatic 131, 3) := by decide +kernel
theorem dX3_look_64 : decode cX3_look 64 = .ok (.iastore, 1) := by decide +kernel
theorem dX3_look_65 : decode cX3_look 65 = .ok (.iinc 5 1, 3) := by decide +kernel
theorem dX3_look_68 : decode cX3_look 68 = .ok (.goto (-40), 3) := by decide +kernel
theorem dX3_look_71 : decode cX3_look 71 = .ok (.iinc 4 1, 3) := by decide +kernel
theorem dX3_look_74 : decode cX3_look 74 = .ok (.goto (-57), 3) := by decide +kernel
theorem dX3_look_77 : decode cX3_look 77 = .ok (.iinc 3 1, 3) := by decide +kernel
theorem dX3_look_80 : decode cX3_look 80 = .ok (.goto (-71), 3) := by decide +kernel
theorem dX3_look_83 : decode cX3_look 83 = .ok (.iinc 2 1, 3) := by decide +kernel
theorem dX3_look_86 : decode cX3_look 86 = .ok (.goto (-84), 3) := by decide +kernel
theorem dX3_look_89 : decode cX3_look 89 = .ok (.aload_n 0, 1) := by decide +kernel
theorem dX3_look_90 : decode cX3_look 90 = .ok (.getfield 65, 3) := by decide +kernel
theorem dX3_look_93 : decode cX3_look 93 = .ok (.iconst 1, 1) := by decide +kernel
theorem dX3_look_94 : decode cX3_look 94 = .ok (.isub, 1) := by decide +kernel
theorem dX3_look_95 : decode cX3_look 95 = .ok (.istore_n 2, 1) := by decide +kernel
theorem dX3_look_96 : decode cX3_look 96 = .ok (.iload_n 2, 1) := by decide +kernel
theorem dX3_look_97 : decode cX3_look 97 = .ok (.ifCond .lt 157, 3) := by decide +kernel
theorem dX3_look_100 : decode cX3_look 100 = .ok (.iconst 0, 1) := by decide +kernel
theorem dX3_look_101 : decode cX3_look 101 = .ok (.istore_n 3, 1) := by decide +kernel
theorem dX3_look_102 : decode cX3_look 102 = .ok (.iload_n 3, 1) := by decide +kernel
theorem dX3_look_103 : decode cX3_look 103 = .ok (.iconst 4, 1) := by decide +kernel
theorem dX3_look_104 : decode cX3_look 104 = .ok (.if_icmp .ge 144, 3) := by decide +kernel
theorem dX3_look_107 : decode cX3_look 107 = .ok (.iconst 0, 1) := by decide +kernel
theorem dX3_look_108 : decode cX3_look 108 = .ok (.istore 4, 2) := by decide +kernel
theorem dX3_look_110 : decode cX3_look 110 = .ok (.iload 4, 2) := by decide +kernel
theorem dX3_look_112 : decode cX3_look 112 = .ok (.iconst 4, 1) := by decide +kernel
theorem dX3_look_113 : decode cX3_look 113 = .ok (.if_icmp .ge 129, 3) := by decide +kernel
theorem dX3_look_116 : decode cX3_look 116 = .ok (.iconst 0, 1) := by decide +kernel
theorem dX3_look_117 : decode cX3_look 117 = .ok (.istore 5, 2) := by decide +kernel
theorem dX3_look_119 : decode cX3_look 119 = .ok (.iload 5, 2) := by decide +kernel
theorem dX3_look_121 : decode cX3_look 121 = .ok (.bipush 10, 2) := by decide +kernel
theorem dX3_look_123 : decode cX3_look 123 = .ok (.if_icmp .ge 113, 3) := by decide +kernel
theorem dX3_look_126 : decode cX3_look 126 = .ok (.iload_n 2, 1) := by decide +kernel
theorem dX3_look_127 : decode cX3_look 127 = .ok (.ineg, 1) := by decide +kernel
theorem dX3_look_128 : decode cX3_look 128 = .ok (.istore 6, 2) := by decide +kernel
theorem dX3_look_130 : decode cX3_look 130 = .ok (.iload 6, 2) := by decide +kernel
theorem dX3_look_132 : decode cX3_look 132 = .ok (.iload_n 2, 1) := by decide +kernel
theorem dX3_look_133 : decode cX3_look 133 = .ok (.if_icmp .gt 97, 3) := by decide +kernel
theorem dX3_look_136 : decode cX3_look 136 = .ok (.ldc 161, 2) := by decide +kernel
theorem dX3_look_138 : decode cX3_look 138 = .ok (.istore 7, 2) := by decide +kernel
theorem dX3_look_140 : decode cX3_look 140 = .ok (.iconst 0, 1) := by decide +kernel
theorem dX3_look_141 : decode cX3_look 141 = .ok (.istore 8, 2) := by decide +kernel
theorem dX3_look_143 : decode cX3_look 143 = .ok (.iload 8, 2) := by decide +kernel
theorem dX3_look_145 : decode cX3_look 145 = .ok (.iconst 3, 1) := by decide +kernel
theorem dX3_look_146 : decode cX3_look 146 = .ok (.if_icmp .ge 60, 3) := by decide +kernel
theorem dX3_look_149 : decode cX3_look 149 = .ok (.iload 5, 2) := by decide +kernel
theorem dX3_look_151 : decode cX3_look 151 = .ok (.bipush 9, 2) := by decide +kernel
theorem dX3_look_153 : decode cX3_look 153 = .ok (.if_icmp .ne 14, 3) := by decide +kernel
theorem dX3_look_156 : decode cX3_look 156 = .ok (.iload 8, 2) := by decide +kernel
theorem dX3_look_158 : decode cX3_look 158 = .ok (.iconst 2, 1) := by decide +kernel
theorem dX3_look_159 : decode cX3_look 159 = .ok (.if_icmp .ne 8, 3) := by decide +kernel
theorem dX3_look_162 : decode cX3_look 162 = .ok (.ldc 161, 2) := by decide +kernel
theorem dX3_look_164 : decode cX3_look 164 = .ok (.goto 18, 3) := by decide +kernel
theorem dX3_look_167 : decode cX3_look 167 = .ok (.aload_n 0, 1) := by decide +kernel
theorem dX3_look_168 : decode cX3_look 168 = .ok (.iload_n 1, 1) := by decide +kernel
theorem dX3_look_169 : decode cX3_look 169 = .ok (.iload_n 2, 1) := by decide +kernel
theorem dX3_look_170 : decode cX3_look 170 = .ok (.iload_n 3, 1) := by decide +kernel
theorem dX3_look_171 : decode cX3_look 171 = .ok (.iload 4, 2) := by decide +kernel
theorem dX3_look_173 : decode cX3_look 173 = .ok (.iload 5, 2) := by decide +kernel
theorem dX3_look_175 : decode cX3_look 175 = .ok (.iload 6, 2) := by decide +kernel
theorem dX3_look_177 : decode cX3_look 177 = .ok (.iload 8, 2) := by decide +kernel
theorem dX3_look_179 : decode cX3_look 179 = .ok (.invokevirtual 168, 3) := by decide +kernel
theorem dX3_look_182 : decode cX3_look 182 = .ok (.istore 9, 2) := by decide +kernel
theorem dX3_look_184 : decode cX3_look 184 = .ok (.iload 9, 2) := by decide +kernel
theorem dX3_look_186 : decode cX3_look 186 = .ok (.iload 7, 2) := by decide +kernel
theorem dX3_look_188 : decode cX3_look 188 = .ok (.if_icmp .ge 8, 3) := by decide +kernel
theorem dX3_look_191 : decode cX3_look 191 = .ok (.iload 9, 2) := by decide +kernel
theorem dX3_look_193 : decode cX3_look 193 = .ok (.goto 5, 3) := by decide +kernel
theorem dX3_look_196 : decode cX3_look 196 = .ok (.iload 7, 2) := by decide +kernel
theorem dX3_look_198 : decode cX3_look 198 = .ok (.istore 7, 2) := by decide +kernel
theorem dX3_look_200 : decode cX3_look 200 = .ok (.iinc 8 1, 3) := by decide +kernel
theorem dX3_look_203 : decode cX3_look 203 = .ok (.goto (-60), 3) := by decide +kernel
theorem dX3_look_206 : decode cX3_look 206 = .ok (.aload_n 0, 1) := by decide +kernel
theorem dX3_look_207 : decode cX3_look 207 = .ok (.getfield 72, 3) := by decide +kernel
theorem dX3_look_210 : decode cX3_look 210 = .ok (.iload_n 2, 1) := by decide +kernel
theorem dX3_look_211 : decode cX3_look 211 = .ok (.iload_n 3, 1) := by decide +kernel
theorem dX3_look_212 : decode cX3_look 212 = .ok (.iload 4, 2) := by decide +kernel
theorem dX3_look_214 : decode cX3_look 214 = .ok (.iload 5, 2) := by decide +kernel
theorem dX3_look_216 : decode cX3_look 216 = .ok (.iload 6, 2) := by decide +kernel
theorem dX3_look_218 : decode cX3_look 218 = .ok (.invokestatic 157, 3) := by decide +kernel
theorem dX3_look_221 : decode cX3_look 221 = .ok (.iload 7, 2) := by decide +kernel
theorem dX3_look_223 : decode cX3_look 223 = .ok (.iastore, 1) := by decide +kernel
theorem dX3_look_224 : decode cX3_look 224 = .ok (.iinc 6 1, 3) := by decide +kernel
theorem dX3_look_227 : decode cX3_look 227 = .ok (.goto (-97), 3) := by decide +kernel
theorem dX3_look_230 : decode cX3_look 230 = .ok (.iinc 5 1, 3) := by decide +kernel
theorem dX3_look_233 : decode cX3_look 233 = .ok (.goto (-114), 3) := by decide +kernel
theorem dX3_look_236 : decode cX3_look 236 = .ok (.iinc 4 1, 3) := by decide +kernel
theorem dX3_look_239 : decode cX3_look 239 = .ok (.goto (-129), 3) := by decide +kernel
theorem dX3_look_242 : decode cX3_look 242 = .ok (.iinc 3 1, 3) := by decide +kernel
theorem dX3_look_245 : decode cX3_look 245 = .ok (.goto (-143), 3) := by decide +kernel
theorem dX3_look_248 : decode cX3_look 248 = .ok (.iinc 2 (-1), 3) := by decide +kernel
theorem dX3_look_251 : decode cX3_look 251 = .ok (.goto (-155), 3) := by decide +kernel
theorem dX3_look_254 : decode cX3_look 254 = .ok (.aload_n 0, 1) := by decide +kernel
theorem dX3_look_255 : decode cX3_look 255 = .ok (.getfield 92, 3) := by decide +kernel
theorem dX3_look_258 : decode cX3_look 258 = .ok (.ifCond .ne 14, 3) := by decide +kernel
theorem dX3_look_261 : decode cX3_look 261 = .ok (.aload_n 0, 1) := by decide +kernel
theorem dX3_look_262 : decode cX3_look 262 = .ok (.getfield 17, 3) := by decide +kernel
theorem dX3_look_265 : decode cX3_look 265 = .ok (.iconst 4, 1) := by decide +kernel
theorem dX3_look_266 : decode cX3_look 266 = .ok (.iload_n 1, 1) := by decide +kernel
theorem dX3_look_267 : decode cX3_look 267 = .ok (.imul, 1) := by decide +kernel
theorem dX3_look_268 : decode cX3_look 268 = .ok (.iaload, 1) := by decide +kernel
theorem dX3_look_269 : decode cX3_look 269 = .ok (.goto 19, 3) := by decide +kernel
theorem dX3_look_272 : decode cX3_look 272 = .ok (.aload_n 0, 1) := by decide +kernel
theorem dX3_look_273 : decode cX3_look 273 = .ok (.getfield 53, 3) := by decide +kernel
theorem dX3_look_276 : decode cX3_look 276 = .ok (.bipush 16, 2) := by decide +kernel
theorem dX3_look_278 : decode cX3_look 278 = .ok (.aload_n 0, 1) := by decide +kernel
theorem dX3_look_279 : decode cX3_look 279 = .ok (.getfield 92, 3) := by decide +kernel
theorem dX3_look_282 : decode cX3_look 282 = .ok (.iconst 1, 1) := by decide +kernel
theorem dX3_look_283 : decode cX3_look 283 = .ok (.isub, 1) := by decide +kernel
theorem dX3_look_284 : decode cX3_look 284 = .ok (.imul, 1) := by decide +kernel
theorem dX3_look_285 : decode cX3_look 285 = .ok (.iload_n 1, 1) := by decide +kernel
theorem dX3_look_286 : decode cX3_look 286 = .ok (.iadd, 1) := by decide +kernel
theorem dX3_look_287 : decode cX3_look 287 = .ok (.iaload, 1) := by decide +kernel
theorem dX3_look_288 : decode cX3_look 288 = .ok (.istore_n 2, 1) := by decide +kernel
theorem dX3_look_289 : decode cX3_look 289 = .ok (.aload_n 0, 1) := by decide +kernel
theorem dX3_look_290 : decode cX3_look 290 = .ok (.getfield 29, 3) := by decide +kernel
theorem dX3_look_293 : decode cX3_look 293 = .ok (.iload_n 1, 1) := by decide +kernel
theorem dX3_look_294 : decode cX3_look 294 = .ok (.iaload, 1) := by decide +kernel
theorem dX3_look_295 : decode cX3_look 295 = .ok (.bipush 9, 2) := by decide +kernel
theorem dX3_look_297 : decode cX3_look 297 = .ok (.if_icmp .le 8, 3) := by decide +kernel
theorem dX3_look_300 : decode cX3_look 300 = .ok (.bipush 9, 2) := by decide +kernel
theorem dX3_look_302 : decode cX3_look 302 = .ok (.goto 9, 3) := by decide +kernel
theorem dX3_look_305 : decode cX3_look 305 = .ok (.aload_n 0, 1) := by decide +kernel
theorem dX3_look_306 : decode cX3_look 306 = .ok (.getfield 29, 3) := by decide +kernel
theorem dX3_look_309 : decode cX3_look 309 = .ok (.iload_n 1, 1) := by decide +kernel
theorem dX3_look_310 : decode cX3_look 310 = .ok (.iaload, 1) := by decide +kernel
theorem dX3_look_311 : decode cX3_look 311 = .ok (.istore_n 3, 1) := by decide +kernel
theorem dX3_look_312 : decode cX3_look 312 = .ok (.iconst 0, 1) := by decide +kernel
theorem dX3_look_313 : decode cX3_look 313 = .ok (.istore 4, 2) := by decide +kernel
theorem dX3_look_315 : decode cX3_look 315 = .ok (.iconst 0, 1) := by decide +kernel
theorem dX3_look_316 : decode cX3_look 316 = .ok (.istore 5, 2) := by decide +kernel
theorem dX3_look_318 : decode cX3_look 318 = .ok (.aload_n 0, 1) := by decide +kernel
theorem dX3_look_319 : decode cX3_look 319 = .ok (.getfield 72, 3) := by decide +kernel
theorem dX3_look_322 : decode cX3_look 322 = .ok (.iconst 0, 1) := by decide +kernel
theorem dX3_look_323 : decode cX3_look 323 = .ok (.iconst 0, 1) := by decide +kernel
theorem dX3_look_324 : decode cX3_look 324 = .ok (.iload_n 2, 1) := by decide +kernel
theorem dX3_look_325 : decode cX3_look 325 = .ok (.iload_n 3, 1) := by decide +kernel
theorem dX3_look_326 : decode cX3_look 326 = .ok (.iconst 0, 1) := by decide +kernel
theorem dX3_look_327 : decode cX3_look 327 = .ok (.invokestatic 157, 3) := by decide +kernel
theorem dX3_look_330 : decode cX3_look 330 = .ok (.iaload, 1) := by decide +kernel
theorem dX3_look_331 : decode cX3_look 331 = .ok (.istore 6, 2) := by decide +kernel
theorem dX3_look_333 : decode cX3_look 333 = .ok (.iconst 0, 1) := by decide +kernel
theorem dX3_look_334 : decode cX3_look 334 = .ok (.istore 7, 2) := by decide +kernel
theorem dX3_look_336 : decode cX3_look 336 = .ok (.iload 7, 2) := by decide +kernel
theorem dX3_look_338 : decode cX3_look 338 = .ok (.aload_n 0, 1) := by decide +kernel
theorem dX3_look_339 : decode cX3_look 339 = .ok (.getfield 65, 3) := by decide +kernel
theorem dX3_look_342 : decode cX3_look 342 = .ok (.if_icmp .ge 142, 3) := by decide +kernel
theorem dX3_look_345 : decode cX3_look 345 = .ok (.iload 6, 2) := by decide +kernel
theorem dX3_look_347 : decode cX3_look 347 = .ok (.ldc 161, 2) := by decide +kernel
theorem dX3_look_349 : decode cX3_look 349 = .ok (.if_icmp .ge 135, 3) := by decide +kernel
theorem dX3_look_352 : decode cX3_look 352 = .ok (.iconst 0, 1) := by decide +kernel
theorem dX3_look_353 : decode cX3_look 353 = .ok (.istore 8, 2) := by decide +kernel
theorem dX3_look_355 : decode cX3_look 355 = .ok (.iload 8, 2) := by decide +kernel
theorem dX3_look_357 : decode cX3_look 357 = .ok (.iconst 2, 1) := by decide +kernel
theorem dX3_look_358 : decode cX3_look 358 = .ok (.if_icmp .ne 9, 3) := by decide +kernel
theorem dX3_look_361 : decode cX3_look 361 = .ok (.iload_n 3, 1) := by decide +kernel
theorem dX3_look_362 : decode cX3_look 362 = .ok (.bipush 9, 2) := by decide +kernel
theorem dX3_look_364 : decode cX3_look 364 = .ok (.if_icmp .eq 37, 3) := by decide +kernel
theorem dX3_look_367 : decode cX3_look 367 = .ok (.aload_n 0, 1) := by decide +kernel
theorem dX3_look_368 : decode cX3_look 368 = .ok (.iload_n 1, 1) := by decide +kernel
theorem dX3_look_369 : decode cX3_look 369 = .ok (.iload 7, 2) := by decide +kernel
theorem dX3_look_371 : decode cX3_look 371 = .ok (.iload 4, 2) := by decide +kernel
theorem dX3_look_373 : decode cX3_look 373 = .ok (.iload_n 2, 1) := by decide +kernel
theorem dX3_look_374 : decode cX3_look 374 = .ok (.iload_n 3, 1) := by decide +kernel
theorem dX3_look_375 : decode cX3_look 375 = .ok (.iload 5, 2) := by decide +kernel
theorem dX3_look_377 : decode cX3_look 377 = .ok (.iload 8, 2) := by decide +kernel
theorem dX3_look_379 : decode cX3_look 379 = .ok (.invokevirtual 168, 3) := by decide +kernel
theorem dX3_look_382 : decode cX3_look 382 = .ok (.aload_n 0, 1) := by decide +kernel
theorem dX3_look_383 : decode cX3_look 383 = .ok (.getfield 72, 3) := by decide +kernel
theorem dX3_look_386 : decode cX3_look 386 = .ok (.iload 7, 2) := by decide +kernel
theorem dX3_look_388 : decode cX3_look 388 = .ok (.iload 4, 2) := by decide +kernel
theorem dX3_look_390 : decode cX3_look 390 = .ok (.iload_n 2, 1) := by decide +kernel
theorem dX3_look_391 : decode cX3_look 391 = .ok (.iload_n 3, 1) := by decide +kernel
theorem dX3_look_392 : decode cX3_look 392 = .ok (.iload 5, 2) := by decide +kernel
theorem dX3_look_394 : decode cX3_look 394 = .ok (.invokestatic 157, 3) := by decide +kernel
theorem dX3_look_397 : decode cX3_look 397 = .ok (.iaload, 1) := by decide +kernel
theorem dX3_look_398 : decode cX3_look 398 = .ok (.if_icmp .eq 9, 3) := by decide +kernel
theorem dX3_look_401 : decode cX3_look 401 = .ok (.iinc 8 1, 3) := by decide +kernel
theorem dX3_look_404 : decode cX3_look 404 = .ok (.goto (-49), 3) := by decide +kernel
theorem dX3_look_407 : decode cX3_look 407 = .ok (.aload_n 0, 1) := by decide +kernel
theorem dX3_look_408 : decode cX3_look 408 = .ok (.getfield 75, 3) := by decide +kernel
theorem dX3_look_411 : decode cX3_look 411 = .ok (.iload 7, 2) := by decide +kernel
theorem dX3_look_413 : decode cX3_look 413 = .ok (.iload 8, 2) := by decide +kernel
theorem dX3_look_415 : decode cX3_look 415 = .ok (.iastore, 1) := by decide +kernel
theorem dX3_look_416 : decode cX3_look 416 = .ok (.iload 8, 2) := by decide +kernel
theorem dX3_look_418 : decode cX3_look 418 = .ok (.iconst 2, 1) := by decide +kernel
theorem dX3_look_419 : decode cX3_look 419 = .ok (.if_icmp .ne 9, 3) := by decide +kernel
theorem dX3_look_422 : decode cX3_look 422 = .ok (.iinc 3 1, 3) := by decide +kernel
theorem dX3_look_425 : decode cX3_look 425 = .ok (.goto 53, 3) := by decide +kernel
theorem dX3_look_428 : decode cX3_look 428 = .ok (.iload 4, 2) := by decide +kernel
theorem dX3_look_430 : decode cX3_look 430 = .ok (.iload 8, 2) := by decide +kernel
theorem dX3_look_432 : decode cX3_look 432 = .ok (.ifCond .ne 7, 3) := by decide +kernel
theorem dX3_look_435 : decode cX3_look 435 = .ok (.iconst 1, 1) := by decide +kernel
theorem dX3_look_436 : decode cX3_look 436 = .ok (.goto 4, 3) := by decide +kernel
theorem dX3_look_439 : decode cX3_look 439 = .ok (.iconst 3, 1) := by decide +kernel
theorem dX3_look_440 : decode cX3_look 440 = .ok (.iadd, 1) := by decide +kernel
theorem dX3_look_441 : decode cX3_look 441 = .ok (.iconst 4, 1) := by decide +kernel
theorem dX3_look_442 : decode cX3_look 442 = .ok (.irem, 1) := by decide +kernel
theorem dX3_look_443 : decode cX3_look 443 = .ok (.istore 4, 2) := by decide +kernel
theorem dX3_look_445 : decode cX3_look 445 = .ok (.aload_n 0, 1) := by decide +kernel
theorem dX3_look_446 : decode cX3_look 446 = .ok (.iload_n 1, 1) := by decide +kernel
theorem dX3_look_447 : decode cX3_look 447 = .ok (.iload 4, 2) := by decide +kernel
theorem dX3_look_449 : decode cX3_look 449 = .ok (.iload 8, 2) := by decide +kernel
theorem dX3_look_451 : decode cX3_look 451 = .ok (.invokevirtual 162, 3) := by decide +kernel
theorem dX3_look_454 : decode cX3_look 454 = .ok (.istore_n 2, 1) := by decide +kernel
theorem dX3_look_455 : decode cX3_look 455 = .ok (.iconst 0, 1) := by decide +kernel
theorem dX3_look_456 : decode cX3_look 456 = .ok (.istore_n 3, 1) := by decide +kernel
theorem dX3_look_457 : decode cX3_look 457 = .ok (.iload 5, 2) := by decide +kernel
theorem dX3_look_459 : decode cX3_look 459 = .ok (.iload 8, 2) := by decide +kernel
theorem dX3_look_461 : decode cX3_look 461 = .ok (.aload_n 0, 1) := by decide +kernel
theorem dX3_look_462 : decode cX3_look 462 = .ok (.getfield 20, 3) := by decide +kernel
theorem dX3_look_465 : decode cX3_look 465 = .ok (.iload_n 1, 1) := by decide +kernel
theorem dX3_look_466 : decode cX3_look 466 = .ok (.iaload, 1) := by decide +kernel
theorem dX3_look_467 : decode cX3_look 467 = .ok (.if_icmp .ne 7, 3) := by decide +kernel
theorem dX3_look_470 : decode cX3_look 470 = .ok (.iconst 1, 1) := by decide +kernel
theorem dX3_look_471 : decode cX3_look 471 = .ok (.goto 4, 3) := by decide +kernel
theorem dX3_look_474 : decode cX3_look 474 = .ok (.iconst (-1), 1) := by decide +kernel
theorem dX3_look_475 : decode cX3_look 475 = .ok (.iadd, 1) := by decide +kernel
theorem dX3_look_476 : decode cX3_look 476 = .ok (.istore 5, 2) := by decide +kernel
theorem dX3_look_478 : decode cX3_look 478 = .ok (.iinc 7 1, 3) := by decide +kernel
theorem dX3_look_481 : decode cX3_look 481 = .ok (.goto (-145), 3) := by decide +kernel
theorem dX3_look_484 : decode cX3_look 484 = .ok (.aload_n 0, 1) := by decide +kernel
theorem dX3_look_485 : decode cX3_look 485 = .ok (.aload_n 0, 1) := by decide +kernel
theorem dX3_look_486 : decode cX3_look 486 = .ok (.getfield 26, 3) := by decide +kernel
theorem dX3_look_489 : decode cX3_look 489 = .ok (.iload_n 1, 1) := by decide +kernel
theorem dX3_look_490 : decode cX3_look 490 = .ok (.iaload, 1) := by decide +kernel
theorem dX3_look_491 : decode cX3_look 491 = .ok (.iload 5, 2) := by decide +kernel
theorem dX3_look_493 : decode cX3_look 493 = .ok (.iadd, 1) := by decide +kernel
theorem dX3_look_494 : decode cX3_look 494 = .ok (.putfield 172, 3) := by decide +kernel
theorem dX3_look_497 : decode cX3_look 497 = .ok (.iload 6, 2) := by decide +kernel
theorem dX3_look_499 : decode cX3_look 499 = .ok (.ireturn, 1) := by decide +kernel
theorem dX3_idles_0 : decode cX3_idles 0 = .ok (.aload_n 0, 1) := by decide +kernel
theorem dX3_idles_1 : decode cX3_idles 1 = .ok (.iconst 0, 1) := by decide +kernel
theorem dX3_idles_2 : decode cX3_idles 2 = .ok (.putfield 85, 3) := by decide +kernel
theorem dX3_idles_5 : decode cX3_idles 5 = .ok (.aload_n 0, 1) := by decide +kernel
theorem dX3_idles_6 : decode cX3_idles 6 = .ok (.iload_n 1, 1) := by decide +kernel
theorem dX3_idles_7 : decode cX3_idles 7 = .ok (.invokevirtual 97, 3) := by decide +kernel
theorem dX3_idles_10 : decode cX3_idles 10 = .ok (.ifCond .eq 5, 3) := by decide +kernel
theorem dX3_idles_13 : decode cX3_idles 13 = .ok (.iconst (-1), 1) := by decide +kernel
theorem dX3_idles_14 : decode cX3_idles 14 = .ok (.ireturn, 1) := by decide +kernel
theorem dX3_idles_15 : decode cX3_idles 15 = .ok (.aload_n 0, 1) := by decide +kernel
theorem dX3_idles_16 : decode cX3_idles 16 = .ok (.iload_n 1, 1) := by decide +kernel
theorem dX3_idles_17 : decode cX3_idles 17 = .ok (.invokevirtual 175, 3) := by decide +kernel
theorem dX3_idles_20 : decode cX3_idles 20 = .ok (.istore_n 2, 1) := by decide +kernel
theorem dX3_idles_21 : decode cX3_idles 21 = .ok (.iload_n 2, 1) := by decide +kernel
theorem dX3_idles_22 : decode cX3_idles 22 = .ok (.ldc 161, 2) := by decide +kernel
theorem dX3_idles_24 : decode cX3_idles 24 = .ok (.if_icmp .ge 11, 3) := by decide +kernel
theorem dX3_idles_27 : decode cX3_idles 27 = .ok (.iload_n 2, 1) := by decide +kernel
theorem dX3_idles_28 : decode cX3_idles 28 = .ok (.sipush 1000, 3) := by decide +kernel
theorem dX3_idles_31 : decode cX3_idles 31 = .ok (.idiv, 1) := by decide +kernel
theorem dX3_idles_32 : decode cX3_idles 32 = .ok (.goto 5, 3) := by decide +kernel
theorem dX3_idles_35 : decode cX3_idles 35 = .ok (.bipush (-99), 2) := by decide +kernel
theorem dX3_idles_37 : decode cX3_idles 37 = .ok (.ireturn, 1) := by decide +kernel
theorem dX3_turning_0 : decode cX3_turning 0 = .ok (.aload_n 0, 1) := by decide +kernel
theorem dX3_turning_1 : decode cX3_turning 1 = .ok (.iconst 0, 1) := by decide +kernel
theorem dX3_turning_2 : decode cX3_turning 2 = .ok (.putfield 85, 3) := by decide +kernel
theorem dX3_turning_5 : decode cX3_turning 5 = .ok (.aload_n 0, 1) := by decide +kernel
theorem dX3_turning_6 : decode cX3_turning 6 = .ok (.iload_n 1, 1) := by decide +kernel
theorem dX3_turning_7 : decode cX3_turning 7 = .ok (.invokevirtual 97, 3) := by decide +kernel
theorem dX3_turning_10 : decode cX3_turning 10 = .ok (.ifCond .eq 5, 3) := by decide +kernel
theorem dX3_turning_13 : decode cX3_turning 13 = .ok (.iconst (-1), 1) := by decide +kernel
theorem dX3_turning_14 : decode cX3_turning 14 = .ok (.ireturn, 1) := by decide +kernel
theorem dX3_turning_15 : decode cX3_turning 15 = .ok (.iload_n 2, 1) := by decide +kernel
theorem dX3_turning_16 : decode cX3_turning 16 = .ok (.i2l, 1) := by decide +kernel
theorem dX3_turning_17 : decode cX3_turning 17 = .ok (.lconst 0, 1) := by decide +kernel
theorem dX3_turning_18 : decode cX3_turning 18 = .ok (.aload_n 0, 1) := by decide +kernel
theorem dX3_turning_19 : decode cX3_turning 19 = .ok (.getfield 65, 3) := by decide +kernel
theorem dX3_turning_22 : decode cX3_turning 22 = .ok (.iconst 1, 1) := by decide +kernel
theorem dX3_turning_23 : decode cX3_turning 23 = .ok (.isub, 1) := by decide +kernel
theorem dX3_turning_24 : decode cX3_turning 24 = .ok (.i2l, 1) := by decide +kernel
theorem dX3_turning_25 : decode cX3_turning 25 = .ok (.invokestatic 88, 3) := by decide +kernel
theorem dX3_turning_28 : decode cX3_turning 28 = .ok (.ifCond .ne 6, 3) := by decide +kernel
theorem dX3_turning_31 : decode cX3_turning 31 = .ok (.bipush (-2), 2) := by decide +kernel
theorem dX3_turning_33 : decode cX3_turning 33 = .ok (.ireturn, 1) := by decide +kernel
theorem dX3_turning_34 : decode cX3_turning 34 = .ok (.aload_n 0, 1) := by decide +kernel
theorem dX3_turning_35 : decode cX3_turning 35 = .ok (.iload_n 1, 1) := by decide +kernel
theorem dX3_turning_36 : decode cX3_turning 36 = .ok (.invokevirtual 175, 3) := by decide +kernel
theorem dX3_turning_39 : decode cX3_turning 39 = .ok (.ldc 161, 2) := by decide +kernel
theorem dX3_turning_41 : decode cX3_turning 41 = .ok (.if_icmp .ge 12, 3) := by decide +kernel
theorem dX3_turning_44 : decode cX3_turning 44 = .ok (.aload_n 0, 1) := by decide +kernel
theorem dX3_turning_45 : decode cX3_turning 45 = .ok (.getfield 75, 3) := by decide +kernel
theorem dX3_turning_48 : decode cX3_turning 48 = .ok (.iload_n 2, 1) := by decide +kernel
theorem dX3_turning_49 : decode cX3_turning 49 = .ok (.iaload, 1) := by decide +kernel
theorem dX3_turning_50 : decode cX3_turning 50 = .ok (.goto 5, 3) := by decide +kernel
theorem dX3_turning_53 : decode cX3_turning 53 = .ok (.bipush (-99), 2) := by decide +kernel
theorem dX3_turning_55 : decode cX3_turning 55 = .ok (.ireturn, 1) := by decide +kernel
theorem dX3_behind_0 : decode cX3_behind 0 = .ok (.aload_n 0, 1) := by decide +kernel
theorem dX3_behind_1 : decode cX3_behind 1 = .ok (.iconst 0, 1) := by decide +kernel
theorem dX3_behind_2 : decode cX3_behind 2 = .ok (.putfield 85, 3) := by decide +kernel
theorem dX3_behind_5 : decode cX3_behind 5 = .ok (.aload_n 0, 1) := by decide +kernel
theorem dX3_behind_6 : decode cX3_behind 6 = .ok (.iload_n 1, 1) := by decide +kernel
theorem dX3_behind_7 : decode cX3_behind 7 = .ok (.invokevirtual 97, 3) := by decide +kernel
theorem dX3_behind_10 : decode cX3_behind 10 = .ok (.ifCond .eq 5, 3) := by decide +kernel
theorem dX3_behind_13 : decode cX3_behind 13 = .ok (.iconst (-1), 1) := by decide +kernel
theorem dX3_behind_14 : decode cX3_behind 14 = .ok (.ireturn, 1) := by decide +kernel
theorem dX3_behind_15 : decode cX3_behind 15 = .ok (.aload_n 0, 1) := by decide +kernel
theorem dX3_behind_16 : decode cX3_behind 16 = .ok (.iload_n 1, 1) := by decide +kernel
theorem dX3_behind_17 : decode cX3_behind 17 = .ok (.invokevirtual 175, 3) := by decide +kernel
theorem dX3_behind_20 : decode cX3_behind 20 = .ok (.ldc 161, 2) := by decide +kernel
theorem dX3_behind_22 : decode cX3_behind 22 = .ok (.if_icmp .ge 13, 3) := by decide +kernel
theorem dX3_behind_25 : decode cX3_behind 25 = .ok (.aload_n 0, 1) := by decide +kernel
theorem dX3_behind_26 : decode cX3_behind 26 = .ok (.getfield 172, 3) := by decide +kernel
theorem dX3_behind_29 : decode cX3_behind 29 = .ok (.bipush 100, 2) := by decide +kernel
theorem dX3_behind_31 : decode cX3_behind 31 = .ok (.iadd, 1) := by decide +kernel
theorem dX3_behind_32 : decode cX3_behind 32 = .ok (.goto 5, 3) := by decide +kernel
theorem dX3_behind_35 : decode cX3_behind 35 = .ok (.bipush (-99), 2) := by decide +kernel
theorem dX3_behind_37 : decode cX3_behind 37 = .ok (.ireturn, 1) := by decide +kernel
theorem dX3_weave_0 : decode cX3_weave 0 = .ok (.aload_n 0, 1) := by decide +kernel
theorem dX3_weave_1 : decode cX3_weave 1 = .ok (.iconst 0, 1) := by decide +kernel
theorem dX3_weave_2 : decode cX3_weave 2 = .ok (.putfield 85, 3) := by decide +kernel
theorem dX3_weave_5 : decode cX3_weave 5 = .ok (.iconst 0, 1) := by decide +kernel
theorem dX3_weave_6 : decode cX3_weave 6 = .ok (.istore_n 1, 1) := by decide +kernel
theorem dX3_weave_7 : decode cX3_weave 7 = .ok (.iload_n 1, 1) := by decide +kernel
theorem dX3_weave_8 : decode cX3_weave 8 = .ok (.aload_n 0, 1) := by decide +kernel
theorem dX3_weave_9 : decode cX3_weave 9 = .ok (.getfield 7, 3) := by decide +kernel
theorem dX3_weave_12 : decode cX3_weave 12 = .ok (.if_icmp .ge 55, 3) := by decide +kernel
theorem dX3_weave_15 : decode cX3_weave 15 = .ok (.aload_n 0, 1) := by decide +kernel
theorem dX3_weave_16 : decode cX3_weave 16 = .ok (.iload_n 1, 1) := by decide +kernel
theorem dX3_weave_17 : decode cX3_weave 17 = .ok (.invokevirtual 175, 3) := by decide +kernel
theorem dX3_weave_20 : decode cX3_weave 20 = .ok (.ldc 161, 2) := by decide +kernel
theorem dX3_weave_22 : decode cX3_weave 22 = .ok (.if_icmp .ne 6, 3) := by decide +kernel
theorem dX3_weave_25 : decode cX3_weave 25 = .ok (.bipush (-99), 2) := by decide +kernel
theorem dX3_weave_27 : decode cX3_weave 27 = .ok (.ireturn, 1) := by decide +kernel
theorem dX3_weave_28 : decode cX3_weave 28 = .ok (.iconst 0, 1) := by decide +kernel
theorem dX3_weave_29 : decode cX3_weave 29 = .ok (.istore_n 2, 1) := by decide +kernel
theorem dX3_weave_30 : decode cX3_weave 30 = .ok (.iload_n 2, 1) := by decide +kernel
theorem dX3_weave_31 : decode cX3_weave 31 = .ok (.aload_n 0, 1) := by decide +kernel
theorem dX3_weave_32 : decode cX3_weave 32 = .ok (.getfield 65, 3) := by decide +kernel
theorem dX3_weave_35 : decode cX3_weave 35 = .ok (.if_icmp .ge 26, 3) := by decide +kernel
theorem dX3_weave_38 : decode cX3_weave 38 = .ok (.aload_n 0, 1) := by decide +kernel
theorem dX3_weave_39 : decode cX3_weave 39 = .ok (.getfield 78, 3) := by decide +kernel
theorem dX3_weave_42 : decode cX3_weave 42 = .ok (.bipush 16, 2) := by decide +kernel
theorem dX3_weave_44 : decode cX3_weave 44 = .ok (.iload_n 2, 1) := by decide +kernel
theorem dX3_weave_45 : decode cX3_weave 45 = .ok (.imul, 1) := by decide +kernel
theorem dX3_weave_46 : decode cX3_weave 46 = .ok (.iload_n 1, 1) := by decide +kernel
theorem dX3_weave_47 : decode cX3_weave 47 = .ok (.iadd, 1) := by decide +kernel
theorem dX3_weave_48 : decode cX3_weave 48 = .ok (.aload_n 0, 1) := by decide +kernel
theorem dX3_weave_49 : decode cX3_weave 49 = .ok (.getfield 75, 3) := by decide +kernel
theorem dX3_weave_52 : decode cX3_weave 52 = .ok (.iload_n 2, 1) := by decide +kernel
theorem dX3_weave_53 : decode cX3_weave 53 = .ok (.iaload, 1) := by decide +kernel
theorem dX3_weave_54 : decode cX3_weave 54 = .ok (.iastore, 1) := by decide +kernel
theorem dX3_weave_55 : decode cX3_weave 55 = .ok (.iinc 2 1, 3) := by decide +kernel
theorem dX3_weave_58 : decode cX3_weave 58 = .ok (.goto (-28), 3) := by decide +kernel
theorem dX3_weave_61 : decode cX3_weave 61 = .ok (.iinc 1 1, 3) := by decide +kernel
theorem dX3_weave_64 : decode cX3_weave 64 = .ok (.goto (-57), 3) := by decide +kernel
theorem dX3_weave_67 : decode cX3_weave 67 = .ok (.aload_n 0, 1) := by decide +kernel
theorem dX3_weave_68 : decode cX3_weave 68 = .ok (.getfield 92, 3) := by decide +kernel
theorem dX3_weave_71 : decode cX3_weave 71 = .ok (.aload_n 0, 1) := by decide +kernel
theorem dX3_weave_72 : decode cX3_weave 72 = .ok (.getfield 65, 3) := by decide +kernel
theorem dX3_weave_75 : decode cX3_weave 75 = .ok (.iadd, 1) := by decide +kernel
theorem dX3_weave_76 : decode cX3_weave 76 = .ok (.bipush 60, 2) := by decide +kernel
theorem dX3_weave_78 : decode cX3_weave 78 = .ok (.if_icmp .le 6, 3) := by decide +kernel
theorem dX3_weave_81 : decode cX3_weave 81 = .ok (.bipush (-4), 2) := by decide +kernel
theorem dX3_weave_83 : decode cX3_weave 83 = .ok (.ireturn, 1) := by decide +kernel
theorem dX3_weave_84 : decode cX3_weave 84 = .ok (.iconst 0, 1) := by decide +kernel
theorem dX3_weave_85 : decode cX3_weave 85 = .ok (.istore_n 1, 1) := by decide +kernel
theorem dX3_weave_86 : decode cX3_weave 86 = .ok (.iload_n 1, 1) := by decide +kernel
theorem dX3_weave_87 : decode cX3_weave 87 = .ok (.aload_n 0, 1) := by decide +kernel
theorem dX3_weave_88 : decode cX3_weave 88 = .ok (.getfield 65, 3) := by decide +kernel
theorem dX3_weave_91 : decode cX3_weave 91 = .ok (.if_icmp .ge 51, 3) := by decide +kernel
theorem dX3_weave_94 : decode cX3_weave 94 = .ok (.iconst 0, 1) := by decide +kernel
theorem dX3_weave_95 : decode cX3_weave 95 = .ok (.istore_n 2, 1) := by decide +kernel
theorem dX3_weave_96 : decode cX3_weave 96 = .ok (.iload_n 2, 1) := by decide +kernel
theorem dX3_weave_97 : decode cX3_weave 97 = .ok (.aload_n 0, 1) := by decide +kernel
theorem dX3_weave_98 : decode cX3_weave 98 = .ok (.getfield 7, 3) := by decide +kernel
theorem dX3_weave_101 : decode cX3_weave 101 = .ok (.if_icmp .ge 25, 3) := by decide +kernel
theorem dX3_weave_104 : decode cX3_weave 104 = .ok (.aload_n 0, 1) := by decide +kernel
theorem dX3_weave_105 : decode cX3_weave 105 = .ok (.iload_n 2, 1) := by decide +kernel
theorem dX3_weave_106 : decode cX3_weave 106 = .ok (.aload_n 0, 1) := by decide +kernel
theorem dX3_weave_107 : decode cX3_weave 107 = .ok (.getfield 78, 3) := by decide +kernel
theorem dX3_weave_110 : decode cX3_weave 110 = .ok (.bipush 16, 2) := by decide +kernel
theorem dX3_weave_112 : decode cX3_weave 112 = .ok (.iload_n 1, 1) := by decide +kernel
theorem dX3_weave_113 : decode cX3_weave 113 = .ok (.imul, 1) := by decide +kernel
theorem dX3_weave_114 : decode cX3_weave 114 = .ok (.iload_n 2, 1) := by decide +kernel
theorem dX3_weave_115 : decode cX3_weave 115 = .ok (.iadd, 1) := by decide +kernel
theorem dX3_weave_116 : decode cX3_weave 116 = .ok (.iaload, 1) := by decide +kernel
theorem dX3_weave_117 : decode cX3_weave 117 = .ok (.invokevirtual 112, 3) := by decide +kernel
theorem dX3_weave_120 : decode cX3_weave 120 = .ok (.iinc 2 1, 3) := by decide +kernel
theorem dX3_weave_123 : decode cX3_weave 123 = .ok (.goto (-27), 3) := by decide +kernel
theorem dX3_weave_126 : decode cX3_weave 126 = .ok (.aload_n 0, 1) := by decide +kernel
theorem dX3_weave_127 : decode cX3_weave 127 = .ok (.dup, 1) := by decide +kernel
theorem dX3_weave_128 : decode cX3_weave 128 = .ok (.getfield 92, 3) := by decide +kernel
theorem dX3_weave_131 : decode cX3_weave 131 = .ok (.iconst 1, 1) := by decide +kernel
theorem dX3_weave_132 : decode cX3_weave 132 = .ok (.iadd, 1) := by decide +kernel
theorem dX3_weave_133 : decode cX3_weave 133 = .ok (.putfield 92, 3) := by decide +kernel
theorem dX3_weave_136 : decode cX3_weave 136 = .ok (.iinc 1 1, 3) := by decide +kernel
theorem dX3_weave_139 : decode cX3_weave 139 = .ok (.goto (-53), 3) := by decide +kernel
theorem dX3_weave_142 : decode cX3_weave 142 = .ok (.aload_n 0, 1) := by decide +kernel
theorem dX3_weave_143 : decode cX3_weave 143 = .ok (.getfield 92, 3) := by decide +kernel
theorem dX3_weave_146 : decode cX3_weave 146 = .ok (.ireturn, 1) := by decide +kernel
theorem dX3_quarrelOf_0 : decode cX3_quarrelOf 0 = .ok (.iconst 0, 1) := by decide +kernel
theorem dX3_quarrelOf_1 : decode cX3_quarrelOf 1 = .ok (.istore_n 2, 1) := by decide +kernel
theorem dX3_quarrelOf_2 : decode cX3_quarrelOf 2 = .ok (.iload_n 2, 1) := by decide +kernel
theorem dX3_quarrelOf_3 : decode cX3_quarrelOf 3 = .ok (.aload_n 0, 1) := by decide +kernel
theorem dX3_quarrelOf_4 : decode cX3_quarrelOf 4 = .ok (.invokevirtual 150, 3) := by decide +kernel
theorem dX3_quarrelOf_7 : decode cX3_quarrelOf 7 = .ok (.if_icmp .ge 118, 3) := by decide +kernel
theorem dX3_quarrelOf_10 : decode cX3_quarrelOf 10 = .ok (.iconst 0, 1) := by decide +kernel
theorem dX3_quarrelOf_11 : decode cX3_quarrelOf 11 = .ok (.istore_n 3, 1) := by decide +kernel
theorem dX3_quarrelOf_12 : decode cX3_quarrelOf 12 = .ok (.iload_n 3, 1) := by decide +kernel
theorem dX3_quarrelOf_13 : decode cX3_quarrelOf 13 = .ok (.iload_n 2, 1) := by decide +kernel
theorem dX3_quarrelOf_14 : decode cX3_quarrelOf 14 = .ok (.if_icmp .ge 105, 3) := by decide +kernel
theorem dX3_quarrelOf_17 : decode cX3_quarrelOf 17 = .ok (.aload_n 0, 1) := by decide +kernel
theorem dX3_quarrelOf_18 : decode cX3_quarrelOf 18 = .ok (.getfield 53, 3) := by decide +kernel
theorem dX3_quarrelOf_21 : decode cX3_quarrelOf 21 = .ok (.bipush 16, 2) := by decide +kernel
theorem dX3_quarrelOf_23 : decode cX3_quarrelOf 23 = .ok (.iload_n 2, 1) := by decide +kernel
theorem dX3_quarrelOf_24 : decode cX3_quarrelOf 24 = .ok (.imul, 1) := by decide +kernel
theorem dX3_quarrelOf_25 : decode cX3_quarrelOf 25 = .ok (.iload_n 1, 1) := by decide +kernel
theorem dX3_quarrelOf_26 : decode cX3_quarrelOf 26 = .ok (.iadd, 1) := by decide +kernel
theorem dX3_quarrelOf_27 : decode cX3_quarrelOf 27 = .ok (.iaload, 1) := by decide +kernel
theorem dX3_quarrelOf_28 : decode cX3_quarrelOf 28 = .ok (.aload_n 0, 1) := by decide +kernel
theorem dX3_quarrelOf_29 : decode cX3_quarrelOf 29 = .ok (.getfield 53, 3) := by decide +kernel
theorem dX3_quarrelOf_32 : decode cX3_quarrelOf 32 = .ok (.bipush 16, 2) := by decide +kernel
theorem dX3_quarrelOf_34 : decode cX3_quarrelOf 34 = .ok (.iload_n 3, 1) := by decide +kernel
theorem dX3_quarrelOf_35 : decode cX3_quarrelOf 35 = .ok (.imul, 1) := by decide +kernel
theorem dX3_quarrelOf_36 : decode cX3_quarrelOf 36 = .ok (.iload_n 1, 1) := by decide +kernel
theorem dX3_quarrelOf_37 : decode cX3_quarrelOf 37 = .ok (.iadd, 1) := by decide +kernel
theorem dX3_quarrelOf_38 : decode cX3_quarrelOf 38 = .ok (.iaload, 1) := by decide +kernel
theorem dX3_quarrelOf_39 : decode cX3_quarrelOf 39 = .ok (.if_icmp .ne 39, 3) := by decide +kernel
theorem dX3_quarrelOf_42 : decode cX3_quarrelOf 42 = .ok (.aload_n 0, 1) := by decide +kernel
theorem dX3_quarrelOf_43 : decode cX3_quarrelOf 43 = .ok (.getfield 62, 3) := by decide +kernel
theorem dX3_quarrelOf_46 : decode cX3_quarrelOf 46 = .ok (.bipush 16, 2) := by decide +kernel
theorem dX3_quarrelOf_48 : decode cX3_quarrelOf 48 = .ok (.iload_n 2, 1) := by decide +kernel
theorem dX3_quarrelOf_49 : decode cX3_quarrelOf 49 = .ok (.imul, 1) := by decide +kernel
theorem dX3_quarrelOf_50 : decode cX3_quarrelOf 50 = .ok (.iload_n 1, 1) := by decide +kernel
theorem dX3_quarrelOf_51 : decode cX3_quarrelOf 51 = .ok (.iadd, 1) := by decide +kernel
theorem dX3_quarrelOf_52 : decode cX3_quarrelOf 52 = .ok (.iaload, 1) := by decide +kernel
theorem dX3_quarrelOf_53 : decode cX3_quarrelOf 53 = .ok (.bipush (-99), 2) := by decide +kernel
theorem dX3_quarrelOf_55 : decode cX3_quarrelOf 55 = .ok (.if_icmp .eq 23, 3) := by decide +kernel
theorem dX3_quarrelOf_58 : decode cX3_quarrelOf 58 = .ok (.aload_n 0, 1) := by decide +kernel
theorem dX3_quarrelOf_59 : decode cX3_quarrelOf 59 = .ok (.getfield 62, 3) := by decide +kernel
theorem dX3_quarrelOf_62 : decode cX3_quarrelOf 62 = .ok (.bipush 16, 2) := by decide +kernel
theorem dX3_quarrelOf_64 : decode cX3_quarrelOf 64 = .ok (.iload_n 3, 1) := by decide +kernel
theorem dX3_quarrelOf_65 : decode cX3_quarrelOf 65 = .ok (.imul, 1) := by decide +kernel
theorem dX3_quarrelOf_66 : decode cX3_quarrelOf 66 = .ok (.iload_n 1, 1) := by decide +kernel
theorem dX3_quarrelOf_67 : decode cX3_quarrelOf 67 = .ok (.iadd, 1) := by decide +kernel
theorem dX3_quarrelOf_68 : decode cX3_quarrelOf 68 = .ok (.iaload, 1) := by decide +kernel
theorem dX3_quarrelOf_69 : decode cX3_quarrelOf 69 = .ok (.bipush (-99), 2) := by decide +kernel
theorem dX3_quarrelOf_71 : decode cX3_quarrelOf 71 = .ok (.if_icmp .eq 7, 3) := by decide +kernel
theorem dX3_quarrelOf_74 : decode cX3_quarrelOf 74 = .ok (.iconst 1, 1) := by decide +kernel
theorem dX3_quarrelOf_75 : decode cX3_quarrelOf 75 = .ok (.goto 4, 3) := by decide +kernel
theorem dX3_quarrelOf_78 : decode cX3_quarrelOf 78 = .ok (.iconst 0, 1) := by decide +kernel
theorem dX3_quarrelOf_79 : decode cX3_quarrelOf 79 = .ok (.istore 4, 2) := by decide +kernel
theorem dX3_quarrelOf_81 : decode cX3_quarrelOf 81 = .ok (.iload 4, 2) := by decide +kernel
theorem dX3_quarrelOf_83 : decode cX3_quarrelOf 83 = .ok (.ifCond .eq 30, 3) := by decide +kernel
theorem dX3_quarrelOf_86 : decode cX3_quarrelOf 86 = .ok (.aload_n 0, 1) := by decide +kernel
theorem dX3_quarrelOf_87 : decode cX3_quarrelOf 87 = .ok (.getfield 62, 3) := by decide +kernel
theorem dX3_quarrelOf_90 : decode cX3_quarrelOf 90 = .ok (.bipush 16, 2) := by decide +kernel
theorem dX3_quarrelOf_92 : decode cX3_quarrelOf 92 = .ok (.iload_n 2, 1) := by decide +kernel
theorem dX3_quarrelOf_93 : decode cX3_quarrelOf 93 = .ok (.imul, 1) := by decide +kernel
theorem dX3_quarrelOf_94 : decode cX3_quarrelOf 94 = .ok (.iload_n 1, 1) := by decide +kernel
theorem dX3_quarrelOf_95 : decode cX3_quarrelOf 95 = .ok (.iadd, 1) := by decide +kernel
theorem dX3_quarrelOf_96 : decode cX3_quarrelOf 96 = .ok (.iaload, 1) := by decide +kernel
theorem dX3_quarrelOf_97 : decode cX3_quarrelOf 97 = .ok (.aload_n 0, 1) := by decide +kernel
theorem dX3_quarrelOf_98 : decode cX3_quarrelOf 98 = .ok (.getfield 62, 3) := by decide +kernel
theorem dX3_quarrelOf_101 : decode cX3_quarrelOf 101 = .ok (.bipush 16, 2) := by decide +kernel
theorem dX3_quarrelOf_103 : decode cX3_quarrelOf 103 = .ok (.iload_n 3, 1) := by decide +kernel
theorem dX3_quarrelOf_104 : decode cX3_quarrelOf 104 = .ok (.imul, 1) := by decide +kernel
theorem dX3_quarrelOf_105 : decode cX3_quarrelOf 105 = .ok (.iload_n 1, 1) := by decide +kernel
theorem dX3_quarrelOf_106 : decode cX3_quarrelOf 106 = .ok (.iadd, 1) := by decide +kernel
theorem dX3_quarrelOf_107 : decode cX3_quarrelOf 107 = .ok (.iaload, 1) := by decide +kernel
theorem dX3_quarrelOf_108 : decode cX3_quarrelOf 108 = .ok (.if_icmp .eq 5, 3) := by decide +kernel
theorem dX3_quarrelOf_111 : decode cX3_quarrelOf 111 = .ok (.iload_n 2, 1) := by decide +kernel
theorem dX3_quarrelOf_112 : decode cX3_quarrelOf 112 = .ok (.ireturn, 1) := by decide +kernel
theorem dX3_quarrelOf_113 : decode cX3_quarrelOf 113 = .ok (.iinc 3 1, 3) := by decide +kernel
theorem dX3_quarrelOf_116 : decode cX3_quarrelOf 116 = .ok (.goto (-104), 3) := by decide +kernel
theorem dX3_quarrelOf_119 : decode cX3_quarrelOf 119 = .ok (.iinc 2 1, 3) := by decide +kernel
theorem dX3_quarrelOf_122 : decode cX3_quarrelOf 122 = .ok (.goto (-120), 3) := by decide +kernel
theorem dX3_quarrelOf_125 : decode cX3_quarrelOf 125 = .ok (.bipush (-99), 2) := by decide +kernel
theorem dX3_quarrelOf_127 : decode cX3_quarrelOf 127 = .ok (.ireturn, 1) := by decide +kernel
theorem dX3_threading_0 : decode cX3_threading 0 = .ok (.aload_n 0, 1) := by decide +kernel
theorem dX3_threading_1 : decode cX3_threading 1 = .ok (.iconst 0, 1) := by decide +kernel
theorem dX3_threading_2 : decode cX3_threading 2 = .ok (.putfield 85, 3) := by decide +kernel
theorem dX3_threading_5 : decode cX3_threading 5 = .ok (.aload_n 0, 1) := by decide +kernel
theorem dX3_threading_6 : decode cX3_threading 6 = .ok (.iload_n 1, 1) := by decide +kernel
theorem dX3_threading_7 : decode cX3_threading 7 = .ok (.invokevirtual 97, 3) := by decide +kernel
theorem dX3_threading_10 : decode cX3_threading 10 = .ok (.ifCond .ne 15, 3) := by decide +kernel
theorem dX3_threading_13 : decode cX3_threading 13 = .ok (.iload_n 2, 1) := by decide +kernel
theorem dX3_threading_14 : decode cX3_threading 14 = .ok (.i2l, 1) := by decide +kernel
theorem dX3_threading_15 : decode cX3_threading 15 = .ok (.lconst 0, 1) := by decide +kernel
theorem dX3_threading_16 : decode cX3_threading 16 = .ok (.ldc2_w 101, 3) := by decide +kernel
theorem dX3_threading_19 : decode cX3_threading 19 = .ok (.invokestatic 88, 3) := by decide +kernel
theorem dX3_threading_22 : decode cX3_threading 22 = .ok (.ifCond .ne 5, 3) := by decide +kernel
theorem dX3_threading_25 : decode cX3_threading 25 = .ok (.iconst (-1), 1) := by decide +kernel
theorem dX3_threading_26 : decode cX3_threading 26 = .ok (.ireturn, 1) := by decide +kernel
theorem dX3_threading_27 : decode cX3_threading 27 = .ok (.aload_n 0, 1) := by decide +kernel
theorem dX3_threading_28 : decode cX3_threading 28 = .ok (.iload_n 1, 1) := by decide +kernel
theorem dX3_threading_29 : decode cX3_threading 29 = .ok (.invokevirtual 178, 3) := by decide +kernel
theorem dX3_threading_32 : decode cX3_threading 32 = .ok (.bipush (-99), 2) := by decide +kernel
theorem dX3_threading_34 : decode cX3_threading 34 = .ok (.if_icmp .eq 6, 3) := by decide +kernel
theorem dX3_threading_37 : decode cX3_threading 37 = .ok (.bipush (-3), 2) := by decide +kernel
theorem dX3_threading_39 : decode cX3_threading 39 = .ok (.ireturn, 1) := by decide +kernel
theorem dX3_threading_40 : decode cX3_threading 40 = .ok (.bipush (-99), 2) := by decide +kernel
theorem dX3_threading_42 : decode cX3_threading 42 = .ok (.istore_n 3, 1) := by decide +kernel
theorem dX3_threading_43 : decode cX3_threading 43 = .ok (.iconst 0, 1) := by decide +kernel
theorem dX3_threading_44 : decode cX3_threading 44 = .ok (.istore 4, 2) := by decide +kernel
theorem dX3_threading_46 : decode cX3_threading 46 = .ok (.iload 4, 2) := by decide +kernel
theorem dX3_threading_48 : decode cX3_threading 48 = .ok (.aload_n 0, 1) := by decide +kernel
theorem dX3_threading_49 : decode cX3_threading 49 = .ok (.invokevirtual 150, 3) := by decide +kernel
theorem dX3_threading_52 : decode cX3_threading 52 = .ok (.if_icmp .ge 59, 3) := by decide +kernel
theorem dX3_threading_55 : decode cX3_threading 55 = .ok (.aload_n 0, 1) := by decide +kernel
theorem dX3_threading_56 : decode cX3_threading 56 = .ok (.getfield 53, 3) := by decide +kernel
theorem dX3_threading_59 : decode cX3_threading 59 = .ok (.bipush 16, 2) := by decide +kernel
theorem dX3_threading_61 : decode cX3_threading 61 = .ok (.iload 4, 2) := by decide +kernel
theorem dX3_threading_63 : decode cX3_threading 63 = .ok (.imul, 1) := by decide +kernel
theorem dX3_threading_64 : decode cX3_threading 64 = .ok (.iload_n 1, 1) := by decide +kernel
theorem dX3_threading_65 : decode cX3_threading 65 = .ok (.iadd, 1) := by decide +kernel
theorem dX3_threading_66 : decode cX3_threading 66 = .ok (.iaload, 1) := by decide +kernel
theorem dX3_threading_67 : decode cX3_threading 67 = .ok (.iload_n 2, 1) := by decide +kernel
theorem dX3_threading_68 : decode cX3_threading 68 = .ok (.if_icmp .ne 35, 3) := by decide +kernel
theorem dX3_threading_71 : decode cX3_threading 71 = .ok (.aload_n 0, 1) := by decide +kernel
theorem dX3_threading_72 : decode cX3_threading 72 = .ok (.getfield 62, 3) := by decide +kernel
theorem dX3_threading_75 : decode cX3_threading 75 = .ok (.bipush 16, 2) := by decide +kernel
theorem dX3_threading_77 : decode cX3_threading 77 = .ok (.iload 4, 2) := by decide +kernel
theorem dX3_threading_79 : decode cX3_threading 79 = .ok (.imul, 1) := by decide +kernel
theorem dX3_threading_80 : decode cX3_threading 80 = .ok (.iload_n 1, 1) := by decide +kernel
theorem dX3_threading_81 : decode cX3_threading 81 = .ok (.iadd, 1) := by decide +kernel
theorem dX3_threading_82 : decode cX3_threading 82 = .ok (.iaload, 1) := by decide +kernel
theorem dX3_threading_83 : decode cX3_threading 83 = .ok (.bipush (-99), 2) := by decide +kernel
theorem dX3_threading_85 : decode cX3_threading 85 = .ok (.if_icmp .eq 18, 3) := by decide +kernel
theorem dX3_threading_88 : decode cX3_threading 88 = .ok (.aload_n 0, 1) := by decide +kernel
theorem dX3_threading_89 : decode cX3_threading 89 = .ok (.getfield 62, 3) := by decide +kernel
theorem dX3_threading_92 : decode cX3_threading 92 = .ok (.bipush 16, 2) := by decide +kernel
theorem dX3_threading_94 : decode cX3_threading 94 = .ok (.iload 4, 2) := by decide +kernel
theorem dX3_threading_96 : decode cX3_threading 96 = .ok (.imul, 1) := by decide +kernel
theorem dX3_threading_97 : decode cX3_threading 97 = .ok (.iload_n 1, 1) := by decide +kernel
theorem dX3_threading_98 : decode cX3_threading 98 = .ok (.iadd, 1) := by decide +kernel
theorem dX3_threading_99 : decode cX3_threading 99 = .ok (.iaload, 1) := by decide +kernel
theorem dX3_threading_100 : decode cX3_threading 100 = .ok (.goto 4, 3) := by decide +kernel
theorem dX3_threading_103 : decode cX3_threading 103 = .ok (.iload_n 3, 1) := by decide +kernel
theorem dX3_threading_104 : decode cX3_threading 104 = .ok (.istore_n 3, 1) := by decide +kernel
theorem dX3_threading_105 : decode cX3_threading 105 = .ok (.iinc 4 1, 3) := by decide +kernel
theorem dX3_threading_108 : decode cX3_threading 108 = .ok (.goto (-62), 3) := by decide +kernel
theorem dX3_threading_111 : decode cX3_threading 111 = .ok (.iload_n 3, 1) := by decide +kernel
theorem dX3_threading_112 : decode cX3_threading 112 = .ok (.ireturn, 1) := by decide +kernel
theorem dX3_quarrel_0 : decode cX3_quarrel 0 = .ok (.aload_n 0, 1) := by decide +kernel
theorem dX3_quarrel_1 : decode cX3_quarrel 1 = .ok (.iconst 0, 1) := by decide +kernel
theorem dX3_quarrel_2 : decode cX3_quarrel 2 = .ok (.putfield 85, 3) := by decide +kernel
theorem dX3_quarrel_5 : decode cX3_quarrel 5 = .ok (.aload_n 0, 1) := by decide +kernel
theorem dX3_quarrel_6 : decode cX3_quarrel 6 = .ok (.iload_n 1, 1) := by decide +kernel
theorem dX3_quarrel_7 : decode cX3_quarrel 7 = .ok (.invokevirtual 97, 3) := by decide +kernel
theorem dX3_quarrel_10 : decode cX3_quarrel 10 = .ok (.ifCond .eq 7, 3) := by decide +kernel
theorem dX3_quarrel_13 : decode cX3_quarrel 13 = .ok (.iconst (-1), 1) := by decide +kernel
theorem dX3_quarrel_14 : decode cX3_quarrel 14 = .ok (.goto 8, 3) := by decide +kernel
theorem dX3_quarrel_17 : decode cX3_quarrel 17 = .ok (.aload_n 0, 1) := by decide +kernel
theorem dX3_quarrel_18 : decode cX3_quarrel 18 = .ok (.iload_n 1, 1) := by decide +kernel
theorem dX3_quarrel_19 : decode cX3_quarrel 19 = .ok (.invokevirtual 178, 3) := by decide +kernel
theorem dX3_quarrel_22 : decode cX3_quarrel 22 = .ok (.ireturn, 1) := by decide +kernel
theorem dX3_would_0 : decode cX3_would 0 = .ok (.iconst 0, 1) := by decide +kernel
theorem dX3_would_1 : decode cX3_would 1 = .ok (.istore 4, 2) := by decide +kernel
theorem dX3_would_3 : decode cX3_would 3 = .ok (.iconst 0, 1) := by decide +kernel
theorem dX3_would_4 : decode cX3_would 4 = .ok (.istore 5, 2) := by decide +kernel
theorem dX3_would_6 : decode cX3_would 6 = .ok (.iconst 1, 1) := by decide +kernel
theorem dX3_would_7 : decode cX3_would 7 = .ok (.istore 6, 2) := by decide +kernel
theorem dX3_would_9 : decode cX3_would 9 = .ok (.iconst 0, 1) := by decide +kernel
theorem dX3_would_10 : decode cX3_would 10 = .ok (.istore 7, 2) := by decide +kernel
theorem dX3_would_12 : decode cX3_would 12 = .ok (.iload 7, 2) := by decide +kernel
theorem dX3_would_14 : decode cX3_would 14 = .ok (.aload_n 0, 1) := by decide +kernel
theorem dX3_would_15 : decode cX3_would 15 = .ok (.invokevirtual 150, 3) := by decide +kernel
theorem dX3_would_18 : decode cX3_would 18 = .ok (.if_icmp .ge 117, 3) := by decide +kernel
theorem dX3_would_21 : decode cX3_would 21 = .ok (.iload 7, 2) := by decide +kernel
theorem dX3_would_23 : decode cX3_would 23 = .ok (.iload_n 2, 1) := by decide +kernel
theorem dX3_would_24 : decode cX3_would 24 = .ok (.if_icmp .ne 7, 3) := by decide +kernel
theorem dX3_would_27 : decode cX3_would 27 = .ok (.iload_n 3, 1) := by decide +kernel
theorem dX3_would_28 : decode cX3_would 28 = .ok (.goto 15, 3) := by decide +kernel
theorem dX3_would_31 : decode cX3_would 31 = .ok (.aload_n 0, 1) := by decide +kernel
theorem dX3_would_32 : decode cX3_would 32 = .ok (.getfield 50, 3) := by decide +kernel
theorem dX3_would_35 : decode cX3_would 35 = .ok (.bipush 16, 2) := by decide +kernel
theorem dX3_would_37 : decode cX3_would 37 = .ok (.iload 7, 2) := by decide +kernel
theorem dX3_would_39 : decode cX3_would 39 = .ok (.imul, 1) := by decide +kernel
theorem dX3_would_40 : decode cX3_would 40 = .ok (.iload_n 1, 1) := by decide +kernel
theorem dX3_would_41 : decode cX3_would 41 = .ok (.iadd, 1) := by decide +kernel
theorem dX3_would_42 : decode cX3_would 42 = .ok (.iaload, 1) := by decide +kernel
theorem dX3_would_43 : decode cX3_would 43 = .ok (.istore 8, 2) := by decide +kernel
theorem dX3_would_45 : decode cX3_would 45 = .ok (.iload 8, 2) := by decide +kernel
theorem dX3_would_47 : decode cX3_would 47 = .ok (.iconst 2, 1) := by decide +kernel
theorem dX3_would_48 : decode cX3_would 48 = .ok (.if_icmp .ne 19, 3) := by decide +kernel
theorem dX3_would_51 : decode cX3_would 51 = .ok (.iload 7, 2) := by decide +kernel
theorem dX3_would_53 : decode cX3_would 53 = .ok (.ifCond .ne 7, 3) := by decide +kernel
theorem dX3_would_56 : decode cX3_would 56 = .ok (.iconst 0, 1) := by decide +kernel
theorem dX3_would_57 : decode cX3_would 57 = .ok (.goto 5, 3) := by decide +kernel
theorem dX3_would_60 : decode cX3_would 60 = .ok (.iload 5, 2) := by decide +kernel
theorem dX3_would_62 : decode cX3_would 62 = .ok (.istore 5, 2) := by decide +kernel
theorem dX3_would_64 : decode cX3_would 64 = .ok (.goto 32, 3) := by decide +kernel
theorem dX3_would_67 : decode cX3_would 67 = .ok (.iload 4, 2) := by decide +kernel
theorem dX3_would_69 : decode cX3_would 69 = .ok (.iload 8, 2) := by decide +kernel
theorem dX3_would_71 : decode cX3_would 71 = .ok (.ifCond .ne 7, 3) := by decide +kernel
theorem dX3_would_74 : decode cX3_would 74 = .ok (.iconst 1, 1) := by decide +kernel
theorem dX3_would_75 : decode cX3_would 75 = .ok (.goto 4, 3) := by decide +kernel
theorem dX3_would_78 : decode cX3_would 78 = .ok (.iconst 3, 1) := by decide +kernel
theorem dX3_would_79 : decode cX3_would 79 = .ok (.iadd, 1) := by decide +kernel
theorem dX3_would_80 : decode cX3_would 80 = .ok (.iconst 4, 1) := by decide +kernel
theorem dX3_would_81 : decode cX3_would 81 = .ok (.irem, 1) := by decide +kernel
theorem dX3_would_82 : decode cX3_would 82 = .ok (.istore 4, 2) := by decide +kernel
theorem dX3_would_84 : decode cX3_would 84 = .ok (.iload 8, 2) := by decide +kernel
theorem dX3_would_86 : decode cX3_would 86 = .ok (.bipush 8, 2) := by decide +kernel
theorem dX3_would_88 : decode cX3_would 88 = .ok (.iadd, 1) := by decide +kernel
theorem dX3_would_89 : decode cX3_would 89 = .ok (.iload 4, 2) := by decide +kernel
theorem dX3_would_91 : decode cX3_would 91 = .ok (.isub, 1) := by decide +kernel
theorem dX3_would_92 : decode cX3_would 92 = .ok (.iconst 4, 1) := by decide +kernel
theorem dX3_would_93 : decode cX3_would 93 = .ok (.irem, 1) := by decide +kernel
theorem dX3_would_94 : decode cX3_would 94 = .ok (.istore 5, 2) := by decide +kernel
theorem dX3_would_96 : decode cX3_would 96 = .ok (.iload 6, 2) := by decide +kernel
theorem dX3_would_98 : decode cX3_would 98 = .ok (.ifCond .eq 28, 3) := by decide +kernel
theorem dX3_would_101 : decode cX3_would 101 = .ok (.aload_n 0, 1) := by decide +kernel
theorem dX3_would_102 : decode cX3_would 102 = .ok (.iload 7, 2) := by decide +kernel
theorem dX3_would_104 : decode cX3_would 104 = .ok (.iload_n 1, 1) := by decide +kernel
theorem dX3_would_105 : decode cX3_would 105 = .ok (.aload_n 0, 1) := by decide +kernel
theorem dX3_would_106 : decode cX3_would 106 = .ok (.getfield 13, 3) := by decide +kernel
theorem dX3_would_109 : decode cX3_would 109 = .ok (.iconst 4, 1) := by decide +kernel
theorem dX3_would_110 : decode cX3_would 110 = .ok (.iload_n 1, 1) := by decide +kernel
theorem dX3_would_111 : decode cX3_would 111 = .ok (.imul, 1) := by decide +kernel
theorem dX3_would_112 : decode cX3_would 112 = .ok (.iload 5, 2) := by decide +kernel
theorem dX3_would_114 : decode cX3_would 114 = .ok (.iadd, 1) := by decide +kernel
theorem dX3_would_115 : decode cX3_would 115 = .ok (.iaload, 1) := by decide +kernel
theorem dX3_would_116 : decode cX3_would 116 = .ok (.invokevirtual 154, 3) := by decide +kernel
theorem dX3_would_119 : decode cX3_would 119 = .ok (.ifCond .eq 7, 3) := by decide +kernel
theorem dX3_would_122 : decode cX3_would 122 = .ok (.iconst 1, 1) := by decide +kernel
theorem dX3_would_123 : decode cX3_would 123 = .ok (.goto 4, 3) := by decide +kernel
theorem dX3_would_126 : decode cX3_would 126 = .ok (.iconst 0, 1) := by decide +kernel
theorem dX3_would_127 : decode cX3_would 127 = .ok (.istore 6, 2) := by decide +kernel
theorem dX3_would_129 : decode cX3_would 129 = .ok (.iinc 7 1, 3) := by decide +kernel
theorem dX3_would_132 : decode cX3_would 132 = .ok (.goto (-120), 3) := by decide +kernel
theorem dX3_would_135 : decode cX3_would 135 = .ok (.iload 6, 2) := by decide +kernel
theorem dX3_would_137 : decode cX3_would 137 = .ok (.ireturn, 1) := by decide +kernel
theorem dX3_wrongOf_0 : decode cX3_wrongOf 0 = .ok (.iconst 0, 1) := by decide +kernel
theorem dX3_wrongOf_1 : decode cX3_wrongOf 1 = .ok (.istore 4, 2) := by decide +kernel
theorem dX3_wrongOf_3 : decode cX3_wrongOf 3 = .ok (.iconst 0, 1) := by decide +kernel
theorem dX3_wrongOf_4 : decode cX3_wrongOf 4 = .ok (.istore 5, 2) := by decide +kernel
theorem dX3_wrongOf_6 : decode cX3_wrongOf 6 = .ok (.iload 5, 2) := by decide +kernel
theorem dX3_wrongOf_8 : decode cX3_wrongOf 8 = .ok (.aload_n 0, 1) := by decide +kernel
theorem dX3_wrongOf_9 : decode cX3_wrongOf 9 = .ok (.invokevirtual 150, 3) := by decide +kernel
theorem dX3_wrongOf_12 : decode cX3_wrongOf 12 = .ok (.if_icmp .ge 75, 3) := by decide +kernel
theorem dX3_wrongOf_15 : decode cX3_wrongOf 15 = .ok (.iconst 0, 1) := by decide +kernel
theorem dX3_wrongOf_16 : decode cX3_wrongOf 16 = .ok (.istore 6, 2) := by decide +kernel
theorem dX3_wrongOf_18 : decode cX3_wrongOf 18 = .ok (.iload 6, 2) := by decide +kernel
theorem dX3_wrongOf_20 : decode cX3_wrongOf 20 = .ok (.iconst 3, 1) := by decide +kernel
theorem dX3_wrongOf_21 : decode cX3_wrongOf 21 = .ok (.if_icmp .ge 60, 3) := by decide +kernel
theorem dX3_wrongOf_24 : decode cX3_wrongOf 24 = .ok (.iload 6, 2) := by decide +kernel
theorem dX3_wrongOf_26 : decode cX3_wrongOf 26 = .ok (.aload_n 0, 1) := by decide +kernel
theorem dX3_wrongOf_27 : decode cX3_wrongOf 27 = .ok (.getfield 50, 3) := by decide +kernel
theorem dX3_wrongOf_30 : decode cX3_wrongOf 30 = .ok (.bipush 16, 2) := by decide +kernel
theorem dX3_wrongOf_32 : decode cX3_wrongOf 32 = .ok (.iload 5, 2) := by decide +kernel
theorem dX3_wrongOf_34 : decode cX3_wrongOf 34 = .ok (.imul, 1) := by decide +kernel
theorem dX3_wrongOf_35 : decode cX3_wrongOf 35 = .ok (.iload_n 1, 1) := by decide +kernel
theorem dX3_wrongOf_36 : decode cX3_wrongOf 36 = .ok (.iadd, 1) := by decide +kernel
theorem dX3_wrongOf_37 : decode cX3_wrongOf 37 = .ok (.iaload, 1) := by decide +kernel
theorem dX3_wrongOf_38 : decode cX3_wrongOf 38 = .ok (.if_icmp .eq 37, 3) := by decide +kernel
theorem dX3_wrongOf_41 : decode cX3_wrongOf 41 = .ok (.aload_n 0, 1) := by decide +kernel
theorem dX3_wrongOf_42 : decode cX3_wrongOf 42 = .ok (.iload_n 1, 1) := by decide +kernel
theorem dX3_wrongOf_43 : decode cX3_wrongOf 43 = .ok (.iload 5, 2) := by decide +kernel
theorem dX3_wrongOf_45 : decode cX3_wrongOf 45 = .ok (.iload 6, 2) := by decide +kernel
theorem dX3_wrongOf_47 : decode cX3_wrongOf 47 = .ok (.invokevirtual 181, 3) := by decide +kernel
theorem dX3_wrongOf_50 : decode cX3_wrongOf 50 = .ok (.ifCond .eq 25, 3) := by decide +kernel
theorem dX3_wrongOf_53 : decode cX3_wrongOf 53 = .ok (.iload 4, 2) := by decide +kernel
theorem dX3_wrongOf_55 : decode cX3_wrongOf 55 = .ok (.iload_n 2, 1) := by decide +kernel
theorem dX3_wrongOf_56 : decode cX3_wrongOf 56 = .ok (.if_icmp .ne 16, 3) := by decide +kernel
theorem dX3_wrongOf_59 : decode cX3_wrongOf 59 = .ok (.iload_n 3, 1) := by decide +kernel
theorem dX3_wrongOf_60 : decode cX3_wrongOf 60 = .ok (.ifCond .ne 12, 3) := by decide +kernel
theorem dX3_wrongOf_63 : decode cX3_wrongOf 63 = .ok (.bipush 10, 2) := by decide +kernel
theorem dX3_wrongOf_65 : decode cX3_wrongOf 65 = .ok (.iload 5, 2) := by decide +kernel
theorem dX3_wrongOf_67 : decode cX3_wrongOf 67 = .ok (.imul, 1) := by decide +kernel
theorem dX3_wrongOf_68 : decode cX3_wrongOf 68 = .ok (.iload 6, 2) := by decide +kernel
theorem dX3_wrongOf_70 : decode cX3_wrongOf 70 = .ok (.iadd, 1) := by decide +kernel
theorem dX3_wrongOf_71 : decode cX3_wrongOf 71 = .ok (.ireturn, 1) := by decide +kernel
theorem dX3_wrongOf_72 : decode cX3_wrongOf 72 = .ok (.iinc 4 1, 3) := by decide +kernel
theorem dX3_wrongOf_75 : decode cX3_wrongOf 75 = .ok (.iinc 6 1, 3) := by decide +kernel
theorem dX3_wrongOf_78 : decode cX3_wrongOf 78 = .ok (.goto (-60), 3) := by decide +kernel
theorem dX3_wrongOf_81 : decode cX3_wrongOf 81 = .ok (.iinc 5 1, 3) := by decide +kernel
theorem dX3_wrongOf_84 : decode cX3_wrongOf 84 = .ok (.goto (-78), 3) := by decide +kernel
theorem dX3_wrongOf_87 : decode cX3_wrongOf 87 = .ok (.iload_n 3, 1) := by decide +kernel
theorem dX3_wrongOf_88 : decode cX3_wrongOf 88 = .ok (.ifCond .eq 8, 3) := by decide +kernel
theorem dX3_wrongOf_91 : decode cX3_wrongOf 91 = .ok (.iload 4, 2) := by decide +kernel
theorem dX3_wrongOf_93 : decode cX3_wrongOf 93 = .ok (.goto 5, 3) := by decide +kernel
theorem dX3_wrongOf_96 : decode cX3_wrongOf 96 = .ok (.bipush (-99), 2) := by decide +kernel
theorem dX3_wrongOf_98 : decode cX3_wrongOf 98 = .ok (.ireturn, 1) := by decide +kernel
theorem dX3_wrongs_0 : decode cX3_wrongs 0 = .ok (.aload_n 0, 1) := by decide +kernel
theorem dX3_wrongs_1 : decode cX3_wrongs 1 = .ok (.iconst 0, 1) := by decide +kernel
theorem dX3_wrongs_2 : decode cX3_wrongs 2 = .ok (.putfield 85, 3) := by decide +kernel
theorem dX3_wrongs_5 : decode cX3_wrongs 5 = .ok (.aload_n 0, 1) := by decide +kernel
theorem dX3_wrongs_6 : decode cX3_wrongs 6 = .ok (.iload_n 1, 1) := by decide +kernel
theorem dX3_wrongs_7 : decode cX3_wrongs 7 = .ok (.invokevirtual 97, 3) := by decide +kernel
theorem dX3_wrongs_10 : decode cX3_wrongs 10 = .ok (.ifCond .eq 5, 3) := by decide +kernel
theorem dX3_wrongs_13 : decode cX3_wrongs 13 = .ok (.iconst (-1), 1) := by decide +kernel
theorem dX3_wrongs_14 : decode cX3_wrongs 14 = .ok (.ireturn, 1) := by decide +kernel
theorem dX3_wrongs_15 : decode cX3_wrongs 15 = .ok (.aload_n 0, 1) := by decide +kernel
theorem dX3_wrongs_16 : decode cX3_wrongs 16 = .ok (.getfield 32, 3) := by decide +kernel
theorem dX3_wrongs_19 : decode cX3_wrongs 19 = .ok (.iload_n 1, 1) := by decide +kernel
theorem dX3_wrongs_20 : decode cX3_wrongs 20 = .ok (.iaload, 1) := by decide +kernel
theorem dX3_wrongs_21 : decode cX3_wrongs 21 = .ok (.ifCond .le 8, 3) := by decide +kernel
theorem dX3_wrongs_24 : decode cX3_wrongs 24 = .ok (.bipush (-3), 2) := by decide +kernel
theorem dX3_wrongs_26 : decode cX3_wrongs 26 = .ok (.goto 10, 3) := by decide +kernel
theorem dX3_wrongs_29 : decode cX3_wrongs 29 = .ok (.aload_n 0, 1) := by decide +kernel
theorem dX3_wrongs_30 : decode cX3_wrongs 30 = .ok (.iload_n 1, 1) := by decide +kernel
theorem dX3_wrongs_31 : decode cX3_wrongs 31 = .ok (.iconst 0, 1) := by decide +kernel
theorem dX3_wrongs_32 : decode cX3_wrongs 32 = .ok (.iconst 1, 1) := by decide +kernel
theorem dX3_wrongs_33 : decode cX3_wrongs 33 = .ok (.invokevirtual 184, 3) := by decide +kernel
theorem dX3_wrongs_36 : decode cX3_wrongs 36 = .ok (.ireturn, 1) := by decide +kernel
theorem dX3_wrong_0 : decode cX3_wrong 0 = .ok (.aload_n 0, 1) := by decide +kernel
theorem dX3_wrong_1 : decode cX3_wrong 1 = .ok (.iconst 0, 1) := by decide +kernel
theorem dX3_wrong_2 : decode cX3_wrong 2 = .ok (.putfield 85, 3) := by decide +kernel
theorem dX3_wrong_5 : decode cX3_wrong 5 = .ok (.aload_n 0, 1) := by decide +kernel
theorem dX3_wrong_6 : decode cX3_wrong 6 = .ok (.iload_n 1, 1) := by decide +kernel
theorem dX3_wrong_7 : decode cX3_wrong 7 = .ok (.invokevirtual 97, 3) := by decide +kernel
theorem dX3_wrong_10 : decode cX3_wrong 10 = .ok (.ifCond .eq 5, 3) := by decide +kernel
theorem dX3_wrong_13 : decode cX3_wrong 13 = .ok (.iconst (-1), 1) := by decide +kernel
theorem dX3_wrong_14 : decode cX3_wrong 14 = .ok (.ireturn, 1) := by decide +kernel
theorem dX3_wrong_15 : decode cX3_wrong 15 = .ok (.aload_n 0, 1) := by decide +kernel
theorem dX3_wrong_16 : decode cX3_wrong 16 = .ok (.getfield 32, 3) := by decide +kernel
theorem dX3_wrong_19 : decode cX3_wrong 19 = .ok (.iload_n 1, 1) := by decide +kernel
theorem dX3_wrong_20 : decode cX3_wrong 20 = .ok (.iaload, 1) := by decide +kernel
theorem dX3_wrong_21 : decode cX3_wrong 21 = .ok (.ifCond .le 8, 3) := by decide +kernel
theorem dX3_wrong_24 : decode cX3_wrong 24 = .ok (.bipush (-3), 2) := by decide +kernel
theorem dX3_wrong_26 : decode cX3_wrong 26 = .ok (.goto 10, 3) := by decide +kernel
theorem dX3_wrong_29 : decode cX3_wrong 29 = .ok (.aload_n 0, 1) := by decide +kernel
theorem dX3_wrong_30 : decode cX3_wrong 30 = .ok (.iload_n 1, 1) := by decide +kernel
theorem dX3_wrong_31 : decode cX3_wrong 31 = .ok (.iload_n 2, 1) := by decide +kernel
theorem dX3_wrong_32 : decode cX3_wrong 32 = .ok (.iconst 0, 1) := by decide +kernel
theorem dX3_wrong_33 : decode cX3_wrong 33 = .ok (.invokevirtual 184, 3) := by decide +kernel
theorem dX3_wrong_36 : decode cX3_wrong 36 = .ok (.ireturn, 1) := by decide +kernel
theorem dX3_count_0 : decode cX3_count 0 = .ok (.aload_n 0, 1) := by decide +kernel
theorem dX3_count_1 : decode cX3_count 1 = .ok (.iconst 0, 1) := by decide +kernel
theorem dX3_count_2 : decode cX3_count 2 = .ok (.putfield 85, 3) := by decide +kernel
theorem dX3_count_5 : decode cX3_count 5 = .ok (.iconst 0, 1) := by decide +kernel
theorem dX3_count_6 : decode cX3_count 6 = .ok (.istore_n 2, 1) := by decide +kernel
theorem dX3_count_7 : decode cX3_count 7 = .ok (.iconst 0, 1) := by decide +kernel
theorem dX3_count_8 : decode cX3_count 8 = .ok (.istore_n 3, 1) := by decide +kernel
theorem dX3_count_9 : decode cX3_count 9 = .ok (.iconst 0, 1) := by decide +kernel
theorem dX3_count_10 : decode cX3_count 10 = .ok (.istore 4, 2) := by decide +kernel
theorem dX3_count_12 : decode cX3_count 12 = .ok (.iconst 0, 1) := by decide +kernel
theorem dX3_count_13 : decode cX3_count 13 = .ok (.istore 5, 2) := by decide +kernel
theorem dX3_count_15 : decode cX3_count 15 = .ok (.iload 5, 2) := by decide +kernel
theorem dX3_count_17 : decode cX3_count 17 = .ok (.aload_n 0, 1) := by decide +kernel
theorem dX3_count_18 : decode cX3_count 18 = .ok (.getfield 7, 3) := by decide +kernel
theorem dX3_count_21 : decode cX3_count 21 = .ok (.if_icmp .ge 95, 3) := by decide +kernel
theorem dX3_count_24 : decode cX3_count 24 = .ok (.iload_n 3, 1) := by decide +kernel
theorem dX3_count_25 : decode cX3_count 25 = .ok (.aload_n 0, 1) := by decide +kernel
theorem dX3_count_26 : decode cX3_count 26 = .ok (.getfield 20, 3) := by decide +kernel
theorem dX3_count_29 : decode cX3_count 29 = .ok (.iload 5, 2) := by decide +kernel
theorem dX3_count_31 : decode cX3_count 31 = .ok (.iaload, 1) := by decide +kernel
theorem dX3_count_32 : decode cX3_count 32 = .ok (.iadd, 1) := by decide +kernel
theorem dX3_count_33 : decode cX3_count 33 = .ok (.istore_n 3, 1) := by decide +kernel
theorem dX3_count_34 : decode cX3_count 34 = .ok (.iconst 0, 1) := by decide +kernel
theorem dX3_count_35 : decode cX3_count 35 = .ok (.istore 6, 2) := by decide +kernel
theorem dX3_count_37 : decode cX3_count 37 = .ok (.iload 6, 2) := by decide +kernel
theorem dX3_count_39 : decode cX3_count 39 = .ok (.iconst 4, 1) := by decide +kernel
theorem dX3_count_40 : decode cX3_count 40 = .ok (.if_icmp .ge 28, 3) := by decide +kernel
theorem dX3_count_43 : decode cX3_count 43 = .ok (.iload 4, 2) := by decide +kernel
theorem dX3_count_45 : decode cX3_count 45 = .ok (.iconst 1, 1) := by decide +kernel
theorem dX3_count_46 : decode cX3_count 46 = .ok (.aload_n 0, 1) := by decide +kernel
theorem dX3_count_47 : decode cX3_count 47 = .ok (.getfield 13, 3) := by decide +kernel
theorem dX3_count_50 : decode cX3_count 50 = .ok (.iconst 4, 1) := by decide +kernel
theorem dX3_count_51 : decode cX3_count 51 = .ok (.iload 5, 2) := by decide +kernel
theorem dX3_count_53 : decode cX3_count 53 = .ok (.imul, 1) := by decide +kernel
theorem dX3_count_54 : decode cX3_count 54 = .ok (.iload 6, 2) := by decide +kernel
theorem dX3_count_56 : decode cX3_count 56 = .ok (.iadd, 1) := by decide +kernel
theorem dX3_count_57 : decode cX3_count 57 = .ok (.iaload, 1) := by decide +kernel
theorem dX3_count_58 : decode cX3_count 58 = .ok (.ishl, 1) := by decide +kernel
theorem dX3_count_59 : decode cX3_count 59 = .ok (.ior, 1) := by decide +kernel
theorem dX3_count_60 : decode cX3_count 60 = .ok (.istore 4, 2) := by decide +kernel
theorem dX3_count_62 : decode cX3_count 62 = .ok (.iinc 6 1, 3) := by decide +kernel
theorem dX3_count_65 : decode cX3_count 65 = .ok (.goto (-28), 3) := by decide +kernel
theorem dX3_count_68 : decode cX3_count 68 = .ok (.iconst 0, 1) := by decide +kernel
theorem dX3_count_69 : decode cX3_count 69 = .ok (.istore 6, 2) := by decide +kernel
theorem dX3_count_71 : decode cX3_count 71 = .ok (.iload 6, 2) := by decide +kernel
theorem dX3_count_73 : decode cX3_count 73 = .ok (.bipush 30, 2) := by decide +kernel
theorem dX3_count_75 : decode cX3_count 75 = .ok (.if_icmp .ge 35, 3) := by decide +kernel
theorem dX3_count_78 : decode cX3_count 78 = .ok (.iload_n 2, 1) := by decide +kernel
theorem dX3_count_79 : decode cX3_count 79 = .ok (.aload_n 0, 1) := by decide +kernel
theorem dX3_count_80 : decode cX3_count 80 = .ok (.getfield 62, 3) := by decide +kernel
theorem dX3_count_83 : decode cX3_count 83 = .ok (.bipush 16, 2) := by decide +kernel
theorem dX3_count_85 : decode cX3_count 85 = .ok (.iload 6, 2) := by decide +kernel
theorem dX3_count_87 : decode cX3_count 87 = .ok (.imul, 1) := by decide +kernel
theorem dX3_count_88 : decode cX3_count 88 = .ok (.iload 5, 2) := by decide +kernel
theorem dX3_count_90 : decode cX3_count 90 = .ok (.iadd, 1) := by decide +kernel
theorem dX3_count_91 : decode cX3_count 91 = .ok (.iaload, 1) := by decide +kernel
theorem dX3_count_92 : decode cX3_count 92 = .ok (.bipush (-99), 2) := by decide +kernel
theorem dX3_count_94 : decode cX3_count 94 = .ok (.if_icmp .ne 7, 3) := by decide +kernel
theorem dX3_count_97 : decode cX3_count 97 = .ok (.iconst 0, 1) := by decide +kernel
theorem dX3_count_98 : decode cX3_count 98 = .ok (.goto 4, 3) := by decide +kernel
theorem dX3_count_101 : decode cX3_count 101 = .ok (.iconst 1, 1) := by decide +kernel
theorem dX3_count_102 : decode cX3_count 102 = .ok (.iadd, 1) := by decide +kernel
theorem dX3_count_103 : decode cX3_count 103 = .ok (.istore_n 2, 1) := by decide +kernel
theorem dX3_count_104 : decode cX3_count 104 = .ok (.iinc 6 1, 3) := by decide +kernel
theorem dX3_count_107 : decode cX3_count 107 = .ok (.goto (-36), 3) := by decide +kernel
theorem dX3_count_110 : decode cX3_count 110 = .ok (.iinc 5 1, 3) := by decide +kernel
theorem dX3_count_113 : decode cX3_count 113 = .ok (.goto (-98), 3) := by decide +kernel
theorem dX3_count_116 : decode cX3_count 116 = .ok (.iconst 0, 1) := by decide +kernel
theorem dX3_count_117 : decode cX3_count 117 = .ok (.istore 5, 2) := by decide +kernel
theorem dX3_count_119 : decode cX3_count 119 = .ok (.iconst 0, 1) := by decide +kernel
theorem dX3_count_120 : decode cX3_count 120 = .ok (.istore 6, 2) := by decide +kernel
theorem dX3_count_122 : decode cX3_count 122 = .ok (.iload 6, 2) := by decide +kernel
theorem dX3_count_124 : decode cX3_count 124 = .ok (.bipush 8, 2) := by decide +kernel
theorem dX3_count_126 : decode cX3_count 126 = .ok (.if_icmp .ge 21, 3) := by decide +kernel
theorem dX3_count_129 : decode cX3_count 129 = .ok (.iload 5, 2) := by decide +kernel
theorem dX3_count_131 : decode cX3_count 131 = .ok (.iload 4, 2) := by decide +kernel
theorem dX3_count_133 : decode cX3_count 133 = .ok (.iload 6, 2) := by decide +kernel
theorem dX3_count_135 : decode cX3_count 135 = .ok (.ishr, 1) := by decide +kernel
theorem dX3_count_136 : decode cX3_count 136 = .ok (.iconst 1, 1) := by decide +kernel
theorem dX3_count_137 : decode cX3_count 137 = .ok (.iand, 1) := by decide +kernel
theorem dX3_count_138 : decode cX3_count 138 = .ok (.iadd, 1) := by decide +kernel
theorem dX3_count_139 : decode cX3_count 139 = .ok (.istore 5, 2) := by decide +kernel
theorem dX3_count_141 : decode cX3_count 141 = .ok (.iinc 6 1, 3) := by decide +kernel
theorem dX3_count_144 : decode cX3_count 144 = .ok (.goto (-22), 3) := by decide +kernel
theorem dX3_count_147 : decode cX3_count 147 = .ok (.iload_n 1, 1) := by decide +kernel
theorem dX3_count_148 : decode cX3_count 148 = .ok (.tableswitch 53 0 4 #[36, 41, 46, 48, 50], 36) := by decide +kernel
theorem dX3_count_184 : decode cX3_count 184 = .ok (.aload_n 0, 1) := by decide +kernel
theorem dX3_count_185 : decode cX3_count 185 = .ok (.getfield 7, 3) := by decide +kernel
theorem dX3_count_188 : decode cX3_count 188 = .ok (.ireturn, 1) := by decide +kernel
theorem dX3_count_189 : decode cX3_count 189 = .ok (.aload_n 0, 1) := by decide +kernel
theorem dX3_count_190 : decode cX3_count 190 = .ok (.getfield 92, 3) := by decide +kernel
theorem dX3_count_193 : decode cX3_count 193 = .ok (.ireturn, 1) := by decide +kernel
theorem dX3_count_194 : decode cX3_count 194 = .ok (.iload_n 2, 1) := by decide +kernel
theorem dX3_count_195 : decode cX3_count 195 = .ok (.ireturn, 1) := by decide +kernel
theorem dX3_count_196 : decode cX3_count 196 = .ok (.iload_n 3, 1) := by decide +kernel
theorem dX3_count_197 : decode cX3_count 197 = .ok (.ireturn, 1) := by decide +kernel
theorem dX3_count_198 : decode cX3_count 198 = .ok (.iload 5, 2) := by decide +kernel
theorem dX3_count_200 : decode cX3_count 200 = .ok (.ireturn, 1) := by decide +kernel
theorem dX3_count_201 : decode cX3_count 201 = .ok (.bipush (-2), 2) := by decide +kernel
theorem dX3_count_203 : decode cX3_count 203 = .ok (.ireturn, 1) := by decide +kernel
