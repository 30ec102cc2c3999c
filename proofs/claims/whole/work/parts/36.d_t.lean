theorem dX2_init_0 : decode cX2_init 0 = .ok (.aload_n 0, 1) := by decide +kernel
theorem dX2_init_1 : decode cX2_init 1 = .ok (.invokespecial 1, 3) := by decide +kernel
theorem dX2_init_4 : decode cX2_init 4 = .ok (.aload_n 0, 1) := by decide +kernel
theorem dX2_init_5 : decode cX2_init 5 = .ok (.bipush 16, 2) := by decide +kernel
theorem dX2_init_7 : decode cX2_init 7 = .ok (.anewarray 9, 3) := by decide +kernel
theorem dX2_init_10 : decode cX2_init 10 = .ok (.putfield 11, 3) := by decide +kernel
theorem dX2_init_13 : decode cX2_init 13 = .ok (.iconst 0, 1) := by decide +kernel
theorem dX2_init_14 : decode cX2_init 14 = .ok (.istore_n 1, 1) := by decide +kernel
theorem dX2_init_15 : decode cX2_init 15 = .ok (.iload_n 1, 1) := by decide +kernel
theorem dX2_init_16 : decode cX2_init 16 = .ok (.bipush 16, 2) := by decide +kernel
theorem dX2_init_18 : decode cX2_init 18 = .ok (.if_icmp .ge 22, 3) := by decide +kernel
theorem dX2_init_21 : decode cX2_init 21 = .ok (.aload_n 0, 1) := by decide +kernel
theorem dX2_init_22 : decode cX2_init 22 = .ok (.getfield 11, 3) := by decide +kernel
theorem dX2_init_25 : decode cX2_init 25 = .ok (.iload_n 1, 1) := by decide +kernel
theorem dX2_init_26 : decode cX2_init 26 = .ok (.new 9, 3) := by decide +kernel
theorem dX2_init_29 : decode cX2_init 29 = .ok (.dup, 1) := by decide +kernel
theorem dX2_init_30 : decode cX2_init 30 = .ok (.invokespecial 15, 3) := by decide +kernel
theorem dX2_init_33 : decode cX2_init 33 = .ok (.aastore, 1) := by decide +kernel
theorem dX2_init_34 : decode cX2_init 34 = .ok (.iinc 1 1, 3) := by decide +kernel
theorem dX2_init_37 : decode cX2_init 37 = .ok (.goto (-22), 3) := by decide +kernel
theorem dX2_init_40 : decode cX2_init 40 = .ok (.aload_n 0, 1) := by decide +kernel
theorem dX2_init_41 : decode cX2_init 41 = .ok (.new 16, 3) := by decide +kernel
theorem dX2_init_44 : decode cX2_init 44 = .ok (.dup, 1) := by decide +kernel
theorem dX2_init_45 : decode cX2_init 45 = .ok (.invokespecial 18, 3) := by decide +kernel
theorem dX2_init_48 : decode cX2_init 48 = .ok (.putfield 19, 3) := by decide +kernel
theorem dX2_init_51 : decode cX2_init 51 = .ok (.aload_n 0, 1) := by decide +kernel
theorem dX2_init_52 : decode cX2_init 52 = .ok (.bipush 60, 2) := by decide +kernel
theorem dX2_init_54 : decode cX2_init 54 = .ok (.newarray .int, 2) := by decide +kernel
theorem dX2_init_56 : decode cX2_init 56 = .ok (.putfield 23, 3) := by decide +kernel
theorem dX2_init_59 : decode cX2_init 59 = .ok (.aload_n 0, 1) := by decide +kernel
theorem dX2_init_60 : decode cX2_init 60 = .ok (.iconst 4, 1) := by decide +kernel
theorem dX2_init_61 : decode cX2_init 61 = .ok (.invokevirtual 27, 3) := by decide +kernel
theorem dX2_init_64 : decode cX2_init 64 = .ok (.return_, 1) := by decide +kernel
theorem dX2_cards_0 : decode cX2_cards 0 = .ok (.iload_n 1, 1) := by decide +kernel
theorem dX2_cards_1 : decode cX2_cards 1 = .ok (.iconst 1, 1) := by decide +kernel
theorem dX2_cards_2 : decode cX2_cards 2 = .ok (.bipush 16, 2) := by decide +kernel
theorem dX2_cards_4 : decode cX2_cards 4 = .ok (.invokestatic 31, 3) := by decide +kernel
theorem dX2_cards_7 : decode cX2_cards 7 = .ok (.ifCond .ne 6, 3) := by decide +kernel
theorem dX2_cards_10 : decode cX2_cards 10 = .ok (.bipush (-2), 2) := by decide +kernel
theorem dX2_cards_12 : decode cX2_cards 12 = .ok (.ireturn, 1) := by decide +kernel
theorem dX2_cards_13 : decode cX2_cards 13 = .ok (.aload_n 0, 1) := by decide +kernel
theorem dX2_cards_14 : decode cX2_cards 14 = .ok (.getfield 35, 3) := by decide +kernel
theorem dX2_cards_17 : decode cX2_cards 17 = .ok (.istore_n 2, 1) := by decide +kernel
theorem dX2_cards_18 : decode cX2_cards 18 = .ok (.aload_n 0, 1) := by decide +kernel
theorem dX2_cards_19 : decode cX2_cards 19 = .ok (.iload_n 1, 1) := by decide +kernel
theorem dX2_cards_20 : decode cX2_cards 20 = .ok (.invokevirtual 27, 3) := by decide +kernel
theorem dX2_cards_23 : decode cX2_cards 23 = .ok (.iload_n 2, 1) := by decide +kernel
theorem dX2_cards_24 : decode cX2_cards 24 = .ok (.ireturn, 1) := by decide +kernel
theorem dX2_thread_0 : decode cX2_thread 0 = .ok (.aload_n 0, 1) := by decide +kernel
theorem dX2_thread_1 : decode cX2_thread 1 = .ok (.iload_n 1, 1) := by decide +kernel
theorem dX2_thread_2 : decode cX2_thread 2 = .ok (.invokevirtual 39, 3) := by decide +kernel
theorem dX2_thread_5 : decode cX2_thread 5 = .ok (.ifCond .eq 10, 3) := by decide +kernel
theorem dX2_thread_8 : decode cX2_thread 8 = .ok (.iload_n 2, 1) := by decide +kernel
theorem dX2_thread_9 : decode cX2_thread 9 = .ok (.invokestatic 43, 3) := by decide +kernel
theorem dX2_thread_12 : decode cX2_thread 12 = .ok (.ifCond .ne 5, 3) := by decide +kernel
theorem dX2_thread_15 : decode cX2_thread 15 = .ok (.iconst (-1), 1) := by decide +kernel
theorem dX2_thread_16 : decode cX2_thread 16 = .ok (.ireturn, 1) := by decide +kernel
theorem dX2_thread_17 : decode cX2_thread 17 = .ok (.iload_n 3, 1) := by decide +kernel
theorem dX2_thread_18 : decode cX2_thread 18 = .ok (.invokestatic 46, 3) := by decide +kernel
theorem dX2_thread_21 : decode cX2_thread 21 = .ok (.ifCond .ne 6, 3) := by decide +kernel
theorem dX2_thread_24 : decode cX2_thread 24 = .ok (.bipush (-2), 2) := by decide +kernel
theorem dX2_thread_26 : decode cX2_thread 26 = .ok (.ireturn, 1) := by decide +kernel
theorem dX2_thread_27 : decode cX2_thread 27 = .ok (.aload_n 0, 1) := by decide +kernel
theorem dX2_thread_28 : decode cX2_thread 28 = .ok (.getfield 49, 3) := by decide +kernel
theorem dX2_thread_31 : decode cX2_thread 31 = .ok (.ifCond .le 6, 3) := by decide +kernel
theorem dX2_thread_34 : decode cX2_thread 34 = .ok (.bipush (-3), 2) := by decide +kernel
theorem dX2_thread_36 : decode cX2_thread 36 = .ok (.ireturn, 1) := by decide +kernel
theorem dX2_thread_37 : decode cX2_thread 37 = .ok (.aload_n 0, 1) := by decide +kernel
theorem dX2_thread_38 : decode cX2_thread 38 = .ok (.getfield 11, 3) := by decide +kernel
theorem dX2_thread_41 : decode cX2_thread 41 = .ok (.iload_n 1, 1) := by decide +kernel
theorem dX2_thread_42 : decode cX2_thread 42 = .ok (.aaload, 1) := by decide +kernel
theorem dX2_thread_43 : decode cX2_thread 43 = .ok (.astore 4, 2) := by decide +kernel
theorem dX2_thread_45 : decode cX2_thread 45 = .ok (.aload 4, 2) := by decide +kernel
theorem dX2_thread_47 : decode cX2_thread 47 = .ok (.getfield 52, 3) := by decide +kernel
theorem dX2_thread_50 : decode cX2_thread 50 = .ok (.iload_n 2, 1) := by decide +kernel
theorem dX2_thread_51 : decode cX2_thread 51 = .ok (.iaload, 1) := by decide +kernel
theorem dX2_thread_52 : decode cX2_thread 52 = .ok (.istore 5, 2) := by decide +kernel
theorem dX2_thread_54 : decode cX2_thread 54 = .ok (.aload 4, 2) := by decide +kernel
theorem dX2_thread_56 : decode cX2_thread 56 = .ok (.getfield 52, 3) := by decide +kernel
theorem dX2_thread_59 : decode cX2_thread 59 = .ok (.iload_n 2, 1) := by decide +kernel
theorem dX2_thread_60 : decode cX2_thread 60 = .ok (.iload_n 3, 1) := by decide +kernel
theorem dX2_thread_61 : decode cX2_thread 61 = .ok (.iastore, 1) := by decide +kernel
theorem dX2_thread_62 : decode cX2_thread 62 = .ok (.aload 4, 2) := by decide +kernel
theorem dX2_thread_64 : decode cX2_thread 64 = .ok (.iconst 0, 1) := by decide +kernel
theorem dX2_thread_65 : decode cX2_thread 65 = .ok (.putfield 55, 3) := by decide +kernel
theorem dX2_thread_68 : decode cX2_thread 68 = .ok (.iload 5, 2) := by decide +kernel
theorem dX2_thread_70 : decode cX2_thread 70 = .ok (.ireturn, 1) := by decide +kernel
theorem dX2_way_0 : decode cX2_way 0 = .ok (.aload_n 0, 1) := by decide +kernel
theorem dX2_way_1 : decode cX2_way 1 = .ok (.iload_n 1, 1) := by decide +kernel
theorem dX2_way_2 : decode cX2_way 2 = .ok (.invokevirtual 39, 3) := by decide +kernel
theorem dX2_way_5 : decode cX2_way 5 = .ok (.ifCond .ne 5, 3) := by decide +kernel
theorem dX2_way_8 : decode cX2_way 8 = .ok (.iconst (-1), 1) := by decide +kernel
theorem dX2_way_9 : decode cX2_way 9 = .ok (.ireturn, 1) := by decide +kernel
theorem dX2_way_10 : decode cX2_way 10 = .ok (.iload_n 2, 1) := by decide +kernel
theorem dX2_way_11 : decode cX2_way 11 = .ok (.iconst 0, 1) := by decide +kernel
theorem dX2_way_12 : decode cX2_way 12 = .ok (.iconst 1, 1) := by decide +kernel
theorem dX2_way_13 : decode cX2_way 13 = .ok (.invokestatic 31, 3) := by decide +kernel
theorem dX2_way_16 : decode cX2_way 16 = .ok (.ifCond .ne 6, 3) := by decide +kernel
theorem dX2_way_19 : decode cX2_way 19 = .ok (.bipush (-2), 2) := by decide +kernel
theorem dX2_way_21 : decode cX2_way 21 = .ok (.ireturn, 1) := by decide +kernel
theorem dX2_way_22 : decode cX2_way 22 = .ok (.aload_n 0, 1) := by decide +kernel
theorem dX2_way_23 : decode cX2_way 23 = .ok (.getfield 49, 3) := by decide +kernel
theorem dX2_way_26 : decode cX2_way 26 = .ok (.ifCond .le 6, 3) := by decide +kernel
theorem dX2_way_29 : decode cX2_way 29 = .ok (.bipush (-3), 2) := by decide +kernel
theorem dX2_way_31 : decode cX2_way 31 = .ok (.ireturn, 1) := by decide +kernel
theorem dX2_way_32 : decode cX2_way 32 = .ok (.aload_n 0, 1) := by decide +kernel
theorem dX2_way_33 : decode cX2_way 33 = .ok (.getfield 11, 3) := by decide +kernel
theorem dX2_way_36 : decode cX2_way 36 = .ok (.iload_n 1, 1) := by decide +kernel
theorem dX2_way_37 : decode cX2_way 37 = .ok (.aaload, 1) := by decide +kernel
theorem dX2_way_38 : decode cX2_way 38 = .ok (.astore_n 3, 1) := by decide +kernel
theorem dX2_way_39 : decode cX2_way 39 = .ok (.aload_n 3, 1) := by decide +kernel
theorem dX2_way_40 : decode cX2_way 40 = .ok (.getfield 59, 3) := by decide +kernel
theorem dX2_way_43 : decode cX2_way 43 = .ok (.istore 4, 2) := by decide +kernel
theorem dX2_way_45 : decode cX2_way 45 = .ok (.aload_n 3, 1) := by decide +kernel
theorem dX2_way_46 : decode cX2_way 46 = .ok (.iload_n 2, 1) := by decide +kernel
theorem dX2_way_47 : decode cX2_way 47 = .ok (.putfield 59, 3) := by decide +kernel
theorem dX2_way_50 : decode cX2_way 50 = .ok (.aload_n 3, 1) := by decide +kernel
theorem dX2_way_51 : decode cX2_way 51 = .ok (.iconst 0, 1) := by decide +kernel
theorem dX2_way_52 : decode cX2_way 52 = .ok (.putfield 55, 3) := by decide +kernel
theorem dX2_way_55 : decode cX2_way 55 = .ok (.iload 4, 2) := by decide +kernel
theorem dX2_way_57 : decode cX2_way 57 = .ok (.ireturn, 1) := by decide +kernel
theorem dX2_flip_0 : decode cX2_flip 0 = .ok (.aload_n 0, 1) := by decide +kernel
theorem dX2_flip_1 : decode cX2_flip 1 = .ok (.iload_n 1, 1) := by decide +kernel
theorem dX2_flip_2 : decode cX2_flip 2 = .ok (.invokevirtual 39, 3) := by decide +kernel
theorem dX2_flip_5 : decode cX2_flip 5 = .ok (.ifCond .ne 5, 3) := by decide +kernel
theorem dX2_flip_8 : decode cX2_flip 8 = .ok (.iconst (-1), 1) := by decide +kernel
theorem dX2_flip_9 : decode cX2_flip 9 = .ok (.ireturn, 1) := by decide +kernel
theorem dX2_flip_10 : decode cX2_flip 10 = .ok (.aload_n 0, 1) := by decide +kernel
theorem dX2_flip_11 : decode cX2_flip 11 = .ok (.getfield 11, 3) := by decide +kernel
theorem dX2_flip_14 : decode cX2_flip 14 = .ok (.iload_n 1, 1) := by decide +kernel
theorem dX2_flip_15 : decode cX2_flip 15 = .ok (.aaload, 1) := by decide +kernel
theorem dX2_flip_16 : decode cX2_flip 16 = .ok (.astore_n 2, 1) := by decide +kernel
theorem dX2_flip_17 : decode cX2_flip 17 = .ok (.aload_n 2, 1) := by decide +kernel
theorem dX2_flip_18 : decode cX2_flip 18 = .ok (.invokevirtual 62, 3) := by decide +kernel
theorem dX2_flip_21 : decode cX2_flip 21 = .ok (.aload_n 2, 1) := by decide +kernel
theorem dX2_flip_22 : decode cX2_flip 22 = .ok (.dup, 1) := by decide +kernel
theorem dX2_flip_23 : decode cX2_flip 23 = .ok (.getfield 65, 3) := by decide +kernel
theorem dX2_flip_26 : decode cX2_flip 26 = .ok (.iconst 1, 1) := by decide +kernel
theorem dX2_flip_27 : decode cX2_flip 27 = .ok (.iadd, 1) := by decide +kernel
theorem dX2_flip_28 : decode cX2_flip 28 = .ok (.putfield 65, 3) := by decide +kernel
theorem dX2_flip_31 : decode cX2_flip 31 = .ok (.aload_n 2, 1) := by decide +kernel
theorem dX2_flip_32 : decode cX2_flip 32 = .ok (.getfield 59, 3) := by decide +kernel
theorem dX2_flip_35 : decode cX2_flip 35 = .ok (.ireturn, 1) := by decide +kernel
theorem dX2_pack_0 : decode cX2_pack 0 = .ok (.aload_n 0, 1) := by decide +kernel
theorem dX2_pack_1 : decode cX2_pack 1 = .ok (.iload_n 1, 1) := by decide +kernel
theorem dX2_pack_2 : decode cX2_pack 2 = .ok (.invokevirtual 39, 3) := by decide +kernel
theorem dX2_pack_5 : decode cX2_pack 5 = .ok (.ifCond .eq 10, 3) := by decide +kernel
theorem dX2_pack_8 : decode cX2_pack 8 = .ok (.iload_n 2, 1) := by decide +kernel
theorem dX2_pack_9 : decode cX2_pack 9 = .ok (.invokestatic 68, 3) := by decide +kernel
theorem dX2_pack_12 : decode cX2_pack 12 = .ok (.ifCond .ne 5, 3) := by decide +kernel
theorem dX2_pack_15 : decode cX2_pack 15 = .ok (.iconst (-1), 1) := by decide +kernel
theorem dX2_pack_16 : decode cX2_pack 16 = .ok (.ireturn, 1) := by decide +kernel
theorem dX2_pack_17 : decode cX2_pack 17 = .ok (.aload_n 0, 1) := by decide +kernel
theorem dX2_pack_18 : decode cX2_pack 18 = .ok (.getfield 11, 3) := by decide +kernel
theorem dX2_pack_21 : decode cX2_pack 21 = .ok (.iload_n 1, 1) := by decide +kernel
theorem dX2_pack_22 : decode cX2_pack 22 = .ok (.aaload, 1) := by decide +kernel
theorem dX2_pack_23 : decode cX2_pack 23 = .ok (.getfield 71, 3) := by decide +kernel
theorem dX2_pack_26 : decode cX2_pack 26 = .ok (.istore_n 3, 1) := by decide +kernel
theorem dX2_pack_27 : decode cX2_pack 27 = .ok (.aload_n 0, 1) := by decide +kernel
theorem dX2_pack_28 : decode cX2_pack 28 = .ok (.getfield 11, 3) := by decide +kernel
theorem dX2_pack_31 : decode cX2_pack 31 = .ok (.iload_n 1, 1) := by decide +kernel
theorem dX2_pack_32 : decode cX2_pack 32 = .ok (.aaload, 1) := by decide +kernel
theorem dX2_pack_33 : decode cX2_pack 33 = .ok (.iload_n 2, 1) := by decide +kernel
theorem dX2_pack_34 : decode cX2_pack 34 = .ok (.putfield 71, 3) := by decide +kernel
theorem dX2_pack_37 : decode cX2_pack 37 = .ok (.iload_n 3, 1) := by decide +kernel
theorem dX2_pack_38 : decode cX2_pack 38 = .ok (.ireturn, 1) := by decide +kernel
theorem dX2_about_0 : decode cX2_about 0 = .ok (.aload_n 0, 1) := by decide +kernel
theorem dX2_about_1 : decode cX2_about 1 = .ok (.iload_n 1, 1) := by decide +kernel
theorem dX2_about_2 : decode cX2_about 2 = .ok (.invokevirtual 39, 3) := by decide +kernel
theorem dX2_about_5 : decode cX2_about 5 = .ok (.ifCond .ne 5, 3) := by decide +kernel
theorem dX2_about_8 : decode cX2_about 8 = .ok (.iconst (-1), 1) := by decide +kernel
theorem dX2_about_9 : decode cX2_about 9 = .ok (.ireturn, 1) := by decide +kernel
theorem dX2_about_10 : decode cX2_about 10 = .ok (.aload_n 0, 1) := by decide +kernel
theorem dX2_about_11 : decode cX2_about 11 = .ok (.getfield 11, 3) := by decide +kernel
theorem dX2_about_14 : decode cX2_about 14 = .ok (.iload_n 1, 1) := by decide +kernel
theorem dX2_about_15 : decode cX2_about 15 = .ok (.aaload, 1) := by decide +kernel
theorem dX2_about_16 : decode cX2_about 16 = .ok (.astore_n 3, 1) := by decide +kernel
theorem dX2_about_17 : decode cX2_about 17 = .ok (.iload_n 2, 1) := by decide +kernel
theorem dX2_about_18 : decode cX2_about 18 = .ok (.tableswitch 66 0 4 #[34, 39, 44, 52, 61], 34) := by decide +kernel
theorem dX2_about_52 : decode cX2_about 52 = .ok (.aload_n 3, 1) := by decide +kernel
theorem dX2_about_53 : decode cX2_about 53 = .ok (.getfield 59, 3) := by decide +kernel
theorem dX2_about_56 : decode cX2_about 56 = .ok (.ireturn, 1) := by decide +kernel
theorem dX2_about_57 : decode cX2_about 57 = .ok (.aload_n 3, 1) := by decide +kernel
theorem dX2_about_58 : decode cX2_about 58 = .ok (.getfield 71, 3) := by decide +kernel
theorem dX2_about_61 : decode cX2_about 61 = .ok (.ireturn, 1) := by decide +kernel
theorem dX2_about_62 : decode cX2_about 62 = .ok (.aload_n 3, 1) := by decide +kernel
theorem dX2_about_63 : decode cX2_about 63 = .ok (.getfield 74, 3) := by decide +kernel
theorem dX2_about_66 : decode cX2_about 66 = .ok (.bipush 100, 2) := by decide +kernel
theorem dX2_about_68 : decode cX2_about 68 = .ok (.iadd, 1) := by decide +kernel
theorem dX2_about_69 : decode cX2_about 69 = .ok (.ireturn, 1) := by decide +kernel
theorem dX2_about_70 : decode cX2_about 70 = .ok (.aload_n 3, 1) := by decide +kernel
theorem dX2_about_71 : decode cX2_about 71 = .ok (.aload_n 0, 1) := by decide +kernel
theorem dX2_about_72 : decode cX2_about 72 = .ok (.getfield 49, 3) := by decide +kernel
theorem dX2_about_75 : decode cX2_about 75 = .ok (.invokevirtual 77, 3) := by decide +kernel
theorem dX2_about_78 : decode cX2_about 78 = .ok (.ireturn, 1) := by decide +kernel
theorem dX2_about_79 : decode cX2_about 79 = .ok (.aload_n 3, 1) := by decide +kernel
theorem dX2_about_80 : decode cX2_about 80 = .ok (.getfield 65, 3) := by decide +kernel
theorem dX2_about_83 : decode cX2_about 83 = .ok (.ireturn, 1) := by decide +kernel
theorem dX2_about_84 : decode cX2_about 84 = .ok (.bipush (-2), 2) := by decide +kernel
theorem dX2_about_86 : decode cX2_about 86 = .ok (.ireturn, 1) := by decide +kernel
theorem dX2_at_0 : decode cX2_at 0 = .ok (.aload_n 0, 1) := by decide +kernel
theorem dX2_at_1 : decode cX2_at 1 = .ok (.iload_n 1, 1) := by decide +kernel
theorem dX2_at_2 : decode cX2_at 2 = .ok (.invokevirtual 39, 3) := by decide +kernel
theorem dX2_at_5 : decode cX2_at 5 = .ok (.ifCond .ne 5, 3) := by decide +kernel
theorem dX2_at_8 : decode cX2_at 8 = .ok (.iconst (-1), 1) := by decide +kernel
theorem dX2_at_9 : decode cX2_at 9 = .ok (.ireturn, 1) := by decide +kernel
theorem dX2_at_10 : decode cX2_at 10 = .ok (.iload_n 2, 1) := by decide +kernel
theorem dX2_at_11 : decode cX2_at 11 = .ok (.iconst 0, 1) := by decide +kernel
theorem dX2_at_12 : decode cX2_at 12 = .ok (.iconst 3, 1) := by decide +kernel
theorem dX2_at_13 : decode cX2_at 13 = .ok (.invokestatic 31, 3) := by decide +kernel
theorem dX2_at_16 : decode cX2_at 16 = .ok (.ifCond .ne 6, 3) := by decide +kernel
theorem dX2_at_19 : decode cX2_at 19 = .ok (.bipush (-2), 2) := by decide +kernel
theorem dX2_at_21 : decode cX2_at 21 = .ok (.ireturn, 1) := by decide +kernel
theorem dX2_at_22 : decode cX2_at 22 = .ok (.aload_n 0, 1) := by decide +kernel
theorem dX2_at_23 : decode cX2_at 23 = .ok (.getfield 11, 3) := by decide +kernel
theorem dX2_at_26 : decode cX2_at 26 = .ok (.iload_n 1, 1) := by decide +kernel
theorem dX2_at_27 : decode cX2_at 27 = .ok (.aaload, 1) := by decide +kernel
theorem dX2_at_28 : decode cX2_at 28 = .ok (.getfield 81, 3) := by decide +kernel
theorem dX2_at_31 : decode cX2_at 31 = .ok (.iload_n 2, 1) := by decide +kernel
theorem dX2_at_32 : decode cX2_at 32 = .ok (.iaload, 1) := by decide +kernel
theorem dX2_at_33 : decode cX2_at 33 = .ok (.ireturn, 1) := by decide +kernel
theorem dX2_pick_0 : decode cX2_pick 0 = .ok (.iconst 1, 1) := by decide +kernel
theorem dX2_pick_1 : decode cX2_pick 1 = .ok (.aload_n 0, 1) := by decide +kernel
theorem dX2_pick_2 : decode cX2_pick 2 = .ok (.getfield 35, 3) := by decide +kernel
theorem dX2_pick_5 : decode cX2_pick 5 = .ok (.ishl, 1) := by decide +kernel
theorem dX2_pick_6 : decode cX2_pick 6 = .ok (.iconst 1, 1) := by decide +kernel
theorem dX2_pick_7 : decode cX2_pick 7 = .ok (.isub, 1) := by decide +kernel
theorem dX2_pick_8 : decode cX2_pick 8 = .ok (.istore_n 3, 1) := by decide +kernel
theorem dX2_pick_9 : decode cX2_pick 9 = .ok (.iload_n 1, 1) := by decide +kernel
theorem dX2_pick_10 : decode cX2_pick 10 = .ok (.iload_n 2, 1) := by decide +kernel
theorem dX2_pick_11 : decode cX2_pick 11 = .ok (.ior, 1) := by decide +kernel
theorem dX2_pick_12 : decode cX2_pick 12 = .ok (.iload_n 3, 1) := by decide +kernel
theorem dX2_pick_13 : decode cX2_pick 13 = .ok (.iconst (-1), 1) := by decide +kernel
theorem dX2_pick_14 : decode cX2_pick 14 = .ok (.ixor, 1) := by decide +kernel
theorem dX2_pick_15 : decode cX2_pick 15 = .ok (.iand, 1) := by decide +kernel
theorem dX2_pick_16 : decode cX2_pick 16 = .ok (.ifCond .ne 9, 3) := by decide +kernel
theorem dX2_pick_19 : decode cX2_pick 19 = .ok (.iload_n 1, 1) := by decide +kernel
theorem dX2_pick_20 : decode cX2_pick 20 = .ok (.iload_n 2, 1) := by decide +kernel
theorem dX2_pick_21 : decode cX2_pick 21 = .ok (.iand, 1) := by decide +kernel
theorem dX2_pick_22 : decode cX2_pick 22 = .ok (.ifCond .eq 6, 3) := by decide +kernel
theorem dX2_pick_25 : decode cX2_pick 25 = .ok (.bipush (-2), 2) := by decide +kernel
theorem dX2_pick_27 : decode cX2_pick 27 = .ok (.ireturn, 1) := by decide +kernel
theorem dX2_pick_28 : decode cX2_pick 28 = .ok (.aload_n 0, 1) := by decide +kernel
theorem dX2_pick_29 : decode cX2_pick 29 = .ok (.getfield 49, 3) := by decide +kernel
theorem dX2_pick_32 : decode cX2_pick 32 = .ok (.bipush 60, 2) := by decide +kernel
theorem dX2_pick_34 : decode cX2_pick 34 = .ok (.if_icmp .lt 6, 3) := by decide +kernel
theorem dX2_pick_37 : decode cX2_pick 37 = .ok (.bipush (-4), 2) := by decide +kernel
theorem dX2_pick_39 : decode cX2_pick 39 = .ok (.ireturn, 1) := by decide +kernel
theorem dX2_pick_40 : decode cX2_pick 40 = .ok (.iconst 0, 1) := by decide +kernel
theorem dX2_pick_41 : decode cX2_pick 41 = .ok (.istore 4, 2) := by decide +kernel
theorem dX2_pick_43 : decode cX2_pick 43 = .ok (.iload 4, 2) := by decide +kernel
theorem dX2_pick_45 : decode cX2_pick 45 = .ok (.aload_n 0, 1) := by decide +kernel
theorem dX2_pick_46 : decode cX2_pick 46 = .ok (.getfield 35, 3) := by decide +kernel
theorem dX2_pick_49 : decode cX2_pick 49 = .ok (.if_icmp .ge 30, 3) := by decide +kernel
theorem dX2_pick_52 : decode cX2_pick 52 = .ok (.aload_n 0, 1) := by decide +kernel
theorem dX2_pick_53 : decode cX2_pick 53 = .ok (.getfield 11, 3) := by decide +kernel
theorem dX2_pick_56 : decode cX2_pick 56 = .ok (.iload 4, 2) := by decide +kernel
theorem dX2_pick_58 : decode cX2_pick 58 = .ok (.aaload, 1) := by decide +kernel
theorem dX2_pick_59 : decode cX2_pick 59 = .ok (.aload_n 0, 1) := by decide +kernel
theorem dX2_pick_60 : decode cX2_pick 60 = .ok (.getfield 49, 3) := by decide +kernel
theorem dX2_pick_63 : decode cX2_pick 63 = .ok (.iload_n 1, 1) := by decide +kernel
theorem dX2_pick_64 : decode cX2_pick 64 = .ok (.iload_n 2, 1) := by decide +kernel
theorem dX2_pick_65 : decode cX2_pick 65 = .ok (.iload 4, 2) := by decide +kernel
theorem dX2_pick_67 : decode cX2_pick 67 = .ok (.invokestatic 84, 3) := by decide +kernel
theorem dX2_pick_70 : decode cX2_pick 70 = .ok (.invokevirtual 88, 3) := by decide +kernel
theorem dX2_pick_73 : decode cX2_pick 73 = .ok (.iinc 4 1, 3) := by decide +kernel
theorem dX2_pick_76 : decode cX2_pick 76 = .ok (.goto (-33), 3) := by decide +kernel
theorem dX2_pick_79 : decode cX2_pick 79 = .ok (.aload_n 0, 1) := by decide +kernel
theorem dX2_pick_80 : decode cX2_pick 80 = .ok (.dup, 1) := by decide +kernel
theorem dX2_pick_81 : decode cX2_pick 81 = .ok (.getfield 49, 3) := by decide +kernel
theorem dX2_pick_84 : decode cX2_pick 84 = .ok (.iconst 1, 1) := by decide +kernel
theorem dX2_pick_85 : decode cX2_pick 85 = .ok (.iadd, 1) := by decide +kernel
theorem dX2_pick_86 : decode cX2_pick 86 = .ok (.putfield 49, 3) := by decide +kernel
theorem dX2_pick_89 : decode cX2_pick 89 = .ok (.aload_n 0, 1) := by decide +kernel
theorem dX2_pick_90 : decode cX2_pick 90 = .ok (.getfield 49, 3) := by decide +kernel
theorem dX2_pick_93 : decode cX2_pick 93 = .ok (.ireturn, 1) := by decide +kernel
theorem dX2_packs_0 : decode cX2_packs 0 = .ok (.iload_n 1, 1) := by decide +kernel
theorem dX2_packs_1 : decode cX2_packs 1 = .ok (.invokestatic 92, 3) := by decide +kernel
theorem dX2_packs_4 : decode cX2_packs 4 = .ok (.ifCond .eq 25, 3) := by decide +kernel
theorem dX2_packs_7 : decode cX2_packs 7 = .ok (.iload_n 2, 1) := by decide +kernel
theorem dX2_packs_8 : decode cX2_packs 8 = .ok (.invokestatic 92, 3) := by decide +kernel
theorem dX2_packs_11 : decode cX2_packs 11 = .ok (.ifCond .eq 18, 3) := by decide +kernel
theorem dX2_packs_14 : decode cX2_packs 14 = .ok (.iload_n 3, 1) := by decide +kernel
theorem dX2_packs_15 : decode cX2_packs 15 = .ok (.invokestatic 92, 3) := by decide +kernel
theorem dX2_packs_18 : decode cX2_packs 18 = .ok (.ifCond .eq 11, 3) := by decide +kernel
theorem dX2_packs_21 : decode cX2_packs 21 = .ok (.iload 4, 2) := by decide +kernel
theorem dX2_packs_23 : decode cX2_packs 23 = .ok (.invokestatic 92, 3) := by decide +kernel
theorem dX2_packs_26 : decode cX2_packs 26 = .ok (.ifCond .ne 6, 3) := by decide +kernel
theorem dX2_packs_29 : decode cX2_packs 29 = .ok (.bipush (-2), 2) := by decide +kernel
theorem dX2_packs_31 : decode cX2_packs 31 = .ok (.ireturn, 1) := by decide +kernel
theorem dX2_packs_32 : decode cX2_packs 32 = .ok (.aload_n 0, 1) := by decide +kernel
theorem dX2_packs_33 : decode cX2_packs 33 = .ok (.getfield 49, 3) := by decide +kernel
theorem dX2_packs_36 : decode cX2_packs 36 = .ok (.bipush 60, 2) := by decide +kernel
theorem dX2_packs_38 : decode cX2_packs 38 = .ok (.if_icmp .lt 6, 3) := by decide +kernel
theorem dX2_packs_41 : decode cX2_packs 41 = .ok (.bipush (-4), 2) := by decide +kernel
theorem dX2_packs_43 : decode cX2_packs 43 = .ok (.ireturn, 1) := by decide +kernel
theorem dX2_packs_44 : decode cX2_packs 44 = .ok (.iconst 0, 1) := by decide +kernel
theorem dX2_packs_45 : decode cX2_packs 45 = .ok (.istore 5, 2) := by decide +kernel
theorem dX2_packs_47 : decode cX2_packs 47 = .ok (.iload 5, 2) := by decide +kernel
theorem dX2_packs_49 : decode cX2_packs 49 = .ok (.aload_n 0, 1) := by decide +kernel
theorem dX2_packs_50 : decode cX2_packs 50 = .ok (.getfield 35, 3) := by decide +kernel
theorem dX2_packs_53 : decode cX2_packs 53 = .ok (.if_icmp .ge 41, 3) := by decide +kernel
theorem dX2_packs_56 : decode cX2_packs 56 = .ok (.aload_n 0, 1) := by decide +kernel
theorem dX2_packs_57 : decode cX2_packs 57 = .ok (.getfield 11, 3) := by decide +kernel
theorem dX2_packs_60 : decode cX2_packs 60 = .ok (.iload 5, 2) := by decide +kernel
theorem dX2_packs_62 : decode cX2_packs 62 = .ok (.aaload, 1) := by decide +kernel
theorem dX2_packs_63 : decode cX2_packs 63 = .ok (.aload_n 0, 1) := by decide +kernel
theorem dX2_packs_64 : decode cX2_packs 64 = .ok (.getfield 49, 3) := by decide +kernel
theorem dX2_packs_67 : decode cX2_packs 67 = .ok (.aload_n 0, 1) := by decide +kernel
theorem dX2_packs_68 : decode cX2_packs 68 = .ok (.getfield 11, 3) := by decide +kernel
theorem dX2_packs_71 : decode cX2_packs 71 = .ok (.iload 5, 2) := by decide +kernel
theorem dX2_packs_73 : decode cX2_packs 73 = .ok (.aaload, 1) := by decide +kernel
theorem dX2_packs_74 : decode cX2_packs 74 = .ok (.getfield 71, 3) := by decide +kernel
theorem dX2_packs_77 : decode cX2_packs 77 = .ok (.iload_n 1, 1) := by decide +kernel
theorem dX2_packs_78 : decode cX2_packs 78 = .ok (.iload_n 2, 1) := by decide +kernel
theorem dX2_packs_79 : decode cX2_packs 79 = .ok (.iload_n 3, 1) := by decide +kernel
theorem dX2_packs_80 : decode cX2_packs 80 = .ok (.iload 4, 2) := by decide +kernel
theorem dX2_packs_82 : decode cX2_packs 82 = .ok (.invokestatic 95, 3) := by decide +kernel
theorem dX2_packs_85 : decode cX2_packs 85 = .ok (.invokevirtual 88, 3) := by decide +kernel
theorem dX2_packs_88 : decode cX2_packs 88 = .ok (.iinc 5 1, 3) := by decide +kernel
theorem dX2_packs_91 : decode cX2_packs 91 = .ok (.goto (-44), 3) := by decide +kernel
theorem dX2_packs_94 : decode cX2_packs 94 = .ok (.aload_n 0, 1) := by decide +kernel
theorem dX2_packs_95 : decode cX2_packs 95 = .ok (.dup, 1) := by decide +kernel
theorem dX2_packs_96 : decode cX2_packs 96 = .ok (.getfield 49, 3) := by decide +kernel
theorem dX2_packs_99 : decode cX2_packs 99 = .ok (.iconst 1, 1) := by decide +kernel
theorem dX2_packs_100 : decode cX2_packs 100 = .ok (.iadd, 1) := by decide +kernel
theorem dX2_packs_101 : decode cX2_packs 101 = .ok (.putfield 49, 3) := by decide +kernel
theorem dX2_packs_104 : decode cX2_packs 104 = .ok (.aload_n 0, 1) := by decide +kernel
theorem dX2_packs_105 : decode cX2_packs 105 = .ok (.getfield 49, 3) := by decide +kernel
theorem dX2_packs_108 : decode cX2_packs 108 = .ok (.ireturn, 1) := by decide +kernel
theorem dX2_unweave_0 : decode cX2_unweave 0 = .ok (.aload_n 0, 1) := by decide +kernel
theorem dX2_unweave_1 : decode cX2_unweave 1 = .ok (.getfield 49, 3) := by decide +kernel
theorem dX2_unweave_4 : decode cX2_unweave 4 = .ok (.ifCond .gt 6, 3) := by decide +kernel
theorem dX2_unweave_7 : decode cX2_unweave 7 = .ok (.bipush (-3), 2) := by decide +kernel
theorem dX2_unweave_9 : decode cX2_unweave 9 = .ok (.ireturn, 1) := by decide +kernel
theorem dX2_unweave_10 : decode cX2_unweave 10 = .ok (.aload_n 0, 1) := by decide +kernel
theorem dX2_unweave_11 : decode cX2_unweave 11 = .ok (.dup, 1) := by decide +kernel
theorem dX2_unweave_12 : decode cX2_unweave 12 = .ok (.getfield 49, 3) := by decide +kernel
theorem dX2_unweave_15 : decode cX2_unweave 15 = .ok (.iconst 1, 1) := by decide +kernel
theorem dX2_unweave_16 : decode cX2_unweave 16 = .ok (.isub, 1) := by decide +kernel
theorem dX2_unweave_17 : decode cX2_unweave 17 = .ok (.putfield 49, 3) := by decide +kernel
theorem dX2_unweave_20 : decode cX2_unweave 20 = .ok (.iconst 0, 1) := by decide +kernel
theorem dX2_unweave_21 : decode cX2_unweave 21 = .ok (.istore_n 1, 1) := by decide +kernel
theorem dX2_unweave_22 : decode cX2_unweave 22 = .ok (.iload_n 1, 1) := by decide +kernel
theorem dX2_unweave_23 : decode cX2_unweave 23 = .ok (.aload_n 0, 1) := by decide +kernel
theorem dX2_unweave_24 : decode cX2_unweave 24 = .ok (.getfield 35, 3) := by decide +kernel
theorem dX2_unweave_27 : decode cX2_unweave 27 = .ok (.if_icmp .ge 22, 3) := by decide +kernel
theorem dX2_unweave_30 : decode cX2_unweave 30 = .ok (.aload_n 0, 1) := by decide +kernel
theorem dX2_unweave_31 : decode cX2_unweave 31 = .ok (.getfield 11, 3) := by decide +kernel
theorem dX2_unweave_34 : decode cX2_unweave 34 = .ok (.iload_n 1, 1) := by decide +kernel
theorem dX2_unweave_35 : decode cX2_unweave 35 = .ok (.aaload, 1) := by decide +kernel
theorem dX2_unweave_36 : decode cX2_unweave 36 = .ok (.aload_n 0, 1) := by decide +kernel
theorem dX2_unweave_37 : decode cX2_unweave 37 = .ok (.getfield 49, 3) := by decide +kernel
theorem dX2_unweave_40 : decode cX2_unweave 40 = .ok (.invokevirtual 99, 3) := by decide +kernel
theorem dX2_unweave_43 : decode cX2_unweave 43 = .ok (.iinc 1 1, 3) := by decide +kernel
theorem dX2_unweave_46 : decode cX2_unweave 46 = .ok (.goto (-24), 3) := by decide +kernel
theorem dX2_unweave_49 : decode cX2_unweave 49 = .ok (.aload_n 0, 1) := by decide +kernel
theorem dX2_unweave_50 : decode cX2_unweave 50 = .ok (.getfield 49, 3) := by decide +kernel
theorem dX2_unweave_53 : decode cX2_unweave 53 = .ok (.ireturn, 1) := by decide +kernel
theorem dX2_turn_0 : decode cX2_turn 0 = .ok (.aload_n 0, 1) := by decide +kernel
theorem dX2_turn_1 : decode cX2_turn 1 = .ok (.iload_n 1, 1) := by decide +kernel
theorem dX2_turn_2 : decode cX2_turn 2 = .ok (.invokevirtual 102, 3) := by decide +kernel
theorem dX2_turn_5 : decode cX2_turn 5 = .ok (.ifCond .eq 11, 3) := by decide +kernel
theorem dX2_turn_8 : decode cX2_turn 8 = .ok (.aload_n 0, 1) := by decide +kernel
theorem dX2_turn_9 : decode cX2_turn 9 = .ok (.iload_n 2, 1) := by decide +kernel
theorem dX2_turn_10 : decode cX2_turn 10 = .ok (.invokevirtual 39, 3) := by decide +kernel
theorem dX2_turn_13 : decode cX2_turn 13 = .ok (.ifCond .ne 5, 3) := by decide +kernel
theorem dX2_turn_16 : decode cX2_turn 16 = .ok (.iconst (-1), 1) := by decide +kernel
theorem dX2_turn_17 : decode cX2_turn 17 = .ok (.ireturn, 1) := by decide +kernel
theorem dX2_turn_18 : decode cX2_turn 18 = .ok (.aload_n 0, 1) := by decide +kernel
theorem dX2_turn_19 : decode cX2_turn 19 = .ok (.getfield 11, 3) := by decide +kernel
theorem dX2_turn_22 : decode cX2_turn 22 = .ok (.iload_n 2, 1) := by decide +kernel
theorem dX2_turn_23 : decode cX2_turn 23 = .ok (.aaload, 1) := by decide +kernel
theorem dX2_turn_24 : decode cX2_turn 24 = .ok (.getfield 105, 3) := by decide +kernel
theorem dX2_turn_27 : decode cX2_turn 27 = .ok (.iload_n 1, 1) := by decide +kernel
theorem dX2_turn_28 : decode cX2_turn 28 = .ok (.iaload, 1) := by decide +kernel
theorem dX2_turn_29 : decode cX2_turn 29 = .ok (.ireturn, 1) := by decide +kernel
theorem dX2_shows_0 : decode cX2_shows 0 = .ok (.aload_n 0, 1) := by decide +kernel
theorem dX2_shows_1 : decode cX2_shows 1 = .ok (.iload_n 1, 1) := by decide +kernel
theorem dX2_shows_2 : decode cX2_shows 2 = .ok (.invokevirtual 102, 3) := by decide +kernel
theorem dX2_shows_5 : decode cX2_shows 5 = .ok (.ifCond .eq 11, 3) := by decide +kernel
theorem dX2_shows_8 : decode cX2_shows 8 = .ok (.aload_n 0, 1) := by decide +kernel
theorem dX2_shows_9 : decode cX2_shows 9 = .ok (.iload_n 2, 1) := by decide +kernel
theorem dX2_shows_10 : decode cX2_shows 10 = .ok (.invokevirtual 39, 3) := by decide +kernel
theorem dX2_shows_13 : decode cX2_shows 13 = .ok (.ifCond .ne 5, 3) := by decide +kernel
theorem dX2_shows_16 : decode cX2_shows 16 = .ok (.iconst (-1), 1) := by decide +kernel
theorem dX2_shows_17 : decode cX2_shows 17 = .ok (.ireturn, 1) := by decide +kernel
theorem dX2_shows_18 : decode cX2_shows 18 = .ok (.aload_n 0, 1) := by decide +kernel
theorem dX2_shows_19 : decode cX2_shows 19 = .ok (.getfield 11, 3) := by decide +kernel
theorem dX2_shows_22 : decode cX2_shows 22 = .ok (.iload_n 2, 1) := by decide +kernel
theorem dX2_shows_23 : decode cX2_shows 23 = .ok (.aaload, 1) := by decide +kernel
theorem dX2_shows_24 : decode cX2_shows 24 = .ok (.iload_n 1, 1) := by decide +kernel
theorem dX2_shows_25 : decode cX2_shows 25 = .ok (.iload_n 3, 1) := by decide +kernel
theorem dX2_shows_26 : decode cX2_shows 26 = .ok (.invokevirtual 108, 3) := by decide +kernel
theorem dX2_shows_29 : decode cX2_shows 29 = .ok (.ireturn, 1) := by decide +kernel
theorem dX2_shown_0 : decode cX2_shown 0 = .ok (.aload_n 0, 1) := by decide +kernel
theorem dX2_shown_1 : decode cX2_shown 1 = .ok (.iload_n 1, 1) := by decide +kernel
theorem dX2_shown_2 : decode cX2_shown 2 = .ok (.invokevirtual 102, 3) := by decide +kernel
theorem dX2_shown_5 : decode cX2_shown 5 = .ok (.ifCond .eq 11, 3) := by decide +kernel
theorem dX2_shown_8 : decode cX2_shown 8 = .ok (.aload_n 0, 1) := by decide +kernel
theorem dX2_shown_9 : decode cX2_shown 9 = .ok (.iload_n 2, 1) := by decide +kernel
theorem dX2_shown_10 : decode cX2_shown 10 = .ok (.invokevirtual 39, 3) := by decide +kernel
theorem dX2_shown_13 : decode cX2_shown 13 = .ok (.ifCond .ne 5, 3) := by decide +kernel
theorem dX2_shown_16 : decode cX2_shown 16 = .ok (.iconst (-1), 1) := by decide +kernel
theorem dX2_shown_17 : decode cX2_shown 17 = .ok (.ireturn, 1) := by decide +kernel
theorem dX2_shown_18 : decode cX2_shown 18 = .ok (.aload_n 0, 1) := by decide +kernel
theorem dX2_shown_19 : decode cX2_shown 19 = .ok (.getfield 11, 3) := by decide +kernel
theorem dX2_shown_22 : decode cX2_shown 22 = .ok (.iload_n 2, 1) := by decide +kernel
theorem dX2_shown_23 : decode cX2_shown 23 = .ok (.aaload, 1) := by decide +kernel
theorem dX2_shown_24 : decode cX2_shown 24 = .ok (.iload_n 1, 1) := by decide +kernel
theorem dX2_shown_25 : decode cX2_shown 25 = .ok (.iload_n 3, 1) := by decide +kernel
theorem dX2_shown_26 : decode cX2_shown 26 = .ok (.invokevirtual 112, 3) := by decide +kernel
theorem dX2_shown_29 : decode cX2_shown 29 = .ok (.ireturn, 1) := by decide +kernel
theorem dX2_slant_0 : decode cX2_slant 0 = .ok (.aload_n 0, 1) := by decide +kernel
theorem dX2_slant_1 : decode cX2_slant 1 = .ok (.iload_n 1, 1) := by decide +kernel
theorem dX2_slant_2 : decode cX2_slant 2 = .ok (.invokevirtual 102, 3) := by decide +kernel
theorem dX2_slant_5 : decode cX2_slant 5 = .ok (.ifCond .eq 11, 3) := by decide +kernel
theorem dX2_slant_8 : decode cX2_slant 8 = .ok (.aload_n 0, 1) := by decide +kernel
theorem dX2_slant_9 : decode cX2_slant 9 = .ok (.iload_n 2, 1) := by decide +kernel
theorem dX2_slant_10 : decode cX2_slant 10 = .ok (.invokevirtual 39, 3) := by decide +kernel
theorem dX2_slant_13 : decode cX2_slant 13 = .ok (.ifCond .ne 5, 3) := by decide +kernel
theorem dX2_slant_16 : decode cX2_slant 16 = .ok (.iconst (-1), 1) := by decide +kernel
theorem dX2_slant_17 : decode cX2_slant 17 = .ok (.ireturn, 1) := by decide +kernel
theorem dX2_slant_18 : decode cX2_slant 18 = .ok (.aload_n 0, 1) := by decide +kernel
theorem dX2_slant_19 : decode cX2_slant 19 = .ok (.getfield 11, 3) := by decide +kernel
theorem dX2_slant_22 : decode cX2_slant 22 = .ok (.iload_n 2, 1) := by decide +kernel
theorem dX2_slant_23 : decode cX2_slant 23 = .ok (.aaload, 1) := by decide +kernel
theorem dX2_slant_24 : decode cX2_slant 24 = .ok (.getfield 115, 3) := by decide +kernel
theorem dX2_slant_27 : decode cX2_slant 27 = .ok (.iload_n 1, 1) := by decide +kernel
theorem dX2_slant_28 : decode cX2_slant 28 = .ok (.iaload, 1) := by decide +kernel
theorem dX2_slant_29 : decode cX2_slant 29 = .ok (.ireturn, 1) := by decide +kernel
theorem dX2_longest_0 : decode cX2_longest 0 = .ok (.aload_n 0, 1) := by decide +kernel
theorem dX2_longest_1 : decode cX2_longest 1 = .ok (.iload_n 1, 1) := by decide +kernel
theorem dX2_longest_2 : decode cX2_longest 2 = .ok (.invokevirtual 39, 3) := by decide +kernel
theorem dX2_longest_5 : decode cX2_longest 5 = .ok (.ifCond .ne 5, 3) := by decide +kernel
theorem dX2_longest_8 : decode cX2_longest 8 = .ok (.iconst (-1), 1) := by decide +kernel
theorem dX2_longest_9 : decode cX2_longest 9 = .ok (.ireturn, 1) := by decide +kernel
theorem dX2_longest_10 : decode cX2_longest 10 = .ok (.aload_n 0, 1) := by decide +kernel
theorem dX2_longest_11 : decode cX2_longest 11 = .ok (.getfield 11, 3) := by decide +kernel
theorem dX2_longest_14 : decode cX2_longest 14 = .ok (.iload_n 1, 1) := by decide +kernel
theorem dX2_longest_15 : decode cX2_longest 15 = .ok (.aaload, 1) := by decide +kernel
theorem dX2_longest_16 : decode cX2_longest 16 = .ok (.aload_n 0, 1) := by decide +kernel
theorem dX2_longest_17 : decode cX2_longest 17 = .ok (.getfield 49, 3) := by decide +kernel
theorem dX2_longest_20 : decode cX2_longest 20 = .ok (.invokevirtual 118, 3) := by decide +kernel
theorem dX2_longest_23 : decode cX2_longest 23 = .ok (.ireturn, 1) := by decide +kernel
theorem dX2_many_0 : decode cX2_many 0 = .ok (.aload_n 0, 1) := by decide +kernel
theorem dX2_many_1 : decode cX2_many 1 = .ok (.iload_n 1, 1) := by decide +kernel
theorem dX2_many_2 : decode cX2_many 2 = .ok (.invokevirtual 102, 3) := by decide +kernel
theorem dX2_many_5 : decode cX2_many 5 = .ok (.ifCond .ne 5, 3) := by decide +kernel
theorem dX2_many_8 : decode cX2_many 8 = .ok (.iconst (-1), 1) := by decide +kernel
theorem dX2_many_9 : decode cX2_many 9 = .ok (.ireturn, 1) := by decide +kernel
theorem dX2_many_10 : decode cX2_many 10 = .ok (.iload_n 2, 1) := by decide +kernel
theorem dX2_many_11 : decode cX2_many 11 = .ok (.invokestatic 46, 3) := by decide +kernel
theorem dX2_many_14 : decode cX2_many 14 = .ok (.ifCond .ne 6, 3) := by decide +kernel
theorem dX2_many_17 : decode cX2_many 17 = .ok (.bipush (-2), 2) := by decide +kernel
theorem dX2_many_19 : decode cX2_many 19 = .ok (.ireturn, 1) := by decide +kernel
theorem dX2_many_20 : decode cX2_many 20 = .ok (.iconst 0, 1) := by decide +kernel
theorem dX2_many_21 : decode cX2_many 21 = .ok (.istore_n 3, 1) := by decide +kernel
theorem dX2_many_22 : decode cX2_many 22 = .ok (.iconst 0, 1) := by decide +kernel
theorem dX2_many_23 : decode cX2_many 23 = .ok (.istore 4, 2) := by decide +kernel
theorem dX2_many_25 : decode cX2_many 25 = .ok (.iload 4, 2) := by decide +kernel
theorem dX2_many_27 : decode cX2_many 27 = .ok (.aload_n 0, 1) := by decide +kernel
theorem dX2_many_28 : decode cX2_many 28 = .ok (.getfield 35, 3) := by decide +kernel
theorem dX2_many_31 : decode cX2_many 31 = .ok (.if_icmp .ge 28, 3) := by decide +kernel
theorem dX2_many_34 : decode cX2_many 34 = .ok (.aload_n 0, 1) := by decide +kernel
theorem dX2_many_35 : decode cX2_many 35 = .ok (.getfield 11, 3) := by decide +kernel
theorem dX2_many_38 : decode cX2_many 38 = .ok (.iload 4, 2) := by decide +kernel
theorem dX2_many_40 : decode cX2_many 40 = .ok (.aaload, 1) := by decide +kernel
theorem dX2_many_41 : decode cX2_many 41 = .ok (.iload_n 1, 1) := by decide +kernel
theorem dX2_many_42 : decode cX2_many 42 = .ok (.iconst 0, 1) := by decide +kernel
theorem dX2_many_43 : decode cX2_many 43 = .ok (.invokevirtual 108, 3) := by decide +kernel
theorem dX2_many_46 : decode cX2_many 46 = .ok (.iload_n 2, 1) := by decide +kernel
theorem dX2_many_47 : decode cX2_many 47 = .ok (.if_icmp .ne 6, 3) := by decide +kernel
theorem dX2_many_50 : decode cX2_many 50 = .ok (.iinc 3 1, 3) := by decide +kernel
theorem dX2_many_53 : decode cX2_many 53 = .ok (.iinc 4 1, 3) := by decide +kernel
theorem dX2_many_56 : decode cX2_many 56 = .ok (.goto (-31), 3) := by decide +kernel
theorem dX2_many_59 : decode cX2_many 59 = .ok (.iload_n 3, 1) := by decide +kernel
theorem dX2_many_60 : decode cX2_many 60 = .ok (.ireturn, 1) := by decide +kernel
theorem dX2_repeat_0 : decode cX2_repeat 0 = .ok (.iconst 1, 1) := by decide +kernel
theorem dX2_repeat_1 : decode cX2_repeat 1 = .ok (.istore_n 1, 1) := by decide +kernel
theorem dX2_repeat_2 : decode cX2_repeat 2 = .ok (.iload_n 1, 1) := by decide +kernel
theorem dX2_repeat_3 : decode cX2_repeat 3 = .ok (.aload_n 0, 1) := by decide +kernel
theorem dX2_repeat_4 : decode cX2_repeat 4 = .ok (.getfield 49, 3) := by decide +kernel
theorem dX2_repeat_7 : decode cX2_repeat 7 = .ok (.if_icmp .ge 19, 3) := by decide +kernel
theorem dX2_repeat_10 : decode cX2_repeat 10 = .ok (.aload_n 0, 1) := by decide +kernel
theorem dX2_repeat_11 : decode cX2_repeat 11 = .ok (.iload_n 1, 1) := by decide +kernel
theorem dX2_repeat_12 : decode cX2_repeat 12 = .ok (.invokevirtual 121, 3) := by decide +kernel
theorem dX2_repeat_15 : decode cX2_repeat 15 = .ok (.ifCond .eq 5, 3) := by decide +kernel
theorem dX2_repeat_18 : decode cX2_repeat 18 = .ok (.iload_n 1, 1) := by decide +kernel
theorem dX2_repeat_19 : decode cX2_repeat 19 = .ok (.ireturn, 1) := by decide +kernel
theorem dX2_repeat_20 : decode cX2_repeat 20 = .ok (.iinc 1 1, 3) := by decide +kernel
theorem dX2_repeat_23 : decode cX2_repeat 23 = .ok (.goto (-21), 3) := by decide +kernel
theorem dX2_repeat_26 : decode cX2_repeat 26 = .ok (.aload_n 0, 1) := by decide +kernel
theorem dX2_repeat_27 : decode cX2_repeat 27 = .ok (.getfield 49, 3) := by decide +kernel
theorem dX2_repeat_30 : decode cX2_repeat 30 = .ok (.ireturn, 1) := by decide +kernel
theorem dX2_is_0 : decode cX2_is 0 = .ok (.iload_n 1, 1) := by decide +kernel
theorem dX2_is_1 : decode cX2_is 1 = .ok (.iconst 0, 1) := by decide +kernel
theorem dX2_is_2 : decode cX2_is 2 = .ok (.iconst 1, 1) := by decide +kernel
theorem dX2_is_3 : decode cX2_is 3 = .ok (.invokestatic 31, 3) := by decide +kernel
theorem dX2_is_6 : decode cX2_is 6 = .ok (.ifCond .ne 6, 3) := by decide +kernel
theorem dX2_is_9 : decode cX2_is 9 = .ok (.bipush (-2), 2) := by decide +kernel
theorem dX2_is_11 : decode cX2_is 11 = .ok (.ireturn, 1) := by decide +kernel
theorem dX2_is_12 : decode cX2_is 12 = .ok (.iconst 0, 1) := by decide +kernel
theorem dX2_is_13 : decode cX2_is 13 = .ok (.istore_n 2, 1) := by decide +kernel
theorem dX2_is_14 : decode cX2_is 14 = .ok (.iload_n 2, 1) := by decide +kernel
theorem dX2_is_15 : decode cX2_is 15 = .ok (.aload_n 0, 1) := by decide +kernel
theorem dX2_is_16 : decode cX2_is 16 = .ok (.getfield 49, 3) := by decide +kernel
theorem dX2_is_19 : decode cX2_is 19 = .ok (.if_icmp .ge 34, 3) := by decide +kernel
theorem dX2_is_22 : decode cX2_is 22 = .ok (.iload_n 1, 1) := by decide +kernel
theorem dX2_is_23 : decode cX2_is 23 = .ok (.ifCond .ne 14, 3) := by decide +kernel
theorem dX2_is_26 : decode cX2_is 26 = .ok (.aload_n 0, 1) := by decide +kernel
theorem dX2_is_27 : decode cX2_is 27 = .ok (.iload_n 2, 1) := by decide +kernel
theorem dX2_is_28 : decode cX2_is 28 = .ok (.invokevirtual 124, 3) := by decide +kernel
theorem dX2_is_31 : decode cX2_is 31 = .ok (.ifCond .ne 16, 3) := by decide +kernel
theorem dX2_is_34 : decode cX2_is 34 = .ok (.goto 11, 3) := by decide +kernel
theorem dX2_is_37 : decode cX2_is 37 = .ok (.aload_n 0, 1) := by decide +kernel
theorem dX2_is_38 : decode cX2_is 38 = .ok (.iload_n 2, 1) := by decide +kernel
theorem dX2_is_39 : decode cX2_is 39 = .ok (.invokevirtual 127, 3) := by decide +kernel
theorem dX2_is_42 : decode cX2_is 42 = .ok (.ifCond .ne 5, 3) := by decide +kernel
theorem dX2_is_45 : decode cX2_is 45 = .ok (.iconst 0, 1) := by decide +kernel
theorem dX2_is_46 : decode cX2_is 46 = .ok (.ireturn, 1) := by decide +kernel
theorem dX2_is_47 : decode cX2_is 47 = .ok (.iinc 2 1, 3) := by decide +kernel
theorem dX2_is_50 : decode cX2_is 50 = .ok (.goto (-36), 3) := by decide +kernel
theorem dX2_is_53 : decode cX2_is 53 = .ok (.iconst 1, 1) := by decide +kernel
theorem dX2_is_54 : decode cX2_is 54 = .ok (.ireturn, 1) := by decide +kernel
theorem dX2_rows_0 : decode cX2_rows 0 = .ok (.iconst 0, 1) := by decide +kernel
theorem dX2_rows_1 : decode cX2_rows 1 = .ok (.istore_n 1, 1) := by decide +kernel
theorem dX2_rows_2 : decode cX2_rows 2 = .ok (.iconst 0, 1) := by decide +kernel
theorem dX2_rows_3 : decode cX2_rows 3 = .ok (.istore_n 2, 1) := by decide +kernel
theorem dX2_rows_4 : decode cX2_rows 4 = .ok (.iload_n 2, 1) := by decide +kernel
theorem dX2_rows_5 : decode cX2_rows 5 = .ok (.aload_n 0, 1) := by decide +kernel
theorem dX2_rows_6 : decode cX2_rows 6 = .ok (.getfield 49, 3) := by decide +kernel
theorem dX2_rows_9 : decode cX2_rows 9 = .ok (.if_icmp .ge 20, 3) := by decide +kernel
theorem dX2_rows_12 : decode cX2_rows 12 = .ok (.aload_n 0, 1) := by decide +kernel
theorem dX2_rows_13 : decode cX2_rows 13 = .ok (.iload_n 2, 1) := by decide +kernel
theorem dX2_rows_14 : decode cX2_rows 14 = .ok (.invokevirtual 130, 3) := by decide +kernel
theorem dX2_rows_17 : decode cX2_rows 17 = .ok (.ifCond .ne 6, 3) := by decide +kernel
theorem dX2_rows_20 : decode cX2_rows 20 = .ok (.iinc 1 1, 3) := by decide +kernel
theorem dX2_rows_23 : decode cX2_rows 23 = .ok (.iinc 2 1, 3) := by decide +kernel
theorem dX2_rows_26 : decode cX2_rows 26 = .ok (.goto (-22), 3) := by decide +kernel
theorem dX2_rows_29 : decode cX2_rows 29 = .ok (.iload_n 1, 1) := by decide +kernel
theorem dX2_rows_30 : decode cX2_rows 30 = .ok (.ireturn, 1) := by decide +kernel
theorem dX2_worst_0 : decode cX2_worst 0 = .ok (.iconst 0, 1) := by decide +kernel
theorem dX2_worst_1 : decode cX2_worst 1 = .ok (.istore_n 2, 1) := by decide +kernel
theorem dX2_worst_2 : decode cX2_worst 2 = .ok (.iconst 1, 1) := by decide +kernel
theorem dX2_worst_3 : decode cX2_worst 3 = .ok (.istore_n 3, 1) := by decide +kernel
theorem dX2_worst_4 : decode cX2_worst 4 = .ok (.iload_n 3, 1) := by decide +kernel
theorem dX2_worst_5 : decode cX2_worst 5 = .ok (.aload_n 0, 1) := by decide +kernel
theorem dX2_worst_6 : decode cX2_worst 6 = .ok (.getfield 35, 3) := by decide +kernel
theorem dX2_worst_9 : decode cX2_worst 9 = .ok (.if_icmp .ge 38, 3) := by decide +kernel
theorem dX2_worst_12 : decode cX2_worst 12 = .ok (.aload_n 0, 1) := by decide +kernel
theorem dX2_worst_13 : decode cX2_worst 13 = .ok (.getfield 11, 3) := by decide +kernel
theorem dX2_worst_16 : decode cX2_worst 16 = .ok (.iload_n 3, 1) := by decide +kernel
theorem dX2_worst_17 : decode cX2_worst 17 = .ok (.aaload, 1) := by decide +kernel
theorem dX2_worst_18 : decode cX2_worst 18 = .ok (.getfield 74, 3) := by decide +kernel
theorem dX2_worst_21 : decode cX2_worst 21 = .ok (.invokestatic 133, 3) := by decide +kernel
theorem dX2_worst_24 : decode cX2_worst 24 = .ok (.aload_n 0, 1) := by decide +kernel
theorem dX2_worst_25 : decode cX2_worst 25 = .ok (.getfield 11, 3) := by decide +kernel
theorem dX2_worst_28 : decode cX2_worst 28 = .ok (.iload_n 2, 1) := by decide +kernel
theorem dX2_worst_29 : decode cX2_worst 29 = .ok (.aaload, 1) := by decide +kernel
theorem dX2_worst_30 : decode cX2_worst 30 = .ok (.getfield 74, 3) := by decide +kernel
theorem dX2_worst_33 : decode cX2_worst 33 = .ok (.invokestatic 133, 3) := by decide +kernel
theorem dX2_worst_36 : decode cX2_worst 36 = .ok (.if_icmp .le 5, 3) := by decide +kernel
theorem dX2_worst_39 : decode cX2_worst 39 = .ok (.iload_n 3, 1) := by decide +kernel
theorem dX2_worst_40 : decode cX2_worst 40 = .ok (.istore_n 2, 1) := by decide +kernel
theorem dX2_worst_41 : decode cX2_worst 41 = .ok (.iinc 3 1, 3) := by decide +kernel
theorem dX2_worst_44 : decode cX2_worst 44 = .ok (.goto (-40), 3) := by decide +kernel
theorem dX2_worst_47 : decode cX2_worst 47 = .ok (.iload_n 1, 1) := by decide +kernel
theorem dX2_worst_48 : decode cX2_worst 48 = .ok (.ifCond .eq 7, 3) := by decide +kernel
theorem dX2_worst_51 : decode cX2_worst 51 = .ok (.iload_n 2, 1) := by decide +kernel
theorem dX2_worst_52 : decode cX2_worst 52 = .ok (.goto 15, 3) := by decide +kernel
theorem dX2_worst_55 : decode cX2_worst 55 = .ok (.aload_n 0, 1) := by decide +kernel
theorem dX2_worst_56 : decode cX2_worst 56 = .ok (.getfield 11, 3) := by decide +kernel
theorem dX2_worst_59 : decode cX2_worst 59 = .ok (.iload_n 2, 1) := by decide +kernel
theorem dX2_worst_60 : decode cX2_worst 60 = .ok (.aaload, 1) := by decide +kernel
theorem dX2_worst_61 : decode cX2_worst 61 = .ok (.getfield 74, 3) := by decide +kernel
theorem dX2_worst_64 : decode cX2_worst 64 = .ok (.invokestatic 133, 3) := by decide +kernel
theorem dX2_worst_67 : decode cX2_worst 67 = .ok (.ireturn, 1) := by decide +kernel
theorem dX2_going_0 : decode cX2_going 0 = .ok (.iload_n 1, 1) := by decide +kernel
theorem dX2_going_1 : decode cX2_going 1 = .ok (.invokestatic 68, 3) := by decide +kernel
theorem dX2_going_4 : decode cX2_going 4 = .ok (.ifCond .ne 5, 3) := by decide +kernel
theorem dX2_going_7 : decode cX2_going 7 = .ok (.iconst (-1), 1) := by decide +kernel
theorem dX2_going_8 : decode cX2_going 8 = .ok (.ireturn, 1) := by decide +kernel
theorem dX2_going_9 : decode cX2_going 9 = .ok (.iload_n 2, 1) := by decide +kernel
theorem dX2_going_10 : decode cX2_going 10 = .ok (.iconst 0, 1) := by decide +kernel
theorem dX2_going_11 : decode cX2_going 11 = .ok (.bipush 60, 2) := by decide +kernel
theorem dX2_going_13 : decode cX2_going 13 = .ok (.invokestatic 31, 3) := by decide +kernel
theorem dX2_going_16 : decode cX2_going 16 = .ok (.ifCond .ne 6, 3) := by decide +kernel
theorem dX2_going_19 : decode cX2_going 19 = .ok (.bipush (-2), 2) := by decide +kernel
theorem dX2_going_21 : decode cX2_going 21 = .ok (.ireturn, 1) := by decide +kernel
theorem dX2_going_22 : decode cX2_going 22 = .ok (.aload_n 0, 1) := by decide +kernel
theorem dX2_going_23 : decode cX2_going 23 = .ok (.iload_n 1, 1) := by decide +kernel
theorem dX2_going_24 : decode cX2_going 24 = .ok (.iload_n 2, 1) := by decide +kernel
theorem dX2_going_25 : decode cX2_going 25 = .ok (.invokevirtual 138, 3) := by decide +kernel
theorem dX2_going_28 : decode cX2_going 28 = .ok (.ireturn, 1) := by decide +kernel
theorem dX2_evens_0 : decode cX2_evens 0 = .ok (.iload_n 1, 1) := by decide +kernel
theorem dX2_evens_1 : decode cX2_evens 1 = .ok (.iconst 0, 1) := by decide +kernel
theorem dX2_evens_2 : decode cX2_evens 2 = .ok (.bipush 60, 2) := by decide +kernel
theorem dX2_evens_4 : decode cX2_evens 4 = .ok (.invokestatic 31, 3) := by decide +kernel
theorem dX2_evens_7 : decode cX2_evens 7 = .ok (.ifCond .ne 6, 3) := by decide +kernel
theorem dX2_evens_10 : decode cX2_evens 10 = .ok (.bipush (-2), 2) := by decide +kernel
theorem dX2_evens_12 : decode cX2_evens 12 = .ok (.ireturn, 1) := by decide +kernel
theorem dX2_evens_13 : decode cX2_evens 13 = .ok (.iconst 0, 1) := by decide +kernel
theorem dX2_evens_14 : decode cX2_evens 14 = .ok (.istore_n 2, 1) := by decide +kernel
theorem dX2_evens_15 : decode cX2_evens 15 = .ok (.iconst 0, 1) := by decide +kernel
theorem dX2_evens_16 : decode cX2_evens 16 = .ok (.istore_n 3, 1) := by decide +kernel
theorem dX2_evens_17 : decode cX2_evens 17 = .ok (.iload_n 3, 1) := by decide +kernel
theorem dX2_evens_18 : decode cX2_evens 18 = .ok (.iconst 4, 1) := by decide +kernel
theorem dX2_evens_19 : decode cX2_evens 19 = .ok (.if_icmp .ge 37, 3) := by decide +kernel
theorem dX2_evens_22 : decode cX2_evens 22 = .ok (.aload_n 0, 1) := by decide +kernel
theorem dX2_evens_23 : decode cX2_evens 23 = .ok (.iload_n 3, 1) := by decide +kernel
theorem dX2_evens_24 : decode cX2_evens 24 = .ok (.iload_n 1, 1) := by decide +kernel
theorem dX2_evens_25 : decode cX2_evens 25 = .ok (.invokevirtual 138, 3) := by decide +kernel
theorem dX2_evens_28 : decode cX2_evens 28 = .ok (.istore 4, 2) := by decide +kernel
theorem dX2_evens_30 : decode cX2_evens 30 = .ok (.iload 4, 2) := by decide +kernel
theorem dX2_evens_32 : decode cX2_evens 32 = .ok (.bipush (-99), 2) := by decide +kernel
theorem dX2_evens_34 : decode cX2_evens 34 = .ok (.if_icmp .ne 6, 3) := by decide +kernel
theorem dX2_evens_37 : decode cX2_evens 37 = .ok (.bipush (-99), 2) := by decide +kernel
theorem dX2_evens_39 : decode cX2_evens 39 = .ok (.ireturn, 1) := by decide +kernel
theorem dX2_evens_40 : decode cX2_evens 40 = .ok (.iload_n 2, 1) := by decide +kernel
theorem dX2_evens_41 : decode cX2_evens 41 = .ok (.iload 4, 2) := by decide +kernel
theorem dX2_evens_43 : decode cX2_evens 43 = .ok (.invokestatic 133, 3) := by decide +kernel
theorem dX2_evens_46 : decode cX2_evens 46 = .ok (.invokestatic 142, 3) := by decide +kernel
theorem dX2_evens_49 : decode cX2_evens 49 = .ok (.istore_n 2, 1) := by decide +kernel
theorem dX2_evens_50 : decode cX2_evens 50 = .ok (.iinc 3 1, 3) := by decide +kernel
theorem dX2_evens_53 : decode cX2_evens 53 = .ok (.goto (-36), 3) := by decide +kernel
theorem dX2_evens_56 : decode cX2_evens 56 = .ok (.iload_n 2, 1) := by decide +kernel
theorem dX2_evens_57 : decode cX2_evens 57 = .ok (.ireturn, 1) := by decide +kernel
theorem dX2_paint_0 : decode cX2_paint 0 = .ok (.aload_n 0, 1) := by decide +kernel
theorem dX2_paint_1 : decode cX2_paint 1 = .ok (.iload_n 2, 1) := by decide +kernel
theorem dX2_paint_2 : decode cX2_paint 2 = .ok (.invokevirtual 39, 3) := by decide +kernel
theorem dX2_paint_5 : decode cX2_paint 5 = .ok (.ifCond .ne 5, 3) := by decide +kernel
theorem dX2_paint_8 : decode cX2_paint 8 = .ok (.iconst (-1), 1) := by decide +kernel
theorem dX2_paint_9 : decode cX2_paint 9 = .ok (.ireturn, 1) := by decide +kernel
theorem dX2_paint_10 : decode cX2_paint 10 = .ok (.iload_n 1, 1) := by decide +kernel
theorem dX2_paint_11 : decode cX2_paint 11 = .ok (.iconst 0, 1) := by decide +kernel
theorem dX2_paint_12 : decode cX2_paint 12 = .ok (.bipush 29, 2) := by decide +kernel
theorem dX2_paint_14 : decode cX2_paint 14 = .ok (.invokestatic 31, 3) := by decide +kernel
theorem dX2_paint_17 : decode cX2_paint 17 = .ok (.ifCond .eq 16, 3) := by decide +kernel
theorem dX2_paint_20 : decode cX2_paint 20 = .ok (.iload_n 3, 1) := by decide +kernel
theorem dX2_paint_21 : decode cX2_paint 21 = .ok (.bipush (-99), 2) := by decide +kernel
theorem dX2_paint_23 : decode cX2_paint 23 = .ok (.if_icmp .eq 13, 3) := by decide +kernel
theorem dX2_paint_26 : decode cX2_paint 26 = .ok (.iload_n 3, 1) := by decide +kernel
theorem dX2_paint_27 : decode cX2_paint 27 = .ok (.invokestatic 46, 3) := by decide +kernel
theorem dX2_paint_30 : decode cX2_paint 30 = .ok (.ifCond .ne 6, 3) := by decide +kernel
theorem dX2_paint_33 : decode cX2_paint 33 = .ok (.bipush (-2), 2) := by decide +kernel
theorem dX2_paint_35 : decode cX2_paint 35 = .ok (.ireturn, 1) := by decide +kernel
theorem dX2_paint_36 : decode cX2_paint 36 = .ok (.aload_n 0, 1) := by decide +kernel
theorem dX2_paint_37 : decode cX2_paint 37 = .ok (.getfield 11, 3) := by decide +kernel
theorem dX2_paint_40 : decode cX2_paint 40 = .ok (.iload_n 2, 1) := by decide +kernel
theorem dX2_paint_41 : decode cX2_paint 41 = .ok (.aaload, 1) := by decide +kernel
theorem dX2_paint_42 : decode cX2_paint 42 = .ok (.astore 4, 2) := by decide +kernel
theorem dX2_paint_44 : decode cX2_paint 44 = .ok (.aload 4, 2) := by decide +kernel
theorem dX2_paint_46 : decode cX2_paint 46 = .ok (.getfield 145, 3) := by decide +kernel
theorem dX2_paint_49 : decode cX2_paint 49 = .ok (.iload_n 1, 1) := by decide +kernel
theorem dX2_paint_50 : decode cX2_paint 50 = .ok (.iaload, 1) := by decide +kernel
theorem dX2_paint_51 : decode cX2_paint 51 = .ok (.istore 5, 2) := by decide +kernel
theorem dX2_paint_53 : decode cX2_paint 53 = .ok (.aload 4, 2) := by decide +kernel
theorem dX2_paint_55 : decode cX2_paint 55 = .ok (.getfield 145, 3) := by decide +kernel
theorem dX2_paint_58 : decode cX2_paint 58 = .ok (.iload_n 1, 1) := by decide +kernel
theorem dX2_paint_59 : decode cX2_paint 59 = .ok (.iload_n 3, 1) := by decide +kernel
theorem dX2_paint_60 : decode cX2_paint 60 = .ok (.iastore, 1) := by decide +kernel
theorem dX2_paint_61 : decode cX2_paint 61 = .ok (.aload 4, 2) := by decide +kernel
theorem dX2_paint_63 : decode cX2_paint 63 = .ok (.iconst 0, 1) := by decide +kernel
theorem dX2_paint_64 : decode cX2_paint 64 = .ok (.putfield 55, 3) := by decide +kernel
theorem dX2_paint_67 : decode cX2_paint 67 = .ok (.iload 5, 2) := by decide +kernel
theorem dX2_paint_69 : decode cX2_paint 69 = .ok (.ireturn, 1) := by decide +kernel
theorem dX2_rule_0 : decode cX2_rule 0 = .ok (.iload_n 1, 1) := by decide +kernel
theorem dX2_rule_1 : decode cX2_rule 1 = .ok (.ifCond .ne 29, 3) := by decide +kernel
theorem dX2_rule_4 : decode cX2_rule 4 = .ok (.iload_n 2, 1) := by decide +kernel
theorem dX2_rule_5 : decode cX2_rule 5 = .ok (.iconst 1, 1) := by decide +kernel
theorem dX2_rule_6 : decode cX2_rule 6 = .ok (.bipush 30, 2) := by decide +kernel
theorem dX2_rule_8 : decode cX2_rule 8 = .ok (.invokestatic 31, 3) := by decide +kernel
theorem dX2_rule_11 : decode cX2_rule 11 = .ok (.ifCond .eq 19, 3) := by decide +kernel
theorem dX2_rule_14 : decode cX2_rule 14 = .ok (.aload_n 0, 1) := by decide +kernel
theorem dX2_rule_15 : decode cX2_rule 15 = .ok (.getfield 148, 3) := by decide +kernel
theorem dX2_rule_18 : decode cX2_rule 18 = .ok (.istore_n 3, 1) := by decide +kernel
theorem dX2_rule_19 : decode cX2_rule 19 = .ok (.aload_n 0, 1) := by decide +kernel
theorem dX2_rule_20 : decode cX2_rule 20 = .ok (.iload_n 2, 1) := by decide +kernel
theorem dX2_rule_21 : decode cX2_rule 21 = .ok (.putfield 148, 3) := by decide +kernel
theorem dX2_rule_24 : decode cX2_rule 24 = .ok (.aload_n 0, 1) := by decide +kernel
theorem dX2_rule_25 : decode cX2_rule 25 = .ok (.invokevirtual 151, 3) := by decide +kernel
theorem dX2_rule_28 : decode cX2_rule 28 = .ok (.iload_n 3, 1) := by decide +kernel
theorem dX2_rule_29 : decode cX2_rule 29 = .ok (.ireturn, 1) := by decide +kernel
theorem dX2_rule_30 : decode cX2_rule 30 = .ok (.iload_n 1, 1) := by decide +kernel
theorem dX2_rule_31 : decode cX2_rule 31 = .ok (.iconst 1, 1) := by decide +kernel
theorem dX2_rule_32 : decode cX2_rule 32 = .ok (.if_icmp .ne 29, 3) := by decide +kernel
theorem dX2_rule_35 : decode cX2_rule 35 = .ok (.iload_n 2, 1) := by decide +kernel
theorem dX2_rule_36 : decode cX2_rule 36 = .ok (.iconst 0, 1) := by decide +kernel
theorem dX2_rule_37 : decode cX2_rule 37 = .ok (.bipush 9, 2) := by decide +kernel
theorem dX2_rule_39 : decode cX2_rule 39 = .ok (.invokestatic 31, 3) := by decide +kernel
theorem dX2_rule_42 : decode cX2_rule 42 = .ok (.ifCond .eq 19, 3) := by decide +kernel
theorem dX2_rule_45 : decode cX2_rule 45 = .ok (.aload_n 0, 1) := by decide +kernel
theorem dX2_rule_46 : decode cX2_rule 46 = .ok (.getfield 154, 3) := by decide +kernel
theorem dX2_rule_49 : decode cX2_rule 49 = .ok (.istore_n 3, 1) := by decide +kernel
theorem dX2_rule_50 : decode cX2_rule 50 = .ok (.aload_n 0, 1) := by decide +kernel
theorem dX2_rule_51 : decode cX2_rule 51 = .ok (.iload_n 2, 1) := by decide +kernel
theorem dX2_rule_52 : decode cX2_rule 52 = .ok (.putfield 154, 3) := by decide +kernel
theorem dX2_rule_55 : decode cX2_rule 55 = .ok (.aload_n 0, 1) := by decide +kernel
theorem dX2_rule_56 : decode cX2_rule 56 = .ok (.invokevirtual 151, 3) := by decide +kernel
theorem dX2_rule_59 : decode cX2_rule 59 = .ok (.iload_n 3, 1) := by decide +kernel
theorem dX2_rule_60 : decode cX2_rule 60 = .ok (.ireturn, 1) := by decide +kernel
theorem dX2_rule_61 : decode cX2_rule 61 = .ok (.bipush (-2), 2) := by decide +kernel
theorem dX2_rule_63 : decode cX2_rule 63 = .ok (.ireturn, 1) := by decide +kernel
theorem dX2_unlike_0 : decode cX2_unlike 0 = .ok (.iconst 0, 1) := by decide +kernel
theorem dX2_unlike_1 : decode cX2_unlike 1 = .ok (.istore_n 1, 1) := by decide +kernel
theorem dX2_unlike_2 : decode cX2_unlike 2 = .ok (.iconst 0, 1) := by decide +kernel
theorem dX2_unlike_3 : decode cX2_unlike 3 = .ok (.istore_n 2, 1) := by decide +kernel
theorem dX2_unlike_4 : decode cX2_unlike 4 = .ok (.iload_n 2, 1) := by decide +kernel
theorem dX2_unlike_5 : decode cX2_unlike 5 = .ok (.aload_n 0, 1) := by decide +kernel
theorem dX2_unlike_6 : decode cX2_unlike 6 = .ok (.invokevirtual 157, 3) := by decide +kernel
theorem dX2_unlike_9 : decode cX2_unlike 9 = .ok (.if_icmp .ge 52, 3) := by decide +kernel
theorem dX2_unlike_12 : decode cX2_unlike 12 = .ok (.iconst 0, 1) := by decide +kernel
theorem dX2_unlike_13 : decode cX2_unlike 13 = .ok (.istore_n 3, 1) := by decide +kernel
theorem dX2_unlike_14 : decode cX2_unlike 14 = .ok (.iload_n 3, 1) := by decide +kernel
theorem dX2_unlike_15 : decode cX2_unlike 15 = .ok (.aload_n 0, 1) := by decide +kernel
theorem dX2_unlike_16 : decode cX2_unlike 16 = .ok (.getfield 35, 3) := by decide +kernel
theorem dX2_unlike_19 : decode cX2_unlike 19 = .ok (.if_icmp .ge 36, 3) := by decide +kernel
theorem dX2_unlike_22 : decode cX2_unlike 22 = .ok (.aload_n 0, 1) := by decide +kernel
theorem dX2_unlike_23 : decode cX2_unlike 23 = .ok (.getfield 11, 3) := by decide +kernel
theorem dX2_unlike_26 : decode cX2_unlike 26 = .ok (.iload_n 3, 1) := by decide +kernel
theorem dX2_unlike_27 : decode cX2_unlike 27 = .ok (.aaload, 1) := by decide +kernel
theorem dX2_unlike_28 : decode cX2_unlike 28 = .ok (.iload_n 2, 1) := by decide +kernel
theorem dX2_unlike_29 : decode cX2_unlike 29 = .ok (.aload_n 0, 1) := by decide +kernel
theorem dX2_unlike_30 : decode cX2_unlike 30 = .ok (.getfield 11, 3) := by decide +kernel
theorem dX2_unlike_33 : decode cX2_unlike 33 = .ok (.iload_n 3, 1) := by decide +kernel
theorem dX2_unlike_34 : decode cX2_unlike 34 = .ok (.aaload, 1) := by decide +kernel
theorem dX2_unlike_35 : decode cX2_unlike 35 = .ok (.getfield 161, 3) := by decide +kernel
theorem dX2_unlike_38 : decode cX2_unlike 38 = .ok (.iload_n 2, 1) := by decide +kernel
theorem dX2_unlike_39 : decode cX2_unlike 39 = .ok (.iaload, 1) := by decide +kernel
theorem dX2_unlike_40 : decode cX2_unlike 40 = .ok (.invokevirtual 164, 3) := by decide +kernel
theorem dX2_unlike_43 : decode cX2_unlike 43 = .ok (.ifCond .ne 6, 3) := by decide +kernel
theorem dX2_unlike_46 : decode cX2_unlike 46 = .ok (.iinc 1 1, 3) := by decide +kernel
theorem dX2_unlike_49 : decode cX2_unlike 49 = .ok (.iinc 3 1, 3) := by decide +kernel
theorem dX2_unlike_52 : decode cX2_unlike 52 = .ok (.goto (-38), 3) := by decide +kernel
theorem dX2_unlike_55 : decode cX2_unlike 55 = .ok (.iinc 2 1, 3) := by decide +kernel
theorem dX2_unlike_58 : decode cX2_unlike 58 = .ok (.goto (-54), 3) := by decide +kernel
theorem dX2_unlike_61 : decode cX2_unlike 61 = .ok (.iload_n 1, 1) := by decide +kernel
theorem dX2_unlike_62 : decode cX2_unlike 62 = .ok (.ireturn, 1) := by decide +kernel
theorem dX2_idles_0 : decode cX2_idles 0 = .ok (.aload_n 0, 1) := by decide +kernel
theorem dX2_idles_1 : decode cX2_idles 1 = .ok (.iload_n 1, 1) := by decide +kernel
theorem dX2_idles_2 : decode cX2_idles 2 = .ok (.invokevirtual 39, 3) := by decide +kernel
theorem dX2_idles_5 : decode cX2_idles 5 = .ok (.ifCond .ne 5, 3) := by decide +kernel
theorem dX2_idles_8 : decode cX2_idles 8 = .ok (.iconst (-1), 1) := by decide +kernel
theorem dX2_idles_9 : decode cX2_idles 9 = .ok (.ireturn, 1) := by decide +kernel
theorem dX2_idles_10 : decode cX2_idles 10 = .ok (.aload_n 0, 1) := by decide +kernel
theorem dX2_idles_11 : decode cX2_idles 11 = .ok (.iload_n 1, 1) := by decide +kernel
theorem dX2_idles_12 : decode cX2_idles 12 = .ok (.invokevirtual 168, 3) := by decide +kernel
theorem dX2_idles_15 : decode cX2_idles 15 = .ok (.getfield 172, 3) := by decide +kernel
theorem dX2_idles_18 : decode cX2_idles 18 = .ok (.ireturn, 1) := by decide +kernel
theorem dX2_turning_0 : decode cX2_turning 0 = .ok (.aload_n 0, 1) := by decide +kernel
theorem dX2_turning_1 : decode cX2_turning 1 = .ok (.iload_n 1, 1) := by decide +kernel
theorem dX2_turning_2 : decode cX2_turning 2 = .ok (.invokevirtual 39, 3) := by decide +kernel
theorem dX2_turning_5 : decode cX2_turning 5 = .ok (.ifCond .ne 5, 3) := by decide +kernel
theorem dX2_turning_8 : decode cX2_turning 8 = .ok (.iconst (-1), 1) := by decide +kernel
theorem dX2_turning_9 : decode cX2_turning 9 = .ok (.ireturn, 1) := by decide +kernel
theorem dX2_turning_10 : decode cX2_turning 10 = .ok (.iload_n 2, 1) := by decide +kernel
theorem dX2_turning_11 : decode cX2_turning 11 = .ok (.iconst 0, 1) := by decide +kernel
theorem dX2_turning_12 : decode cX2_turning 12 = .ok (.aload_n 0, 1) := by decide +kernel
theorem dX2_turning_13 : decode cX2_turning 13 = .ok (.getfield 148, 3) := by decide +kernel
theorem dX2_turning_16 : decode cX2_turning 16 = .ok (.iconst 1, 1) := by decide +kernel
theorem dX2_turning_17 : decode cX2_turning 17 = .ok (.isub, 1) := by decide +kernel
theorem dX2_turning_18 : decode cX2_turning 18 = .ok (.invokestatic 31, 3) := by decide +kernel
theorem dX2_turning_21 : decode cX2_turning 21 = .ok (.ifCond .ne 6, 3) := by decide +kernel
theorem dX2_turning_24 : decode cX2_turning 24 = .ok (.bipush (-2), 2) := by decide +kernel
theorem dX2_turning_26 : decode cX2_turning 26 = .ok (.ireturn, 1) := by decide +kernel
theorem dX2_turning_27 : decode cX2_turning 27 = .ok (.aload_n 0, 1) := by decide +kernel
theorem dX2_turning_28 : decode cX2_turning 28 = .ok (.iload_n 1, 1) := by decide +kernel
theorem dX2_turning_29 : decode cX2_turning 29 = .ok (.invokevirtual 168, 3) := by decide +kernel
theorem dX2_turning_32 : decode cX2_turning 32 = .ok (.astore_n 3, 1) := by decide +kernel
theorem dX2_turning_33 : decode cX2_turning 33 = .ok (.aload_n 3, 1) := by decide +kernel
theorem dX2_turning_34 : decode cX2_turning 34 = .ok (.getfield 172, 3) := by decide +kernel
theorem dX2_turning_37 : decode cX2_turning 37 = .ok (.bipush (-99), 2) := by decide +kernel
theorem dX2_turning_39 : decode cX2_turning 39 = .ok (.if_icmp .ne 8, 3) := by decide +kernel
theorem dX2_turning_42 : decode cX2_turning 42 = .ok (.bipush (-99), 2) := by decide +kernel
theorem dX2_turning_44 : decode cX2_turning 44 = .ok (.goto 9, 3) := by decide +kernel
theorem dX2_turning_47 : decode cX2_turning 47 = .ok (.aload_n 3, 1) := by decide +kernel
theorem dX2_turning_48 : decode cX2_turning 48 = .ok (.getfield 175, 3) := by decide +kernel
theorem dX2_turning_51 : decode cX2_turning 51 = .ok (.iload_n 2, 1) := by decide +kernel
theorem dX2_turning_52 : decode cX2_turning 52 = .ok (.iaload, 1) := by decide +kernel
theorem dX2_turning_53 : decode cX2_turning 53 = .ok (.ireturn, 1) := by decide +kernel
theorem dX2_behind_0 : decode cX2_behind 0 = .ok (.aload_n 0, 1) := by decide +kernel
theorem dX2_behind_1 : decode cX2_behind 1 = .ok (.iload_n 1, 1) := by decide +kernel
theorem dX2_behind_2 : decode cX2_behind 2 = .ok (.invokevirtual 39, 3) := by decide +kernel
theorem dX2_behind_5 : decode cX2_behind 5 = .ok (.ifCond .ne 5, 3) := by decide +kernel
theorem dX2_behind_8 : decode cX2_behind 8 = .ok (.iconst (-1), 1) := by decide +kernel
theorem dX2_behind_9 : decode cX2_behind 9 = .ok (.ireturn, 1) := by decide +kernel
theorem dX2_behind_10 : decode cX2_behind 10 = .ok (.aload_n 0, 1) := by decide +kernel
theorem dX2_behind_11 : decode cX2_behind 11 = .ok (.iload_n 1, 1) := by decide +kernel
theorem dX2_behind_12 : decode cX2_behind 12 = .ok (.invokevirtual 168, 3) := by decide +kernel
theorem dX2_behind_15 : decode cX2_behind 15 = .ok (.astore_n 2, 1) := by decide +kernel
theorem dX2_behind_16 : decode cX2_behind 16 = .ok (.aload_n 2, 1) := by decide +kernel
theorem dX2_behind_17 : decode cX2_behind 17 = .ok (.getfield 172, 3) := by decide +kernel
theorem dX2_behind_20 : decode cX2_behind 20 = .ok (.bipush (-99), 2) := by decide +kernel
theorem dX2_behind_22 : decode cX2_behind 22 = .ok (.if_icmp .ne 8, 3) := by decide +kernel
theorem dX2_behind_25 : decode cX2_behind 25 = .ok (.bipush (-99), 2) := by decide +kernel
theorem dX2_behind_27 : decode cX2_behind 27 = .ok (.goto 10, 3) := by decide +kernel
theorem dX2_behind_30 : decode cX2_behind 30 = .ok (.aload_n 2, 1) := by decide +kernel
theorem dX2_behind_31 : decode cX2_behind 31 = .ok (.getfield 178, 3) := by decide +kernel
theorem dX2_behind_34 : decode cX2_behind 34 = .ok (.bipush 100, 2) := by decide +kernel
theorem dX2_behind_36 : decode cX2_behind 36 = .ok (.iadd, 1) := by decide +kernel
theorem dX2_behind_37 : decode cX2_behind 37 = .ok (.ireturn, 1) := by decide +kernel
theorem dX2_weave_0 : decode cX2_weave 0 = .ok (.iconst 0, 1) := by decide +kernel
theorem dX2_weave_1 : decode cX2_weave 1 = .ok (.istore_n 1, 1) := by decide +kernel
theorem dX2_weave_2 : decode cX2_weave 2 = .ok (.iload_n 1, 1) := by decide +kernel
theorem dX2_weave_3 : decode cX2_weave 3 = .ok (.aload_n 0, 1) := by decide +kernel
theorem dX2_weave_4 : decode cX2_weave 4 = .ok (.getfield 35, 3) := by decide +kernel
theorem dX2_weave_7 : decode cX2_weave 7 = .ok (.if_icmp .ge 25, 3) := by decide +kernel
theorem dX2_weave_10 : decode cX2_weave 10 = .ok (.aload_n 0, 1) := by decide +kernel
theorem dX2_weave_11 : decode cX2_weave 11 = .ok (.iload_n 1, 1) := by decide +kernel
theorem dX2_weave_12 : decode cX2_weave 12 = .ok (.invokevirtual 168, 3) := by decide +kernel
theorem dX2_weave_15 : decode cX2_weave 15 = .ok (.getfield 172, 3) := by decide +kernel
theorem dX2_weave_18 : decode cX2_weave 18 = .ok (.bipush (-99), 2) := by decide +kernel
theorem dX2_weave_20 : decode cX2_weave 20 = .ok (.if_icmp .ne 6, 3) := by decide +kernel
theorem dX2_weave_23 : decode cX2_weave 23 = .ok (.bipush (-99), 2) := by decide +kernel
theorem dX2_weave_25 : decode cX2_weave 25 = .ok (.ireturn, 1) := by decide +kernel
theorem dX2_weave_26 : decode cX2_weave 26 = .ok (.iinc 1 1, 3) := by decide +kernel
theorem dX2_weave_29 : decode cX2_weave 29 = .ok (.goto (-27), 3) := by decide +kernel
theorem dX2_weave_32 : decode cX2_weave 32 = .ok (.aload_n 0, 1) := by decide +kernel
theorem dX2_weave_33 : decode cX2_weave 33 = .ok (.getfield 49, 3) := by decide +kernel
theorem dX2_weave_36 : decode cX2_weave 36 = .ok (.aload_n 0, 1) := by decide +kernel
theorem dX2_weave_37 : decode cX2_weave 37 = .ok (.getfield 148, 3) := by decide +kernel
theorem dX2_weave_40 : decode cX2_weave 40 = .ok (.iadd, 1) := by decide +kernel
theorem dX2_weave_41 : decode cX2_weave 41 = .ok (.bipush 60, 2) := by decide +kernel
theorem dX2_weave_43 : decode cX2_weave 43 = .ok (.if_icmp .le 6, 3) := by decide +kernel
theorem dX2_weave_46 : decode cX2_weave 46 = .ok (.bipush (-4), 2) := by decide +kernel
theorem dX2_weave_48 : decode cX2_weave 48 = .ok (.ireturn, 1) := by decide +kernel
theorem dX2_weave_49 : decode cX2_weave 49 = .ok (.iconst 0, 1) := by decide +kernel
theorem dX2_weave_50 : decode cX2_weave 50 = .ok (.istore_n 1, 1) := by decide +kernel
theorem dX2_weave_51 : decode cX2_weave 51 = .ok (.iload_n 1, 1) := by decide +kernel
theorem dX2_weave_52 : decode cX2_weave 52 = .ok (.aload_n 0, 1) := by decide +kernel
theorem dX2_weave_53 : decode cX2_weave 53 = .ok (.getfield 148, 3) := by decide +kernel
theorem dX2_weave_56 : decode cX2_weave 56 = .ok (.if_icmp .ge 59, 3) := by decide +kernel
theorem dX2_weave_59 : decode cX2_weave 59 = .ok (.iconst 0, 1) := by decide +kernel
theorem dX2_weave_60 : decode cX2_weave 60 = .ok (.istore_n 2, 1) := by decide +kernel
theorem dX2_weave_61 : decode cX2_weave 61 = .ok (.iload_n 2, 1) := by decide +kernel
theorem dX2_weave_62 : decode cX2_weave 62 = .ok (.aload_n 0, 1) := by decide +kernel
theorem dX2_weave_63 : decode cX2_weave 63 = .ok (.getfield 35, 3) := by decide +kernel
theorem dX2_weave_66 : decode cX2_weave 66 = .ok (.if_icmp .ge 33, 3) := by decide +kernel
theorem dX2_weave_69 : decode cX2_weave 69 = .ok (.aload_n 0, 1) := by decide +kernel
theorem dX2_weave_70 : decode cX2_weave 70 = .ok (.getfield 11, 3) := by decide +kernel
theorem dX2_weave_73 : decode cX2_weave 73 = .ok (.iload_n 2, 1) := by decide +kernel
theorem dX2_weave_74 : decode cX2_weave 74 = .ok (.aaload, 1) := by decide +kernel
theorem dX2_weave_75 : decode cX2_weave 75 = .ok (.aload_n 0, 1) := by decide +kernel
theorem dX2_weave_76 : decode cX2_weave 76 = .ok (.getfield 49, 3) := by decide +kernel
theorem dX2_weave_79 : decode cX2_weave 79 = .ok (.aload_n 0, 1) := by decide +kernel
theorem dX2_weave_80 : decode cX2_weave 80 = .ok (.getfield 11, 3) := by decide +kernel
theorem dX2_weave_83 : decode cX2_weave 83 = .ok (.iload_n 2, 1) := by decide +kernel
theorem dX2_weave_84 : decode cX2_weave 84 = .ok (.aaload, 1) := by decide +kernel
theorem dX2_weave_85 : decode cX2_weave 85 = .ok (.getfield 175, 3) := by decide +kernel
theorem dX2_weave_88 : decode cX2_weave 88 = .ok (.iload_n 1, 1) := by decide +kernel
theorem dX2_weave_89 : decode cX2_weave 89 = .ok (.iaload, 1) := by decide +kernel
theorem dX2_weave_90 : decode cX2_weave 90 = .ok (.invokevirtual 88, 3) := by decide +kernel
theorem dX2_weave_93 : decode cX2_weave 93 = .ok (.iinc 2 1, 3) := by decide +kernel
theorem dX2_weave_96 : decode cX2_weave 96 = .ok (.goto (-35), 3) := by decide +kernel
theorem dX2_weave_99 : decode cX2_weave 99 = .ok (.aload_n 0, 1) := by decide +kernel
theorem dX2_weave_100 : decode cX2_weave 100 = .ok (.dup, 1) := by decide +kernel
theorem dX2_weave_101 : decode cX2_weave 101 = .ok (.getfield 49, 3) := by decide +kernel
theorem dX2_weave_104 : decode cX2_weave 104 = .ok (.iconst 1, 1) := by decide +kernel
theorem dX2_weave_105 : decode cX2_weave 105 = .ok (.iadd, 1) := by decide +kernel
theorem dX2_weave_106 : decode cX2_weave 106 = .ok (.putfield 49, 3) := by decide +kernel
theorem dX2_weave_109 : decode cX2_weave 109 = .ok (.iinc 1 1, 3) := by decide +kernel
theorem dX2_weave_112 : decode cX2_weave 112 = .ok (.goto (-61), 3) := by decide +kernel
theorem dX2_weave_115 : decode cX2_weave 115 = .ok (.aload_n 0, 1) := by decide +kernel
theorem dX2_weave_116 : decode cX2_weave 116 = .ok (.getfield 49, 3) := by decide +kernel
theorem dX2_weave_119 : decode cX2_weave 119 = .ok (.ireturn, 1) := by decide +kernel
theorem dX2_threading_0 : decode cX2_threading 0 = .ok (.aload_n 0, 1) := by decide +kernel
theorem dX2_threading_1 : decode cX2_threading 1 = .ok (.iload_n 1, 1) := by decide +kernel
theorem dX2_threading_2 : decode cX2_threading 2 = .ok (.invokevirtual 39, 3) := by decide +kernel
theorem dX2_threading_5 : decode cX2_threading 5 = .ok (.ifCond .eq 10, 3) := by decide +kernel
theorem dX2_threading_8 : decode cX2_threading 8 = .ok (.iload_n 2, 1) := by decide +kernel
theorem dX2_threading_9 : decode cX2_threading 9 = .ok (.invokestatic 43, 3) := by decide +kernel
theorem dX2_threading_12 : decode cX2_threading 12 = .ok (.ifCond .ne 5, 3) := by decide +kernel
theorem dX2_threading_15 : decode cX2_threading 15 = .ok (.iconst (-1), 1) := by decide +kernel
theorem dX2_threading_16 : decode cX2_threading 16 = .ok (.ireturn, 1) := by decide +kernel
theorem dX2_threading_17 : decode cX2_threading 17 = .ok (.aload_n 0, 1) := by decide +kernel
theorem dX2_threading_18 : decode cX2_threading 18 = .ok (.getfield 11, 3) := by decide +kernel
theorem dX2_threading_21 : decode cX2_threading 21 = .ok (.iload_n 1, 1) := by decide +kernel
theorem dX2_threading_22 : decode cX2_threading 22 = .ok (.aaload, 1) := by decide +kernel
theorem dX2_threading_23 : decode cX2_threading 23 = .ok (.aload_n 0, 1) := by decide +kernel
theorem dX2_threading_24 : decode cX2_threading 24 = .ok (.invokevirtual 157, 3) := by decide +kernel
theorem dX2_threading_27 : decode cX2_threading 27 = .ok (.invokevirtual 181, 3) := by decide +kernel
theorem dX2_threading_30 : decode cX2_threading 30 = .ok (.bipush (-99), 2) := by decide +kernel
theorem dX2_threading_32 : decode cX2_threading 32 = .ok (.if_icmp .eq 6, 3) := by decide +kernel
theorem dX2_threading_35 : decode cX2_threading 35 = .ok (.bipush (-3), 2) := by decide +kernel
theorem dX2_threading_37 : decode cX2_threading 37 = .ok (.ireturn, 1) := by decide +kernel
theorem dX2_threading_38 : decode cX2_threading 38 = .ok (.aload_n 0, 1) := by decide +kernel
theorem dX2_threading_39 : decode cX2_threading 39 = .ok (.getfield 11, 3) := by decide +kernel
theorem dX2_threading_42 : decode cX2_threading 42 = .ok (.iload_n 1, 1) := by decide +kernel
theorem dX2_threading_43 : decode cX2_threading 43 = .ok (.aaload, 1) := by decide +kernel
theorem dX2_threading_44 : decode cX2_threading 44 = .ok (.iload_n 2, 1) := by decide +kernel
theorem dX2_threading_45 : decode cX2_threading 45 = .ok (.aload_n 0, 1) := by decide +kernel
theorem dX2_threading_46 : decode cX2_threading 46 = .ok (.invokevirtual 157, 3) := by decide +kernel
theorem dX2_threading_49 : decode cX2_threading 49 = .ok (.invokevirtual 184, 3) := by decide +kernel
theorem dX2_threading_52 : decode cX2_threading 52 = .ok (.ireturn, 1) := by decide +kernel
theorem dX2_quarrel_0 : decode cX2_quarrel 0 = .ok (.aload_n 0, 1) := by decide +kernel
theorem dX2_quarrel_1 : decode cX2_quarrel 1 = .ok (.iload_n 1, 1) := by decide +kernel
theorem dX2_quarrel_2 : decode cX2_quarrel 2 = .ok (.invokevirtual 39, 3) := by decide +kernel
theorem dX2_quarrel_5 : decode cX2_quarrel 5 = .ok (.ifCond .ne 5, 3) := by decide +kernel
theorem dX2_quarrel_8 : decode cX2_quarrel 8 = .ok (.iconst (-1), 1) := by decide +kernel
theorem dX2_quarrel_9 : decode cX2_quarrel 9 = .ok (.ireturn, 1) := by decide +kernel
theorem dX2_quarrel_10 : decode cX2_quarrel 10 = .ok (.aload_n 0, 1) := by decide +kernel
theorem dX2_quarrel_11 : decode cX2_quarrel 11 = .ok (.getfield 11, 3) := by decide +kernel
theorem dX2_quarrel_14 : decode cX2_quarrel 14 = .ok (.iload_n 1, 1) := by decide +kernel
theorem dX2_quarrel_15 : decode cX2_quarrel 15 = .ok (.aaload, 1) := by decide +kernel
theorem dX2_quarrel_16 : decode cX2_quarrel 16 = .ok (.aload_n 0, 1) := by decide +kernel
theorem dX2_quarrel_17 : decode cX2_quarrel 17 = .ok (.invokevirtual 157, 3) := by decide +kernel
theorem dX2_quarrel_20 : decode cX2_quarrel 20 = .ok (.invokevirtual 181, 3) := by decide +kernel
theorem dX2_quarrel_23 : decode cX2_quarrel 23 = .ok (.ireturn, 1) := by decide +kernel
theorem dX2_wrongs_0 : decode cX2_wrongs 0 = .ok (.aload_n 0, 1) := by decide +kernel
theorem dX2_wrongs_1 : decode cX2_wrongs 1 = .ok (.iload_n 1, 1) := by decide +kernel
theorem dX2_wrongs_2 : decode cX2_wrongs 2 = .ok (.invokevirtual 39, 3) := by decide +kernel
theorem dX2_wrongs_5 : decode cX2_wrongs 5 = .ok (.ifCond .ne 5, 3) := by decide +kernel
theorem dX2_wrongs_8 : decode cX2_wrongs 8 = .ok (.iconst (-1), 1) := by decide +kernel
theorem dX2_wrongs_9 : decode cX2_wrongs 9 = .ok (.ireturn, 1) := by decide +kernel
theorem dX2_wrongs_10 : decode cX2_wrongs 10 = .ok (.aload_n 0, 1) := by decide +kernel
theorem dX2_wrongs_11 : decode cX2_wrongs 11 = .ok (.getfield 11, 3) := by decide +kernel
theorem dX2_wrongs_14 : decode cX2_wrongs 14 = .ok (.iload_n 1, 1) := by decide +kernel
theorem dX2_wrongs_15 : decode cX2_wrongs 15 = .ok (.aaload, 1) := by decide +kernel
theorem dX2_wrongs_16 : decode cX2_wrongs 16 = .ok (.getfield 65, 3) := by decide +kernel
theorem dX2_wrongs_19 : decode cX2_wrongs 19 = .ok (.ifCond .le 6, 3) := by decide +kernel
theorem dX2_wrongs_22 : decode cX2_wrongs 22 = .ok (.bipush (-3), 2) := by decide +kernel
theorem dX2_wrongs_24 : decode cX2_wrongs 24 = .ok (.ireturn, 1) := by decide +kernel
theorem dX2_wrongs_25 : decode cX2_wrongs 25 = .ok (.aload_n 0, 1) := by decide +kernel
theorem dX2_wrongs_26 : decode cX2_wrongs 26 = .ok (.aload_n 0, 1) := by decide +kernel
theorem dX2_wrongs_27 : decode cX2_wrongs 27 = .ok (.getfield 11, 3) := by decide +kernel
theorem dX2_wrongs_30 : decode cX2_wrongs 30 = .ok (.iload_n 1, 1) := by decide +kernel
theorem dX2_wrongs_31 : decode cX2_wrongs 31 = .ok (.aaload, 1) := by decide +kernel
theorem dX2_wrongs_32 : decode cX2_wrongs 32 = .ok (.invokevirtual 187, 3) := by decide +kernel
theorem dX2_wrongs_35 : decode cX2_wrongs 35 = .ok (.ireturn, 1) := by decide +kernel
theorem dX2_wrong_0 : decode cX2_wrong 0 = .ok (.aload_n 0, 1) := by decide +kernel
theorem dX2_wrong_1 : decode cX2_wrong 1 = .ok (.iload_n 1, 1) := by decide +kernel
theorem dX2_wrong_2 : decode cX2_wrong 2 = .ok (.invokevirtual 39, 3) := by decide +kernel
theorem dX2_wrong_5 : decode cX2_wrong 5 = .ok (.ifCond .ne 5, 3) := by decide +kernel
theorem dX2_wrong_8 : decode cX2_wrong 8 = .ok (.iconst (-1), 1) := by decide +kernel
theorem dX2_wrong_9 : decode cX2_wrong 9 = .ok (.ireturn, 1) := by decide +kernel
theorem dX2_wrong_10 : decode cX2_wrong 10 = .ok (.aload_n 0, 1) := by decide +kernel
theorem dX2_wrong_11 : decode cX2_wrong 11 = .ok (.getfield 11, 3) := by decide +kernel
theorem dX2_wrong_14 : decode cX2_wrong 14 = .ok (.iload_n 1, 1) := by decide +kernel
theorem dX2_wrong_15 : decode cX2_wrong 15 = .ok (.aaload, 1) := by decide +kernel
theorem dX2_wrong_16 : decode cX2_wrong 16 = .ok (.getfield 65, 3) := by decide +kernel
theorem dX2_wrong_19 : decode cX2_wrong 19 = .ok (.ifCond .le 6, 3) := by decide +kernel
theorem dX2_wrong_22 : decode cX2_wrong 22 = .ok (.bipush (-3), 2) := by decide +kernel
theorem dX2_wrong_24 : decode cX2_wrong 24 = .ok (.ireturn, 1) := by decide +kernel
theorem dX2_wrong_25 : decode cX2_wrong 25 = .ok (.aload_n 0, 1) := by decide +kernel
theorem dX2_wrong_26 : decode cX2_wrong 26 = .ok (.aload_n 0, 1) := by decide +kernel
theorem dX2_wrong_27 : decode cX2_wrong 27 = .ok (.getfield 11, 3) := by decide +kernel
theorem dX2_wrong_30 : decode cX2_wrong 30 = .ok (.iload_n 1, 1) := by decide +kernel
theorem dX2_wrong_31 : decode cX2_wrong 31 = .ok (.aaload, 1) := by decide +kernel
theorem dX2_wrong_32 : decode cX2_wrong 32 = .ok (.invokevirtual 187, 3) := by decide +kernel
theorem dX2_wrong_35 : decode cX2_wrong 35 = .ok (.istore_n 3, 1) := by decide +kernel
theorem dX2_wrong_36 : decode cX2_wrong 36 = .ok (.iload_n 2, 1) := by decide +kernel
theorem dX2_wrong_37 : decode cX2_wrong 37 = .ok (.iconst 0, 1) := by decide +kernel
theorem dX2_wrong_38 : decode cX2_wrong 38 = .ok (.iload_n 3, 1) := by decide +kernel
theorem dX2_wrong_39 : decode cX2_wrong 39 = .ok (.iconst 1, 1) := by decide +kernel
theorem dX2_wrong_40 : decode cX2_wrong 40 = .ok (.isub, 1) := by decide +kernel
theorem dX2_wrong_41 : decode cX2_wrong 41 = .ok (.invokestatic 31, 3) := by decide +kernel
theorem dX2_wrong_44 : decode cX2_wrong 44 = .ok (.ifCond .eq 12, 3) := by decide +kernel
theorem dX2_wrong_47 : decode cX2_wrong 47 = .ok (.aload_n 0, 1) := by decide +kernel
theorem dX2_wrong_48 : decode cX2_wrong 48 = .ok (.getfield 23, 3) := by decide +kernel
theorem dX2_wrong_51 : decode cX2_wrong 51 = .ok (.iload_n 2, 1) := by decide +kernel
theorem dX2_wrong_52 : decode cX2_wrong 52 = .ok (.iaload, 1) := by decide +kernel
theorem dX2_wrong_53 : decode cX2_wrong 53 = .ok (.goto 5, 3) := by decide +kernel
theorem dX2_wrong_56 : decode cX2_wrong 56 = .ok (.bipush (-99), 2) := by decide +kernel
theorem dX2_wrong_58 : decode cX2_wrong 58 = .ok (.ireturn, 1) := by decide +kernel
theorem dX2_count_0 : decode cX2_count 0 = .ok (.iload_n 1, 1) := by decide +kernel
theorem dX2_count_1 : decode cX2_count 1 = .ok (.tableswitch 60 0 4 #[35, 40, 45, 50, 55], 35) := by decide +kernel
theorem dX2_count_36 : decode cX2_count 36 = .ok (.aload_n 0, 1) := by decide +kernel
theorem dX2_count_37 : decode cX2_count 37 = .ok (.getfield 35, 3) := by decide +kernel
theorem dX2_count_40 : decode cX2_count 40 = .ok (.ireturn, 1) := by decide +kernel
theorem dX2_count_41 : decode cX2_count 41 = .ok (.aload_n 0, 1) := by decide +kernel
theorem dX2_count_42 : decode cX2_count 42 = .ok (.getfield 49, 3) := by decide +kernel
theorem dX2_count_45 : decode cX2_count 45 = .ok (.ireturn, 1) := by decide +kernel
theorem dX2_count_46 : decode cX2_count 46 = .ok (.aload_n 0, 1) := by decide +kernel
theorem dX2_count_47 : decode cX2_count 47 = .ok (.invokevirtual 191, 3) := by decide +kernel
theorem dX2_count_50 : decode cX2_count 50 = .ok (.ireturn, 1) := by decide +kernel
theorem dX2_count_51 : decode cX2_count 51 = .ok (.aload_n 0, 1) := by decide +kernel
theorem dX2_count_52 : decode cX2_count 52 = .ok (.invokevirtual 194, 3) := by decide +kernel
theorem dX2_count_55 : decode cX2_count 55 = .ok (.ireturn, 1) := by decide +kernel
theorem dX2_count_56 : decode cX2_count 56 = .ok (.aload_n 0, 1) := by decide +kernel
theorem dX2_count_57 : decode cX2_count 57 = .ok (.invokevirtual 197, 3) := by decide +kernel
theorem dX2_count_60 : decode cX2_count 60 = .ok (.ireturn, 1) := by decide +kernel
theorem dX2_count_61 : decode cX2_count 61 = .ok (.bipush (-2), 2) := by decide +kernel
theorem dX2_count_63 : decode cX2_count 63 = .ok (.ireturn, 1) := by decide +kernel
theorem dX2_within_0 : decode cX2_within 0 = .ok (.iload_n 0, 1) := by decide +kernel
theorem dX2_within_1 : decode cX2_within 1 = .ok (.iload_n 1, 1) := by decide +kernel
theorem dX2_within_2 : decode cX2_within 2 = .ok (.if_icmp .lt 12, 3) := by decide +kernel
theorem dX2_within_5 : decode cX2_within 5 = .ok (.iload_n 0, 1) := by decide +kernel
theorem dX2_within_6 : decode cX2_within 6 = .ok (.iload_n 2, 1) := by decide +kernel
theorem dX2_within_7 : decode cX2_within 7 = .ok (.if_icmp .gt 7, 3) := by decide +kernel
theorem dX2_within_10 : decode cX2_within 10 = .ok (.iconst 1, 1) := by decide +kernel
theorem dX2_within_11 : decode cX2_within 11 = .ok (.goto 4, 3) := by decide +kernel
theorem dX2_within_14 : decode cX2_within 14 = .ok (.iconst 0, 1) := by decide +kernel
theorem dX2_within_15 : decode cX2_within 15 = .ok (.ireturn, 1) := by decide +kernel
theorem dX2_isCard_0 : decode cX2_isCard 0 = .ok (.iload_n 1, 1) := by decide +kernel
theorem dX2_isCard_1 : decode cX2_isCard 1 = .ok (.iconst 0, 1) := by decide +kernel
theorem dX2_isCard_2 : decode cX2_isCard 2 = .ok (.aload_n 0, 1) := by decide +kernel
theorem dX2_isCard_3 : decode cX2_isCard 3 = .ok (.getfield 35, 3) := by decide +kernel
theorem dX2_isCard_6 : decode cX2_isCard 6 = .ok (.iconst 1, 1) := by decide +kernel
theorem dX2_isCard_7 : decode cX2_isCard 7 = .ok (.isub, 1) := by decide +kernel
theorem dX2_isCard_8 : decode cX2_isCard 8 = .ok (.invokestatic 31, 3) := by decide +kernel
theorem dX2_isCard_11 : decode cX2_isCard 11 = .ok (.ireturn, 1) := by decide +kernel
theorem dX2_isPick_0 : decode cX2_isPick 0 = .ok (.iload_n 1, 1) := by decide +kernel
theorem dX2_isPick_1 : decode cX2_isPick 1 = .ok (.iconst 0, 1) := by decide +kernel
theorem dX2_isPick_2 : decode cX2_isPick 2 = .ok (.aload_n 0, 1) := by decide +kernel
theorem dX2_isPick_3 : decode cX2_isPick 3 = .ok (.getfield 49, 3) := by decide +kernel
theorem dX2_isPick_6 : decode cX2_isPick 6 = .ok (.iconst 1, 1) := by decide +kernel
theorem dX2_isPick_7 : decode cX2_isPick 7 = .ok (.isub, 1) := by decide +kernel
theorem dX2_isPick_8 : decode cX2_isPick 8 = .ok (.invokestatic 31, 3) := by decide +kernel
theorem dX2_isPick_11 : decode cX2_isPick 11 = .ok (.ireturn, 1) := by decide +kernel
theorem dX2_isThread_0 : decode cX2_isThread 0 = .ok (.iload_n 0, 1) := by decide +kernel
theorem dX2_isThread_1 : decode cX2_isThread 1 = .ok (.iconst 0, 1) := by decide +kernel
theorem dX2_isThread_2 : decode cX2_isThread 2 = .ok (.iconst 3, 1) := by decide +kernel
theorem dX2_isThread_3 : decode cX2_isThread 3 = .ok (.invokestatic 31, 3) := by decide +kernel
theorem dX2_isThread_6 : decode cX2_isThread 6 = .ok (.ireturn, 1) := by decide +kernel
theorem dX2_isPack_0 : decode cX2_isPack 0 = .ok (.iload_n 0, 1) := by decide +kernel
theorem dX2_isPack_1 : decode cX2_isPack 1 = .ok (.iconst 0, 1) := by decide +kernel
theorem dX2_isPack_2 : decode cX2_isPack 2 = .ok (.iconst 3, 1) := by decide +kernel
theorem dX2_isPack_3 : decode cX2_isPack 3 = .ok (.invokestatic 31, 3) := by decide +kernel
theorem dX2_isPack_6 : decode cX2_isPack 6 = .ok (.ireturn, 1) := by decide +kernel
theorem dX2_isColour_0 : decode cX2_isColour 0 = .ok (.iload_n 0, 1) := by decide +kernel
theorem dX2_isColour_1 : decode cX2_isColour 1 = .ok (.iconst 0, 1) := by decide +kernel
theorem dX2_isColour_2 : decode cX2_isColour 2 = .ok (.bipush 7, 2) := by decide +kernel
theorem dX2_isColour_4 : decode cX2_isColour 4 = .ok (.invokestatic 31, 3) := by decide +kernel
theorem dX2_isColour_7 : decode cX2_isColour 7 = .ok (.ireturn, 1) := by decide +kernel
theorem dX2_isTurn_0 : decode cX2_isTurn 0 = .ok (.iload_n 0, 1) := by decide +kernel
theorem dX2_isTurn_1 : decode cX2_isTurn 1 = .ok (.iconst 0, 1) := by decide +kernel
theorem dX2_isTurn_2 : decode cX2_isTurn 2 = .ok (.iconst 2, 1) := by decide +kernel
theorem dX2_isTurn_3 : decode cX2_isTurn 3 = .ok (.invokestatic 31, 3) := by decide +kernel
theorem dX2_isTurn_6 : decode cX2_isTurn 6 = .ok (.ireturn, 1) := by decide +kernel
theorem dX2_startAgain_0 : decode cX2_startAgain 0 = .ok (.aload_n 0, 1) := by decide +kernel
theorem dX2_startAgain_1 : decode cX2_startAgain 1 = .ok (.iload_n 1, 1) := by decide +kernel
theorem dX2_startAgain_2 : decode cX2_startAgain 2 = .ok (.putfield 35, 3) := by decide +kernel
theorem dX2_startAgain_5 : decode cX2_startAgain 5 = .ok (.aload_n 0, 1) := by decide +kernel
theorem dX2_startAgain_6 : decode cX2_startAgain 6 = .ok (.iconst 0, 1) := by decide +kernel
theorem dX2_startAgain_7 : decode cX2_startAgain 7 = .ok (.putfield 49, 3) := by decide +kernel
theorem dX2_startAgain_10 : decode cX2_startAgain 10 = .ok (.aload_n 0, 1) := by decide +kernel
theorem dX2_startAgain_11 : decode cX2_startAgain 11 = .ok (.iconst 1, 1) := by decide +kernel
theorem dX2_startAgain_12 : decode cX2_startAgain 12 = .ok (.putfield 148, 3) := by decide +kernel
theorem dX2_startAgain_15 : decode cX2_startAgain 15 = .ok (.aload_n 0, 1) := by decide +kernel
theorem dX2_startAgain_16 : decode cX2_startAgain 16 = .ok (.iconst 3, 1) := by decide +kernel
theorem dX2_startAgain_17 : decode cX2_startAgain 17 = .ok (.putfield 154, 3) := by decide +kernel
theorem dX2_startAgain_20 : decode cX2_startAgain 20 = .ok (.iconst 0, 1) := by decide +kernel
theorem dX2_startAgain_21 : decode cX2_startAgain 21 = .ok (.istore_n 2, 1) := by decide +kernel
theorem dX2_startAgain_22 : decode cX2_startAgain 22 = .ok (.iload_n 2, 1) := by decide +kernel
theorem dX2_startAgain_23 : decode cX2_startAgain 23 = .ok (.bipush 16, 2) := by decide +kernel
theorem dX2_startAgain_25 : decode cX2_startAgain 25 = .ok (.if_icmp .ge 18, 3) := by decide +kernel
theorem dX2_startAgain_28 : decode cX2_startAgain 28 = .ok (.aload_n 0, 1) := by decide +kernel
theorem dX2_startAgain_29 : decode cX2_startAgain 29 = .ok (.getfield 11, 3) := by decide +kernel
theorem dX2_startAgain_32 : decode cX2_startAgain 32 = .ok (.iload_n 2, 1) := by decide +kernel
theorem dX2_startAgain_33 : decode cX2_startAgain 33 = .ok (.aaload, 1) := by decide +kernel
theorem dX2_startAgain_34 : decode cX2_startAgain 34 = .ok (.invokevirtual 200, 3) := by decide +kernel
theorem dX2_startAgain_37 : decode cX2_startAgain 37 = .ok (.iinc 2 1, 3) := by decide +kernel
theorem dX2_startAgain_40 : decode cX2_startAgain 40 = .ok (.goto (-18), 3) := by decide +kernel
theorem dX2_startAgain_43 : decode cX2_startAgain 43 = .ok (.return_, 1) := by decide +kernel
theorem dX2_turnOfBits_0 : decode cX2_turnOfBits 0 = .ok (.iload_n 0, 1) := by decide +kernel
theorem dX2_turnOfBits_1 : decode cX2_turnOfBits 1 = .ok (.iload_n 2, 1) := by decide +kernel
theorem dX2_turnOfBits_2 : decode cX2_turnOfBits 2 = .ok (.ishr, 1) := by decide +kernel
theorem dX2_turnOfBits_3 : decode cX2_turnOfBits 3 = .ok (.iconst 1, 1) := by decide +kernel
theorem dX2_turnOfBits_4 : decode cX2_turnOfBits 4 = .ok (.iand, 1) := by decide +kernel
theorem dX2_turnOfBits_5 : decode cX2_turnOfBits 5 = .ok (.iconst 1, 1) := by decide +kernel
theorem dX2_turnOfBits_6 : decode cX2_turnOfBits 6 = .ok (.if_icmp .ne 5, 3) := by decide +kernel
theorem dX2_turnOfBits_9 : decode cX2_turnOfBits 9 = .ok (.iconst 0, 1) := by decide +kernel
theorem dX2_turnOfBits_10 : decode cX2_turnOfBits 10 = .ok (.ireturn, 1) := by decide +kernel
theorem dX2_turnOfBits_11 : decode cX2_turnOfBits 11 = .ok (.iload_n 1, 1) := by decide +kernel
theorem dX2_turnOfBits_12 : decode cX2_turnOfBits 12 = .ok (.iload_n 2, 1) := by decide +kernel
theorem dX2_turnOfBits_13 : decode cX2_turnOfBits 13 = .ok (.ishr, 1) := by decide +kernel
theorem dX2_turnOfBits_14 : decode cX2_turnOfBits 14 = .ok (.iconst 1, 1) := by decide +kernel
theorem dX2_turnOfBits_15 : decode cX2_turnOfBits 15 = .ok (.iand, 1) := by decide +kernel
theorem dX2_turnOfBits_16 : decode cX2_turnOfBits 16 = .ok (.iconst 1, 1) := by decide +kernel
theorem dX2_turnOfBits_17 : decode cX2_turnOfBits 17 = .ok (.if_icmp .ne 7, 3) := by decide +kernel
theorem dX2_turnOfBits_20 : decode cX2_turnOfBits 20 = .ok (.iconst 1, 1) := by decide +kernel
theorem dX2_turnOfBits_21 : decode cX2_turnOfBits 21 = .ok (.goto 4, 3) := by decide +kernel
theorem dX2_turnOfBits_24 : decode cX2_turnOfBits 24 = .ok (.iconst 2, 1) := by decide +kernel
theorem dX2_turnOfBits_25 : decode cX2_turnOfBits 25 = .ok (.ireturn, 1) := by decide +kernel
theorem dX2_turnOfPack_0 : decode cX2_turnOfPack 0 = .ok (.iload_n 0, 1) := by decide +kernel
theorem dX2_turnOfPack_1 : decode cX2_turnOfPack 1 = .ok (.tableswitch 33 0 2 #[27, 29, 31], 27) := by decide +kernel
theorem dX2_turnOfPack_28 : decode cX2_turnOfPack 28 = .ok (.iload_n 1, 1) := by decide +kernel
theorem dX2_turnOfPack_29 : decode cX2_turnOfPack 29 = .ok (.ireturn, 1) := by decide +kernel
theorem dX2_turnOfPack_30 : decode cX2_turnOfPack 30 = .ok (.iload_n 2, 1) := by decide +kernel
theorem dX2_turnOfPack_31 : decode cX2_turnOfPack 31 = .ok (.ireturn, 1) := by decide +kernel
theorem dX2_turnOfPack_32 : decode cX2_turnOfPack 32 = .ok (.iload_n 3, 1) := by decide +kernel
theorem dX2_turnOfPack_33 : decode cX2_turnOfPack 33 = .ok (.ireturn, 1) := by decide +kernel
theorem dX2_turnOfPack_34 : decode cX2_turnOfPack 34 = .ok (.iload 4, 2) := by decide +kernel
theorem dX2_turnOfPack_36 : decode cX2_turnOfPack 36 = .ok (.ireturn, 1) := by decide +kernel
theorem dX2_likeRows_0 : decode cX2_likeRows 0 = .ok (.iconst 0, 1) := by decide +kernel
theorem dX2_likeRows_1 : decode cX2_likeRows 1 = .ok (.istore_n 3, 1) := by decide +kernel
theorem dX2_likeRows_2 : decode cX2_likeRows 2 = .ok (.iload_n 3, 1) := by decide +kernel
theorem dX2_likeRows_3 : decode cX2_likeRows 3 = .ok (.aload_n 0, 1) := by decide +kernel
theorem dX2_likeRows_4 : decode cX2_likeRows 4 = .ok (.getfield 35, 3) := by decide +kernel
theorem dX2_likeRows_7 : decode cX2_likeRows 7 = .ok (.if_icmp .ge 36, 3) := by decide +kernel
theorem dX2_likeRows_10 : decode cX2_likeRows 10 = .ok (.aload_n 0, 1) := by decide +kernel
theorem dX2_likeRows_11 : decode cX2_likeRows 11 = .ok (.getfield 11, 3) := by decide +kernel
theorem dX2_likeRows_14 : decode cX2_likeRows 14 = .ok (.iload_n 3, 1) := by decide +kernel
theorem dX2_likeRows_15 : decode cX2_likeRows 15 = .ok (.aaload, 1) := by decide +kernel
theorem dX2_likeRows_16 : decode cX2_likeRows 16 = .ok (.iload_n 1, 1) := by decide +kernel
theorem dX2_likeRows_17 : decode cX2_likeRows 17 = .ok (.iconst 0, 1) := by decide +kernel
theorem dX2_likeRows_18 : decode cX2_likeRows 18 = .ok (.invokevirtual 108, 3) := by decide +kernel
theorem dX2_likeRows_21 : decode cX2_likeRows 21 = .ok (.aload_n 0, 1) := by decide +kernel
theorem dX2_likeRows_22 : decode cX2_likeRows 22 = .ok (.getfield 11, 3) := by decide +kernel
theorem dX2_likeRows_25 : decode cX2_likeRows 25 = .ok (.iload_n 3, 1) := by decide +kernel
theorem dX2_likeRows_26 : decode cX2_likeRows 26 = .ok (.aaload, 1) := by decide +kernel
theorem dX2_likeRows_27 : decode cX2_likeRows 27 = .ok (.iload_n 2, 1) := by decide +kernel
theorem dX2_likeRows_28 : decode cX2_likeRows 28 = .ok (.iconst 0, 1) := by decide +kernel
theorem dX2_likeRows_29 : decode cX2_likeRows 29 = .ok (.invokevirtual 108, 3) := by decide +kernel
theorem dX2_likeRows_32 : decode cX2_likeRows 32 = .ok (.if_icmp .eq 5, 3) := by decide +kernel
theorem dX2_likeRows_35 : decode cX2_likeRows 35 = .ok (.iconst 0, 1) := by decide +kernel
theorem dX2_likeRows_36 : decode cX2_likeRows 36 = .ok (.ireturn, 1) := by decide +kernel
theorem dX2_likeRows_37 : decode cX2_likeRows 37 = .ok (.iinc 3 1, 3) := by decide +kernel
theorem dX2_likeRows_40 : decode cX2_likeRows 40 = .ok (.goto (-38), 3) := by decide +kernel
theorem dX2_likeRows_43 : decode cX2_likeRows 43 = .ok (.iconst 1, 1) := by decide +kernel
theorem dX2_likeRows_44 : decode cX2_likeRows 44 = .ok (.ireturn, 1) := by decide +kernel
theorem dX2_repeatsBy_0 : decode cX2_repeatsBy 0 = .ok (.iload_n 1, 1) := by decide +kernel
theorem dX2_repeatsBy_1 : decode cX2_repeatsBy 1 = .ok (.istore_n 2, 1) := by decide +kernel
theorem dX2_repeatsBy_2 : decode cX2_repeatsBy 2 = .ok (.iload_n 2, 1) := by decide +kernel
theorem dX2_repeatsBy_3 : decode cX2_repeatsBy 3 = .ok (.aload_n 0, 1) := by decide +kernel
theorem dX2_repeatsBy_4 : decode cX2_repeatsBy 4 = .ok (.getfield 49, 3) := by decide +kernel
theorem dX2_repeatsBy_7 : decode cX2_repeatsBy 7 = .ok (.if_icmp .ge 22, 3) := by decide +kernel
theorem dX2_repeatsBy_10 : decode cX2_repeatsBy 10 = .ok (.aload_n 0, 1) := by decide +kernel
theorem dX2_repeatsBy_11 : decode cX2_repeatsBy 11 = .ok (.iload_n 2, 1) := by decide +kernel
theorem dX2_repeatsBy_12 : decode cX2_repeatsBy 12 = .ok (.iload_n 2, 1) := by decide +kernel
theorem dX2_repeatsBy_13 : decode cX2_repeatsBy 13 = .ok (.iload_n 1, 1) := by decide +kernel
theorem dX2_repeatsBy_14 : decode cX2_repeatsBy 14 = .ok (.isub, 1) := by decide +kernel
theorem dX2_repeatsBy_15 : decode cX2_repeatsBy 15 = .ok (.invokevirtual 203, 3) := by decide +kernel
theorem dX2_repeatsBy_18 : decode cX2_repeatsBy 18 = .ok (.ifCond .ne 5, 3) := by decide +kernel
theorem dX2_repeatsBy_21 : decode cX2_repeatsBy 21 = .ok (.iconst 0, 1) := by decide +kernel
theorem dX2_repeatsBy_22 : decode cX2_repeatsBy 22 = .ok (.ireturn, 1) := by decide +kernel
theorem dX2_repeatsBy_23 : decode cX2_repeatsBy 23 = .ok (.iinc 2 1, 3) := by decide +kernel
theorem dX2_repeatsBy_26 : decode cX2_repeatsBy 26 = .ok (.goto (-24), 3) := by decide +kernel
theorem dX2_repeatsBy_29 : decode cX2_repeatsBy 29 = .ok (.iconst 1, 1) := by decide +kernel
theorem dX2_repeatsBy_30 : decode cX2_repeatsBy 30 = .ok (.ireturn, 1) := by decide +kernel
theorem dX2_shownAhead_0 : decode cX2_shownAhead 0 = .ok (.iconst 0, 1) := by decide +kernel
theorem dX2_shownAhead_1 : decode cX2_shownAhead 1 = .ok (.istore_n 2, 1) := by decide +kernel
theorem dX2_shownAhead_2 : decode cX2_shownAhead 2 = .ok (.iload_n 2, 1) := by decide +kernel
theorem dX2_shownAhead_3 : decode cX2_shownAhead 3 = .ok (.iload_n 1, 1) := by decide +kernel
theorem dX2_shownAhead_4 : decode cX2_shownAhead 4 = .ok (.if_icmp .ge 20, 3) := by decide +kernel
theorem dX2_shownAhead_7 : decode cX2_shownAhead 7 = .ok (.aload_n 0, 1) := by decide +kernel
theorem dX2_shownAhead_8 : decode cX2_shownAhead 8 = .ok (.iload_n 2, 1) := by decide +kernel
theorem dX2_shownAhead_9 : decode cX2_shownAhead 9 = .ok (.iload_n 1, 1) := by decide +kernel
theorem dX2_shownAhead_10 : decode cX2_shownAhead 10 = .ok (.invokevirtual 203, 3) := by decide +kernel
theorem dX2_shownAhead_13 : decode cX2_shownAhead 13 = .ok (.ifCond .eq 5, 3) := by decide +kernel
theorem dX2_shownAhead_16 : decode cX2_shownAhead 16 = .ok (.iconst 1, 1) := by decide +kernel
theorem dX2_shownAhead_17 : decode cX2_shownAhead 17 = .ok (.ireturn, 1) := by decide +kernel
theorem dX2_shownAhead_18 : decode cX2_shownAhead 18 = .ok (.iinc 2 1, 3) := by decide +kernel
theorem dX2_shownAhead_21 : decode cX2_shownAhead 21 = .ok (.goto (-19), 3) := by decide +kernel
theorem dX2_shownAhead_24 : decode cX2_shownAhead 24 = .ok (.iconst 0, 1) := by decide +kernel
theorem dX2_shownAhead_25 : decode cX2_shownAhead 25 = .ok (.ireturn, 1) := by decide +kernel
theorem dX2_mirroredIn_0 : decode cX2_mirroredIn 0 = .ok (.iconst 0, 1) := by decide +kernel
theorem dX2_mirroredIn_1 : decode cX2_mirroredIn 1 = .ok (.istore_n 2, 1) := by decide +kernel
theorem dX2_mirroredIn_2 : decode cX2_mirroredIn 2 = .ok (.iload_n 2, 1) := by decide +kernel
theorem dX2_mirroredIn_3 : decode cX2_mirroredIn 3 = .ok (.aload_n 0, 1) := by decide +kernel
theorem dX2_mirroredIn_4 : decode cX2_mirroredIn 4 = .ok (.getfield 35, 3) := by decide +kernel
theorem dX2_mirroredIn_7 : decode cX2_mirroredIn 7 = .ok (.if_icmp .ge 43, 3) := by decide +kernel
theorem dX2_mirroredIn_10 : decode cX2_mirroredIn 10 = .ok (.aload_n 0, 1) := by decide +kernel
theorem dX2_mirroredIn_11 : decode cX2_mirroredIn 11 = .ok (.getfield 11, 3) := by decide +kernel
theorem dX2_mirroredIn_14 : decode cX2_mirroredIn 14 = .ok (.iload_n 2, 1) := by decide +kernel
theorem dX2_mirroredIn_15 : decode cX2_mirroredIn 15 = .ok (.aaload, 1) := by decide +kernel
theorem dX2_mirroredIn_16 : decode cX2_mirroredIn 16 = .ok (.iload_n 1, 1) := by decide +kernel
theorem dX2_mirroredIn_17 : decode cX2_mirroredIn 17 = .ok (.iconst 0, 1) := by decide +kernel
theorem dX2_mirroredIn_18 : decode cX2_mirroredIn 18 = .ok (.invokevirtual 108, 3) := by decide +kernel
theorem dX2_mirroredIn_21 : decode cX2_mirroredIn 21 = .ok (.aload_n 0, 1) := by decide +kernel
theorem dX2_mirroredIn_22 : decode cX2_mirroredIn 22 = .ok (.getfield 11, 3) := by decide +kernel
theorem dX2_mirroredIn_25 : decode cX2_mirroredIn 25 = .ok (.aload_n 0, 1) := by decide +kernel
theorem dX2_mirroredIn_26 : decode cX2_mirroredIn 26 = .ok (.getfield 35, 3) := by decide +kernel
theorem dX2_mirroredIn_29 : decode cX2_mirroredIn 29 = .ok (.iconst 1, 1) := by decide +kernel
theorem dX2_mirroredIn_30 : decode cX2_mirroredIn 30 = .ok (.isub, 1) := by decide +kernel
theorem dX2_mirroredIn_31 : decode cX2_mirroredIn 31 = .ok (.iload_n 2, 1) := by decide +kernel
theorem dX2_mirroredIn_32 : decode cX2_mirroredIn 32 = .ok (.isub, 1) := by decide +kernel
theorem dX2_mirroredIn_33 : decode cX2_mirroredIn 33 = .ok (.aaload, 1) := by decide +kernel
theorem dX2_mirroredIn_34 : decode cX2_mirroredIn 34 = .ok (.iload_n 1, 1) := by decide +kernel
theorem dX2_mirroredIn_35 : decode cX2_mirroredIn 35 = .ok (.iconst 0, 1) := by decide +kernel
theorem dX2_mirroredIn_36 : decode cX2_mirroredIn 36 = .ok (.invokevirtual 108, 3) := by decide +kernel
theorem dX2_mirroredIn_39 : decode cX2_mirroredIn 39 = .ok (.if_icmp .eq 5, 3) := by decide +kernel
theorem dX2_mirroredIn_42 : decode cX2_mirroredIn 42 = .ok (.iconst 0, 1) := by decide +kernel
theorem dX2_mirroredIn_43 : decode cX2_mirroredIn 43 = .ok (.ireturn, 1) := by decide +kernel
theorem dX2_mirroredIn_44 : decode cX2_mirroredIn 44 = .ok (.iinc 2 1, 3) := by decide +kernel
theorem dX2_mirroredIn_47 : decode cX2_mirroredIn 47 = .ok (.goto (-45), 3) := by decide +kernel
theorem dX2_mirroredIn_50 : decode cX2_mirroredIn 50 = .ok (.iconst 1, 1) := by decide +kernel
theorem dX2_mirroredIn_51 : decode cX2_mirroredIn 51 = .ok (.ireturn, 1) := by decide +kernel
theorem dX2_likeBackIn_0 : decode cX2_likeBackIn 0 = .ok (.iconst 0, 1) := by decide +kernel
theorem dX2_likeBackIn_1 : decode cX2_likeBackIn 1 = .ok (.istore_n 2, 1) := by decide +kernel
theorem dX2_likeBackIn_2 : decode cX2_likeBackIn 2 = .ok (.iload_n 2, 1) := by decide +kernel
theorem dX2_likeBackIn_3 : decode cX2_likeBackIn 3 = .ok (.aload_n 0, 1) := by decide +kernel
theorem dX2_likeBackIn_4 : decode cX2_likeBackIn 4 = .ok (.getfield 35, 3) := by decide +kernel
theorem dX2_likeBackIn_7 : decode cX2_likeBackIn 7 = .ok (.if_icmp .ge 36, 3) := by decide +kernel
theorem dX2_likeBackIn_10 : decode cX2_likeBackIn 10 = .ok (.aload_n 0, 1) := by decide +kernel
theorem dX2_likeBackIn_11 : decode cX2_likeBackIn 11 = .ok (.getfield 11, 3) := by decide +kernel
theorem dX2_likeBackIn_14 : decode cX2_likeBackIn 14 = .ok (.iload_n 2, 1) := by decide +kernel
theorem dX2_likeBackIn_15 : decode cX2_likeBackIn 15 = .ok (.aaload, 1) := by decide +kernel
theorem dX2_likeBackIn_16 : decode cX2_likeBackIn 16 = .ok (.iload_n 1, 1) := by decide +kernel
theorem dX2_likeBackIn_17 : decode cX2_likeBackIn 17 = .ok (.iconst 0, 1) := by decide +kernel
theorem dX2_likeBackIn_18 : decode cX2_likeBackIn 18 = .ok (.invokevirtual 108, 3) := by decide +kernel
theorem dX2_likeBackIn_21 : decode cX2_likeBackIn 21 = .ok (.aload_n 0, 1) := by decide +kernel
theorem dX2_likeBackIn_22 : decode cX2_likeBackIn 22 = .ok (.getfield 11, 3) := by decide +kernel
theorem dX2_likeBackIn_25 : decode cX2_likeBackIn 25 = .ok (.iload_n 2, 1) := by decide +kernel
theorem dX2_likeBackIn_26 : decode cX2_likeBackIn 26 = .ok (.aaload, 1) := by decide +kernel
theorem dX2_likeBackIn_27 : decode cX2_likeBackIn 27 = .ok (.iload_n 1, 1) := by decide +kernel
theorem dX2_likeBackIn_28 : decode cX2_likeBackIn 28 = .ok (.iconst 1, 1) := by decide +kernel
theorem dX2_likeBackIn_29 : decode cX2_likeBackIn 29 = .ok (.invokevirtual 108, 3) := by decide +kernel
theorem dX2_likeBackIn_32 : decode cX2_likeBackIn 32 = .ok (.if_icmp .eq 5, 3) := by decide +kernel
theorem dX2_likeBackIn_35 : decode cX2_likeBackIn 35 = .ok (.iconst 0, 1) := by decide +kernel
theorem dX2_likeBackIn_36 : decode cX2_likeBackIn 36 = .ok (.ireturn, 1) := by decide +kernel
theorem dX2_likeBackIn_37 : decode cX2_likeBackIn 37 = .ok (.iinc 2 1, 3) := by decide +kernel
theorem dX2_likeBackIn_40 : decode cX2_likeBackIn 40 = .ok (.goto (-38), 3) := by decide +kernel
theorem dX2_likeBackIn_43 : decode cX2_likeBackIn 43 = .ok (.iconst 1, 1) := by decide +kernel
theorem dX2_likeBackIn_44 : decode cX2_likeBackIn 44 = .ok (.ireturn, 1) := by decide +kernel
theorem dX2_goingOf_0 : decode cX2_goingOf 0 = .ok (.iconst 0, 1) := by decide +kernel
theorem dX2_goingOf_1 : decode cX2_goingOf 1 = .ok (.istore_n 3, 1) := by decide +kernel
theorem dX2_goingOf_2 : decode cX2_goingOf 2 = .ok (.iload_n 3, 1) := by decide +kernel
theorem dX2_goingOf_3 : decode cX2_goingOf 3 = .ok (.bipush 60, 2) := by decide +kernel
theorem dX2_goingOf_5 : decode cX2_goingOf 5 = .ok (.if_icmp .gt 35, 3) := by decide +kernel
theorem dX2_goingOf_8 : decode cX2_goingOf 8 = .ok (.aload_n 0, 1) := by decide +kernel
theorem dX2_goingOf_9 : decode cX2_goingOf 9 = .ok (.iload_n 1, 1) := by decide +kernel
theorem dX2_goingOf_10 : decode cX2_goingOf 10 = .ok (.iload_n 3, 1) := by decide +kernel
theorem dX2_goingOf_11 : decode cX2_goingOf 11 = .ok (.iload_n 2, 1) := by decide +kernel
theorem dX2_goingOf_12 : decode cX2_goingOf 12 = .ok (.invokevirtual 206, 3) := by decide +kernel
theorem dX2_goingOf_15 : decode cX2_goingOf 15 = .ok (.ifCond .eq 5, 3) := by decide +kernel
theorem dX2_goingOf_18 : decode cX2_goingOf 18 = .ok (.iload_n 3, 1) := by decide +kernel
theorem dX2_goingOf_19 : decode cX2_goingOf 19 = .ok (.ireturn, 1) := by decide +kernel
theorem dX2_goingOf_20 : decode cX2_goingOf 20 = .ok (.aload_n 0, 1) := by decide +kernel
theorem dX2_goingOf_21 : decode cX2_goingOf 21 = .ok (.iload_n 1, 1) := by decide +kernel
theorem dX2_goingOf_22 : decode cX2_goingOf 22 = .ok (.iload_n 3, 1) := by decide +kernel
theorem dX2_goingOf_23 : decode cX2_goingOf 23 = .ok (.ineg, 1) := by decide +kernel
theorem dX2_goingOf_24 : decode cX2_goingOf 24 = .ok (.iload_n 2, 1) := by decide +kernel
theorem dX2_goingOf_25 : decode cX2_goingOf 25 = .ok (.invokevirtual 206, 3) := by decide +kernel
theorem dX2_goingOf_28 : decode cX2_goingOf 28 = .ok (.ifCond .eq 6, 3) := by decide +kernel
theorem dX2_goingOf_31 : decode cX2_goingOf 31 = .ok (.iload_n 3, 1) := by decide +kernel
theorem dX2_goingOf_32 : decode cX2_goingOf 32 = .ok (.ineg, 1) := by decide +kernel
theorem dX2_goingOf_33 : decode cX2_goingOf 33 = .ok (.ireturn, 1) := by decide +kernel
theorem dX2_goingOf_34 : decode cX2_goingOf 34 = .ok (.iinc 3 1, 3) := by decide +kernel
theorem dX2_goingOf_37 : decode cX2_goingOf 37 = .ok (.goto (-35), 3) := by decide +kernel
theorem dX2_goingOf_40 : decode cX2_goingOf 40 = .ok (.bipush (-99), 2) := by decide +kernel
theorem dX2_goingOf_42 : decode cX2_goingOf 42 = .ok (.ireturn, 1) := by decide +kernel
theorem dX2_evensOut_0 : decode cX2_evensOut 0 = .ok (.iconst 0, 1) := by decide +kernel
theorem dX2_evensOut_1 : decode cX2_evensOut 1 = .ok (.istore 4, 2) := by decide +kernel
theorem dX2_evensOut_3 : decode cX2_evensOut 3 = .ok (.iload 4, 2) := by decide +kernel
theorem dX2_evensOut_5 : decode cX2_evensOut 5 = .ok (.aload_n 0, 1) := by decide +kernel
theorem dX2_evensOut_6 : decode cX2_evensOut 6 = .ok (.getfield 35, 3) := by decide +kernel
theorem dX2_evensOut_9 : decode cX2_evensOut 9 = .ok (.if_icmp .ge 49, 3) := by decide +kernel
theorem dX2_evensOut_12 : decode cX2_evensOut 12 = .ok (.aload_n 0, 1) := by decide +kernel
theorem dX2_evensOut_13 : decode cX2_evensOut 13 = .ok (.getfield 11, 3) := by decide +kernel
theorem dX2_evensOut_16 : decode cX2_evensOut 16 = .ok (.iload 4, 2) := by decide +kernel
theorem dX2_evensOut_18 : decode cX2_evensOut 18 = .ok (.aaload, 1) := by decide +kernel
theorem dX2_evensOut_19 : decode cX2_evensOut 19 = .ok (.astore 5, 2) := by decide +kernel
theorem dX2_evensOut_21 : decode cX2_evensOut 21 = .ok (.aload 5, 2) := by decide +kernel
theorem dX2_evensOut_23 : decode cX2_evensOut 23 = .ok (.getfield 71, 3) := by decide +kernel
theorem dX2_evensOut_26 : decode cX2_evensOut 26 = .ok (.iload_n 1, 1) := by decide +kernel
theorem dX2_evensOut_27 : decode cX2_evensOut 27 = .ok (.if_icmp .ne 25, 3) := by decide +kernel
theorem dX2_evensOut_30 : decode cX2_evensOut 30 = .ok (.aload 5, 2) := by decide +kernel
theorem dX2_evensOut_32 : decode cX2_evensOut 32 = .ok (.getfield 74, 3) := by decide +kernel
theorem dX2_evensOut_35 : decode cX2_evensOut 35 = .ok (.iload_n 2, 1) := by decide +kernel
theorem dX2_evensOut_36 : decode cX2_evensOut 36 = .ok (.aload 5, 2) := by decide +kernel
theorem dX2_evensOut_38 : decode cX2_evensOut 38 = .ok (.invokevirtual 209, 3) := by decide +kernel
theorem dX2_evensOut_41 : decode cX2_evensOut 41 = .ok (.imul, 1) := by decide +kernel
theorem dX2_evensOut_42 : decode cX2_evensOut 42 = .ok (.iadd, 1) := by decide +kernel
theorem dX2_evensOut_43 : decode cX2_evensOut 43 = .ok (.invokestatic 133, 3) := by decide +kernel
theorem dX2_evensOut_46 : decode cX2_evensOut 46 = .ok (.iload_n 3, 1) := by decide +kernel
theorem dX2_evensOut_47 : decode cX2_evensOut 47 = .ok (.if_icmp .le 5, 3) := by decide +kernel
theorem dX2_evensOut_50 : decode cX2_evensOut 50 = .ok (.iconst 0, 1) := by decide +kernel
theorem dX2_evensOut_51 : decode cX2_evensOut 51 = .ok (.ireturn, 1) := by decide +kernel
theorem dX2_evensOut_52 : decode cX2_evensOut 52 = .ok (.iinc 4 1, 3) := by decide +kernel
theorem dX2_evensOut_55 : decode cX2_evensOut 55 = .ok (.goto (-52), 3) := by decide +kernel
theorem dX2_evensOut_58 : decode cX2_evensOut 58 = .ok (.iconst 1, 1) := by decide +kernel
theorem dX2_evensOut_59 : decode cX2_evensOut 59 = .ok (.ireturn, 1) := by decide +kernel
theorem dX2_wovenRows_0 : decode cX2_wovenRows 0 = .ok (.aload_n 0, 1) := by decide +kernel
theorem dX2_wovenRows_1 : decode cX2_wovenRows 1 = .ok (.getfield 148, 3) := by decide +kernel
theorem dX2_wovenRows_4 : decode cX2_wovenRows 4 = .ok (.aload_n 0, 1) := by decide +kernel
theorem dX2_wovenRows_5 : decode cX2_wovenRows 5 = .ok (.getfield 49, 3) := by decide +kernel
theorem dX2_wovenRows_8 : decode cX2_wovenRows 8 = .ok (.invokestatic 212, 3) := by decide +kernel
theorem dX2_wovenRows_11 : decode cX2_wovenRows 11 = .ok (.ireturn, 1) := by decide +kernel
theorem dX2_forgetPlans_0 : decode cX2_forgetPlans 0 = .ok (.iconst 0, 1) := by decide +kernel
theorem dX2_forgetPlans_1 : decode cX2_forgetPlans 1 = .ok (.istore_n 1, 1) := by decide +kernel
theorem dX2_forgetPlans_2 : decode cX2_forgetPlans 2 = .ok (.iload_n 1, 1) := by decide +kernel
theorem dX2_forgetPlans_3 : decode cX2_forgetPlans 3 = .ok (.aload_n 0, 1) := by decide +kernel
theorem dX2_forgetPlans_4 : decode cX2_forgetPlans 4 = .ok (.getfield 35, 3) := by decide +kernel
theorem dX2_forgetPlans_7 : decode cX2_forgetPlans 7 = .ok (.if_icmp .ge 19, 3) := by decide +kernel
theorem dX2_forgetPlans_10 : decode cX2_forgetPlans 10 = .ok (.aload_n 0, 1) := by decide +kernel
theorem dX2_forgetPlans_11 : decode cX2_forgetPlans 11 = .ok (.getfield 11, 3) := by decide +kernel
theorem dX2_forgetPlans_14 : decode cX2_forgetPlans 14 = .ok (.iload_n 1, 1) := by decide +kernel
theorem dX2_forgetPlans_15 : decode cX2_forgetPlans 15 = .ok (.aaload, 1) := by decide +kernel
theorem dX2_forgetPlans_16 : decode cX2_forgetPlans 16 = .ok (.iconst 0, 1) := by decide +kernel
theorem dX2_forgetPlans_17 : decode cX2_forgetPlans 17 = .ok (.putfield 55, 3) := by decide +kernel
theorem dX2_forgetPlans_20 : decode cX2_forgetPlans 20 = .ok (.iinc 1 1, 3) := by decide +kernel
theorem dX2_forgetPlans_23 : decode cX2_forgetPlans 23 = .ok (.goto (-21), 3) := by decide +kernel
theorem dX2_forgetPlans_26 : decode cX2_forgetPlans 26 = .ok (.return_, 1) := by decide +kernel
theorem dX2_plannedCard_0 : decode cX2_plannedCard 0 = .ok (.aload_n 0, 1) := by decide +kernel
theorem dX2_plannedCard_1 : decode cX2_plannedCard 1 = .ok (.getfield 11, 3) := by decide +kernel
theorem dX2_plannedCard_4 : decode cX2_plannedCard 4 = .ok (.iload_n 1, 1) := by decide +kernel
theorem dX2_plannedCard_5 : decode cX2_plannedCard 5 = .ok (.aaload, 1) := by decide +kernel
theorem dX2_plannedCard_6 : decode cX2_plannedCard 6 = .ok (.astore_n 2, 1) := by decide +kernel
theorem dX2_plannedCard_7 : decode cX2_plannedCard 7 = .ok (.aload_n 2, 1) := by decide +kernel
theorem dX2_plannedCard_8 : decode cX2_plannedCard 8 = .ok (.getfield 55, 3) := by decide +kernel
theorem dX2_plannedCard_11 : decode cX2_plannedCard 11 = .ok (.ifCond .ne 28, 3) := by decide +kernel
theorem dX2_plannedCard_14 : decode cX2_plannedCard 14 = .ok (.aload_n 0, 1) := by decide +kernel
theorem dX2_plannedCard_15 : decode cX2_plannedCard 15 = .ok (.getfield 19, 3) := by decide +kernel
theorem dX2_plannedCard_18 : decode cX2_plannedCard 18 = .ok (.aload_n 2, 1) := by decide +kernel
theorem dX2_plannedCard_19 : decode cX2_plannedCard 19 = .ok (.aload_n 0, 1) := by decide +kernel
theorem dX2_plannedCard_20 : decode cX2_plannedCard 20 = .ok (.getfield 49, 3) := by decide +kernel
theorem dX2_plannedCard_23 : decode cX2_plannedCard 23 = .ok (.aload_n 0, 1) := by decide +kernel
theorem dX2_plannedCard_24 : decode cX2_plannedCard 24 = .ok (.getfield 148, 3) := by decide +kernel
theorem dX2_plannedCard_27 : decode cX2_plannedCard 27 = .ok (.aload_n 0, 1) := by decide +kernel
theorem dX2_plannedCard_28 : decode cX2_plannedCard 28 = .ok (.getfield 154, 3) := by decide +kernel
theorem dX2_plannedCard_31 : decode cX2_plannedCard 31 = .ok (.invokevirtual 215, 3) := by decide +kernel
theorem dX2_plannedCard_34 : decode cX2_plannedCard 34 = .ok (.aload_n 2, 1) := by decide +kernel
theorem dX2_plannedCard_35 : decode cX2_plannedCard 35 = .ok (.iconst 1, 1) := by decide +kernel
theorem dX2_plannedCard_36 : decode cX2_plannedCard 36 = .ok (.putfield 55, 3) := by decide +kernel
theorem dX2_plannedCard_39 : decode cX2_plannedCard 39 = .ok (.aload_n 2, 1) := by decide +kernel
theorem dX2_plannedCard_40 : decode cX2_plannedCard 40 = .ok (.areturn, 1) := by decide +kernel
theorem dX2_listWrongTurns_0 : decode cX2_listWrongTurns 0 = .ok (.aload_n 0, 1) := by decide +kernel
theorem dX2_listWrongTurns_1 : decode cX2_listWrongTurns 1 = .ok (.invokevirtual 157, 3) := by decide +kernel
theorem dX2_listWrongTurns_4 : decode cX2_listWrongTurns 4 = .ok (.istore_n 2, 1) := by decide +kernel
theorem dX2_listWrongTurns_5 : decode cX2_listWrongTurns 5 = .ok (.iconst 0, 1) := by decide +kernel
theorem dX2_listWrongTurns_6 : decode cX2_listWrongTurns 6 = .ok (.istore_n 3, 1) := by decide +kernel
theorem dX2_listWrongTurns_7 : decode cX2_listWrongTurns 7 = .ok (.iconst 0, 1) := by decide +kernel
theorem dX2_listWrongTurns_8 : decode cX2_listWrongTurns 8 = .ok (.istore 4, 2) := by decide +kernel
theorem dX2_listWrongTurns_10 : decode cX2_listWrongTurns 10 = .ok (.iload 4, 2) := by decide +kernel
theorem dX2_listWrongTurns_12 : decode cX2_listWrongTurns 12 = .ok (.iload_n 2, 1) := by decide +kernel
theorem dX2_listWrongTurns_13 : decode cX2_listWrongTurns 13 = .ok (.if_icmp .ge 65, 3) := by decide +kernel
theorem dX2_listWrongTurns_16 : decode cX2_listWrongTurns 16 = .ok (.iconst 0, 1) := by decide +kernel
theorem dX2_listWrongTurns_17 : decode cX2_listWrongTurns 17 = .ok (.istore 5, 2) := by decide +kernel
theorem dX2_listWrongTurns_19 : decode cX2_listWrongTurns 19 = .ok (.iload 5, 2) := by decide +kernel
theorem dX2_listWrongTurns_21 : decode cX2_listWrongTurns 21 = .ok (.iconst 3, 1) := by decide +kernel
theorem dX2_listWrongTurns_22 : decode cX2_listWrongTurns 22 = .ok (.if_icmp .ge 50, 3) := by decide +kernel
theorem dX2_listWrongTurns_25 : decode cX2_listWrongTurns 25 = .ok (.iload 5, 2) := by decide +kernel
theorem dX2_listWrongTurns_27 : decode cX2_listWrongTurns 27 = .ok (.aload_n 1, 1) := by decide +kernel
theorem dX2_listWrongTurns_28 : decode cX2_listWrongTurns 28 = .ok (.getfield 105, 3) := by decide +kernel
theorem dX2_listWrongTurns_31 : decode cX2_listWrongTurns 31 = .ok (.iload 4, 2) := by decide +kernel
theorem dX2_listWrongTurns_33 : decode cX2_listWrongTurns 33 = .ok (.iaload, 1) := by decide +kernel
theorem dX2_listWrongTurns_34 : decode cX2_listWrongTurns 34 = .ok (.if_icmp .eq 32, 3) := by decide +kernel
theorem dX2_listWrongTurns_37 : decode cX2_listWrongTurns 37 = .ok (.aload_n 1, 1) := by decide +kernel
theorem dX2_listWrongTurns_38 : decode cX2_listWrongTurns 38 = .ok (.iload 4, 2) := by decide +kernel
theorem dX2_listWrongTurns_40 : decode cX2_listWrongTurns 40 = .ok (.iload 5, 2) := by decide +kernel
theorem dX2_listWrongTurns_42 : decode cX2_listWrongTurns 42 = .ok (.iload_n 2, 1) := by decide +kernel
theorem dX2_listWrongTurns_43 : decode cX2_listWrongTurns 43 = .ok (.invokevirtual 218, 3) := by decide +kernel
theorem dX2_listWrongTurns_46 : decode cX2_listWrongTurns 46 = .ok (.ifCond .eq 20, 3) := by decide +kernel
theorem dX2_listWrongTurns_49 : decode cX2_listWrongTurns 49 = .ok (.aload_n 0, 1) := by decide +kernel
theorem dX2_listWrongTurns_50 : decode cX2_listWrongTurns 50 = .ok (.getfield 23, 3) := by decide +kernel
theorem dX2_listWrongTurns_53 : decode cX2_listWrongTurns 53 = .ok (.iload_n 3, 1) := by decide +kernel
theorem dX2_listWrongTurns_54 : decode cX2_listWrongTurns 54 = .ok (.bipush 10, 2) := by decide +kernel
theorem dX2_listWrongTurns_56 : decode cX2_listWrongTurns 56 = .ok (.iload 4, 2) := by decide +kernel
theorem dX2_listWrongTurns_58 : decode cX2_listWrongTurns 58 = .ok (.imul, 1) := by decide +kernel
theorem dX2_listWrongTurns_59 : decode cX2_listWrongTurns 59 = .ok (.iload 5, 2) := by decide +kernel
theorem dX2_listWrongTurns_61 : decode cX2_listWrongTurns 61 = .ok (.iadd, 1) := by decide +kernel
theorem dX2_listWrongTurns_62 : decode cX2_listWrongTurns 62 = .ok (.iastore, 1) := by decide +kernel
theorem dX2_listWrongTurns_63 : decode cX2_listWrongTurns 63 = .ok (.iinc 3 1, 3) := by decide +kernel
theorem dX2_listWrongTurns_66 : decode cX2_listWrongTurns 66 = .ok (.iinc 5 1, 3) := by decide +kernel
theorem dX2_listWrongTurns_69 : decode cX2_listWrongTurns 69 = .ok (.goto (-50), 3) := by decide +kernel
theorem dX2_listWrongTurns_72 : decode cX2_listWrongTurns 72 = .ok (.iinc 4 1, 3) := by decide +kernel
theorem dX2_listWrongTurns_75 : decode cX2_listWrongTurns 75 = .ok (.goto (-65), 3) := by decide +kernel
theorem dX2_listWrongTurns_78 : decode cX2_listWrongTurns 78 = .ok (.iload_n 3, 1) := by decide +kernel
theorem dX2_listWrongTurns_79 : decode cX2_listWrongTurns 79 = .ok (.ireturn, 1) := by decide +kernel
theorem dX2_paintedCells_0 : decode cX2_paintedCells 0 = .ok (.iconst 0, 1) := by decide +kernel
theorem dX2_paintedCells_1 : decode cX2_paintedCells 1 = .ok (.istore_n 1, 1) := by decide +kernel
theorem dX2_paintedCells_2 : decode cX2_paintedCells 2 = .ok (.iconst 0, 1) := by decide +kernel
theorem dX2_paintedCells_3 : decode cX2_paintedCells 3 = .ok (.istore_n 2, 1) := by decide +kernel
theorem dX2_paintedCells_4 : decode cX2_paintedCells 4 = .ok (.iload_n 2, 1) := by decide +kernel
theorem dX2_paintedCells_5 : decode cX2_paintedCells 5 = .ok (.aload_n 0, 1) := by decide +kernel
theorem dX2_paintedCells_6 : decode cX2_paintedCells 6 = .ok (.getfield 35, 3) := by decide +kernel
theorem dX2_paintedCells_9 : decode cX2_paintedCells 9 = .ok (.if_icmp .ge 42, 3) := by decide +kernel
theorem dX2_paintedCells_12 : decode cX2_paintedCells 12 = .ok (.iconst 0, 1) := by decide +kernel
theorem dX2_paintedCells_13 : decode cX2_paintedCells 13 = .ok (.istore_n 3, 1) := by decide +kernel
theorem dX2_paintedCells_14 : decode cX2_paintedCells 14 = .ok (.iload_n 3, 1) := by decide +kernel
theorem dX2_paintedCells_15 : decode cX2_paintedCells 15 = .ok (.bipush 30, 2) := by decide +kernel
theorem dX2_paintedCells_17 : decode cX2_paintedCells 17 = .ok (.if_icmp .ge 28, 3) := by decide +kernel
theorem dX2_paintedCells_20 : decode cX2_paintedCells 20 = .ok (.aload_n 0, 1) := by decide +kernel
theorem dX2_paintedCells_21 : decode cX2_paintedCells 21 = .ok (.getfield 11, 3) := by decide +kernel
theorem dX2_paintedCells_24 : decode cX2_paintedCells 24 = .ok (.iload_n 2, 1) := by decide +kernel
theorem dX2_paintedCells_25 : decode cX2_paintedCells 25 = .ok (.aaload, 1) := by decide +kernel
theorem dX2_paintedCells_26 : decode cX2_paintedCells 26 = .ok (.getfield 145, 3) := by decide +kernel
theorem dX2_paintedCells_29 : decode cX2_paintedCells 29 = .ok (.iload_n 3, 1) := by decide +kernel
theorem dX2_paintedCells_30 : decode cX2_paintedCells 30 = .ok (.iaload, 1) := by decide +kernel
theorem dX2_paintedCells_31 : decode cX2_paintedCells 31 = .ok (.bipush (-99), 2) := by decide +kernel
theorem dX2_paintedCells_33 : decode cX2_paintedCells 33 = .ok (.if_icmp .eq 6, 3) := by decide +kernel
theorem dX2_paintedCells_36 : decode cX2_paintedCells 36 = .ok (.iinc 1 1, 3) := by decide +kernel
theorem dX2_paintedCells_39 : decode cX2_paintedCells 39 = .ok (.iinc 3 1, 3) := by decide +kernel
theorem dX2_paintedCells_42 : decode cX2_paintedCells 42 = .ok (.goto (-28), 3) := by decide +kernel
theorem dX2_paintedCells_45 : decode cX2_paintedCells 45 = .ok (.iinc 2 1, 3) := by decide +kernel
theorem dX2_paintedCells_48 : decode cX2_paintedCells 48 = .ok (.goto (-44), 3) := by decide +kernel
theorem dX2_paintedCells_51 : decode cX2_paintedCells 51 = .ok (.iload_n 1, 1) := by decide +kernel
theorem dX2_paintedCells_52 : decode cX2_paintedCells 52 = .ok (.ireturn, 1) := by decide +kernel
theorem dX2_cardsThreadedZ_0 : decode cX2_cardsThreadedZ 0 = .ok (.iconst 0, 1) := by decide +kernel
theorem dX2_cardsThreadedZ_1 : decode cX2_cardsThreadedZ 1 = .ok (.istore_n 1, 1) := by decide +kernel
theorem dX2_cardsThreadedZ_2 : decode cX2_cardsThreadedZ 2 = .ok (.iconst 0, 1) := by decide +kernel
theorem dX2_cardsThreadedZ_3 : decode cX2_cardsThreadedZ 3 = .ok (.istore_n 2, 1) := by decide +kernel
theorem dX2_cardsThreadedZ_4 : decode cX2_cardsThreadedZ 4 = .ok (.iload_n 2, 1) := by decide +kernel
theorem dX2_cardsThreadedZ_5 : decode cX2_cardsThreadedZ 5 = .ok (.aload_n 0, 1) := by decide +kernel
theorem dX2_cardsThreadedZ_6 : decode cX2_cardsThreadedZ 6 = .ok (.getfield 35, 3) := by decide +kernel
theorem dX2_cardsThreadedZ_9 : decode cX2_cardsThreadedZ 9 = .ok (.if_icmp .ge 21, 3) := by decide +kernel
theorem dX2_cardsThreadedZ_12 : decode cX2_cardsThreadedZ 12 = .ok (.iload_n 1, 1) := by decide +kernel
theorem dX2_cardsThreadedZ_13 : decode cX2_cardsThreadedZ 13 = .ok (.aload_n 0, 1) := by decide +kernel
theorem dX2_cardsThreadedZ_14 : decode cX2_cardsThreadedZ 14 = .ok (.getfield 11, 3) := by decide +kernel
theorem dX2_cardsThreadedZ_17 : decode cX2_cardsThreadedZ 17 = .ok (.iload_n 2, 1) := by decide +kernel
theorem dX2_cardsThreadedZ_18 : decode cX2_cardsThreadedZ 18 = .ok (.aaload, 1) := by decide +kernel
theorem dX2_cardsThreadedZ_19 : decode cX2_cardsThreadedZ 19 = .ok (.getfield 59, 3) := by decide +kernel
theorem dX2_cardsThreadedZ_22 : decode cX2_cardsThreadedZ 22 = .ok (.iadd, 1) := by decide +kernel
theorem dX2_cardsThreadedZ_23 : decode cX2_cardsThreadedZ 23 = .ok (.istore_n 1, 1) := by decide +kernel
theorem dX2_cardsThreadedZ_24 : decode cX2_cardsThreadedZ 24 = .ok (.iinc 2 1, 3) := by decide +kernel
theorem dX2_cardsThreadedZ_27 : decode cX2_cardsThreadedZ 27 = .ok (.goto (-23), 3) := by decide +kernel
theorem dX2_cardsThreadedZ_30 : decode cX2_cardsThreadedZ 30 = .ok (.iload_n 1, 1) := by decide +kernel
theorem dX2_cardsThreadedZ_31 : decode cX2_cardsThreadedZ 31 = .ok (.ireturn, 1) := by decide +kernel
theorem dX2_unlikeColours_0 : decode cX2_unlikeColours 0 = .ok (.iconst 0, 1) := by decide +kernel
theorem dX2_unlikeColours_1 : decode cX2_unlikeColours 1 = .ok (.istore_n 1, 1) := by decide +kernel
theorem dX2_unlikeColours_2 : decode cX2_unlikeColours 2 = .ok (.iconst 0, 1) := by decide +kernel
theorem dX2_unlikeColours_3 : decode cX2_unlikeColours 3 = .ok (.istore_n 2, 1) := by decide +kernel
theorem dX2_unlikeColours_4 : decode cX2_unlikeColours 4 = .ok (.iload_n 2, 1) := by decide +kernel
theorem dX2_unlikeColours_5 : decode cX2_unlikeColours 5 = .ok (.aload_n 0, 1) := by decide +kernel
theorem dX2_unlikeColours_6 : decode cX2_unlikeColours 6 = .ok (.getfield 35, 3) := by decide +kernel
theorem dX2_unlikeColours_9 : decode cX2_unlikeColours 9 = .ok (.if_icmp .ge 38, 3) := by decide +kernel
theorem dX2_unlikeColours_12 : decode cX2_unlikeColours 12 = .ok (.iconst 0, 1) := by decide +kernel
theorem dX2_unlikeColours_13 : decode cX2_unlikeColours 13 = .ok (.istore_n 3, 1) := by decide +kernel
theorem dX2_unlikeColours_14 : decode cX2_unlikeColours 14 = .ok (.iload_n 3, 1) := by decide +kernel
theorem dX2_unlikeColours_15 : decode cX2_unlikeColours 15 = .ok (.iconst 4, 1) := by decide +kernel
theorem dX2_unlikeColours_16 : decode cX2_unlikeColours 16 = .ok (.if_icmp .ge 25, 3) := by decide +kernel
theorem dX2_unlikeColours_19 : decode cX2_unlikeColours 19 = .ok (.iload_n 1, 1) := by decide +kernel
theorem dX2_unlikeColours_20 : decode cX2_unlikeColours 20 = .ok (.iconst 1, 1) := by decide +kernel
theorem dX2_unlikeColours_21 : decode cX2_unlikeColours 21 = .ok (.aload_n 0, 1) := by decide +kernel
theorem dX2_unlikeColours_22 : decode cX2_unlikeColours 22 = .ok (.getfield 11, 3) := by decide +kernel
theorem dX2_unlikeColours_25 : decode cX2_unlikeColours 25 = .ok (.iload_n 2, 1) := by decide +kernel
theorem dX2_unlikeColours_26 : decode cX2_unlikeColours 26 = .ok (.aaload, 1) := by decide +kernel
theorem dX2_unlikeColours_27 : decode cX2_unlikeColours 27 = .ok (.getfield 52, 3) := by decide +kernel
theorem dX2_unlikeColours_30 : decode cX2_unlikeColours 30 = .ok (.iload_n 3, 1) := by decide +kernel
theorem dX2_unlikeColours_31 : decode cX2_unlikeColours 31 = .ok (.iaload, 1) := by decide +kernel
theorem dX2_unlikeColours_32 : decode cX2_unlikeColours 32 = .ok (.ishl, 1) := by decide +kernel
theorem dX2_unlikeColours_33 : decode cX2_unlikeColours 33 = .ok (.ior, 1) := by decide +kernel
theorem dX2_unlikeColours_34 : decode cX2_unlikeColours 34 = .ok (.istore_n 1, 1) := by decide +kernel
theorem dX2_unlikeColours_35 : decode cX2_unlikeColours 35 = .ok (.iinc 3 1, 3) := by decide +kernel
theorem dX2_unlikeColours_38 : decode cX2_unlikeColours 38 = .ok (.goto (-24), 3) := by decide +kernel
theorem dX2_unlikeColours_41 : decode cX2_unlikeColours 41 = .ok (.iinc 2 1, 3) := by decide +kernel
theorem dX2_unlikeColours_44 : decode cX2_unlikeColours 44 = .ok (.goto (-40), 3) := by decide +kernel
theorem dX2_unlikeColours_47 : decode cX2_unlikeColours 47 = .ok (.iload_n 1, 1) := by decide +kernel
theorem dX2_unlikeColours_48 : decode cX2_unlikeColours 48 = .ok (.invokestatic 221, 3) := by decide +kernel
theorem dX2_unlikeColours_51 : decode cX2_unlikeColours 51 = .ok (.ireturn, 1) := by decide +kernel
