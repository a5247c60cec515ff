theorem d_BT_init_0 : decode c_BT_init 0 = .ok (.aload_n 0, 1) := by decide +kernel
theorem d_BT_init_1 : decode c_BT_init 1 = .ok (.invokespecial 1, 3) := by decide +kernel
theorem d_BT_init_4 : decode c_BT_init 4 = .ok (.aload_n 0, 1) := by decide +kernel
theorem d_BT_init_5 : decode c_BT_init 5 = .ok (.bipush 8, 2) := by decide +kernel
theorem d_BT_init_7 : decode c_BT_init 7 = .ok (.anewarray 9, 3) := by decide +kernel
theorem d_BT_init_10 : decode c_BT_init 10 = .ok (.putfield 11, 3) := by decide +kernel
theorem d_BT_init_13 : decode c_BT_init 13 = .ok (.aload_n 0, 1) := by decide +kernel
theorem d_BT_init_14 : decode c_BT_init 14 = .ok (.bipush 6, 2) := by decide +kernel
theorem d_BT_init_16 : decode c_BT_init 16 = .ok (.anewarray 15, 3) := by decide +kernel
theorem d_BT_init_19 : decode c_BT_init 19 = .ok (.putfield 17, 3) := by decide +kernel
theorem d_BT_init_22 : decode c_BT_init 22 = .ok (.aload_n 0, 1) := by decide +kernel
theorem d_BT_init_23 : decode c_BT_init 23 = .ok (.bipush 12, 2) := by decide +kernel
theorem d_BT_init_25 : decode c_BT_init 25 = .ok (.anewarray 21, 3) := by decide +kernel
theorem d_BT_init_28 : decode c_BT_init 28 = .ok (.putfield 23, 3) := by decide +kernel
theorem d_BT_init_31 : decode c_BT_init 31 = .ok (.aload_n 0, 1) := by decide +kernel
theorem d_BT_init_32 : decode c_BT_init 32 = .ok (.bipush 20, 2) := by decide +kernel
theorem d_BT_init_34 : decode c_BT_init 34 = .ok (.anewarray 27, 3) := by decide +kernel
theorem d_BT_init_37 : decode c_BT_init 37 = .ok (.putfield 29, 3) := by decide +kernel
theorem d_BT_init_40 : decode c_BT_init 40 = .ok (.aload_n 0, 1) := by decide +kernel
theorem d_BT_init_41 : decode c_BT_init 41 = .ok (.bipush 60, 2) := by decide +kernel
theorem d_BT_init_43 : decode c_BT_init 43 = .ok (.newarray .long, 2) := by decide +kernel
theorem d_BT_init_45 : decode c_BT_init 45 = .ok (.putfield 33, 3) := by decide +kernel
theorem d_BT_init_48 : decode c_BT_init 48 = .ok (.aload_n 0, 1) := by decide +kernel
theorem d_BT_init_49 : decode c_BT_init 49 = .ok (.bipush 60, 2) := by decide +kernel
theorem d_BT_init_51 : decode c_BT_init 51 = .ok (.newarray .long, 2) := by decide +kernel
theorem d_BT_init_53 : decode c_BT_init 53 = .ok (.putfield 37, 3) := by decide +kernel
theorem d_BT_init_56 : decode c_BT_init 56 = .ok (.aload_n 0, 1) := by decide +kernel
theorem d_BT_init_57 : decode c_BT_init 57 = .ok (.new 40, 3) := by decide +kernel
theorem d_BT_init_60 : decode c_BT_init 60 = .ok (.dup, 1) := by decide +kernel
theorem d_BT_init_61 : decode c_BT_init 61 = .ok (.invokespecial 42, 3) := by decide +kernel
theorem d_BT_init_64 : decode c_BT_init 64 = .ok (.putfield 43, 3) := by decide +kernel
theorem d_BT_init_67 : decode c_BT_init 67 = .ok (.return_, 1) := by decide +kernel
theorem d_Sea_init_0 : decode c_Sea_init 0 = .ok (.aload_n 0, 1) := by decide +kernel
theorem d_Sea_init_1 : decode c_Sea_init 1 = .ok (.invokespecial 3, 3) := by decide +kernel
theorem d_Sea_init_4 : decode c_Sea_init 4 = .ok (.aload_n 0, 1) := by decide +kernel
theorem d_Sea_init_5 : decode c_Sea_init 5 = .ok (.bipush 12, 2) := by decide +kernel
theorem d_Sea_init_7 : decode c_Sea_init 7 = .ok (.anewarray 9, 3) := by decide +kernel
theorem d_Sea_init_10 : decode c_Sea_init 10 = .ok (.putfield 11, 3) := by decide +kernel
theorem d_Sea_init_13 : decode c_Sea_init 13 = .ok (.aload_n 0, 1) := by decide +kernel
theorem d_Sea_init_14 : decode c_Sea_init 14 = .ok (.bipush 12, 2) := by decide +kernel
theorem d_Sea_init_16 : decode c_Sea_init 16 = .ok (.newarray .long, 2) := by decide +kernel
theorem d_Sea_init_18 : decode c_Sea_init 18 = .ok (.putfield 17, 3) := by decide +kernel
theorem d_Sea_init_21 : decode c_Sea_init 21 = .ok (.aload_n 0, 1) := by decide +kernel
theorem d_Sea_init_22 : decode c_Sea_init 22 = .ok (.ldc2_w 21, 3) := by decide +kernel
theorem d_Sea_init_25 : decode c_Sea_init 25 = .ok (.putfield 23, 3) := by decide +kernel
theorem d_Sea_init_28 : decode c_Sea_init 28 = .ok (.return_, 1) := by decide +kernel
theorem d_BT_lot_0 : decode c_BT_lot 0 = .ok (.aload_n 0, 1) := by decide +kernel
theorem d_BT_lot_1 : decode c_BT_lot 1 = .ok (.getfield 47, 3) := by decide +kernel
theorem d_BT_lot_4 : decode c_BT_lot 4 = .ok (.bipush 8, 2) := by decide +kernel
theorem d_BT_lot_6 : decode c_BT_lot 6 = .ok (.if_icmp .ge 14, 3) := by decide +kernel
theorem d_BT_lot_9 : decode c_BT_lot 9 = .ok (.lload_n 1, 1) := by decide +kernel
theorem d_BT_lot_10 : decode c_BT_lot 10 = .ok (.lconst 1, 1) := by decide +kernel
theorem d_BT_lot_11 : decode c_BT_lot 11 = .ok (.ldc2_w 51, 3) := by decide +kernel
theorem d_BT_lot_14 : decode c_BT_lot 14 = .ok (.invokestatic 53, 3) := by decide +kernel
theorem d_BT_lot_17 : decode c_BT_lot 17 = .ok (.ifCond .ne 5, 3) := by decide +kernel
theorem d_BT_lot_20 : decode c_BT_lot 20 = .ok (.iconst (-1), 1) := by decide +kernel
theorem d_BT_lot_21 : decode c_BT_lot 21 = .ok (.ireturn, 1) := by decide +kernel
theorem d_BT_lot_22 : decode c_BT_lot 22 = .ok (.aload_n 0, 1) := by decide +kernel
theorem d_BT_lot_23 : decode c_BT_lot 23 = .ok (.getfield 47, 3) := by decide +kernel
theorem d_BT_lot_26 : decode c_BT_lot 26 = .ok (.istore_n 3, 1) := by decide +kernel
theorem d_BT_lot_27 : decode c_BT_lot 27 = .ok (.aload_n 0, 1) := by decide +kernel
theorem d_BT_lot_28 : decode c_BT_lot 28 = .ok (.getfield 11, 3) := by decide +kernel
theorem d_BT_lot_31 : decode c_BT_lot 31 = .ok (.iload_n 3, 1) := by decide +kernel
theorem d_BT_lot_32 : decode c_BT_lot 32 = .ok (.new 9, 3) := by decide +kernel
theorem d_BT_lot_35 : decode c_BT_lot 35 = .ok (.dup, 1) := by decide +kernel
theorem d_BT_lot_36 : decode c_BT_lot 36 = .ok (.invokespecial 57, 3) := by decide +kernel
theorem d_BT_lot_39 : decode c_BT_lot 39 = .ok (.aastore, 1) := by decide +kernel
theorem d_BT_lot_40 : decode c_BT_lot 40 = .ok (.aload_n 0, 1) := by decide +kernel
theorem d_BT_lot_41 : decode c_BT_lot 41 = .ok (.dup, 1) := by decide +kernel
theorem d_BT_lot_42 : decode c_BT_lot 42 = .ok (.getfield 47, 3) := by decide +kernel
theorem d_BT_lot_45 : decode c_BT_lot 45 = .ok (.iconst 1, 1) := by decide +kernel
theorem d_BT_lot_46 : decode c_BT_lot 46 = .ok (.iadd, 1) := by decide +kernel
theorem d_BT_lot_47 : decode c_BT_lot 47 = .ok (.putfield 47, 3) := by decide +kernel
theorem d_BT_lot_50 : decode c_BT_lot 50 = .ok (.aload_n 0, 1) := by decide +kernel
theorem d_BT_lot_51 : decode c_BT_lot 51 = .ok (.iconst 1, 1) := by decide +kernel
theorem d_BT_lot_52 : decode c_BT_lot 52 = .ok (.putfield 58, 3) := by decide +kernel
theorem d_BT_lot_55 : decode c_BT_lot 55 = .ok (.iload_n 3, 1) := by decide +kernel
theorem d_BT_lot_56 : decode c_BT_lot 56 = .ok (.ireturn, 1) := by decide +kernel
theorem d_BT_within_0 : decode c_BT_within 0 = .ok (.lload_n 0, 1) := by decide +kernel
theorem d_BT_within_1 : decode c_BT_within 1 = .ok (.lload_n 2, 1) := by decide +kernel
theorem d_BT_within_2 : decode c_BT_within 2 = .ok (.lcmp, 1) := by decide +kernel
theorem d_BT_within_3 : decode c_BT_within 3 = .ok (.ifCond .lt 14, 3) := by decide +kernel
theorem d_BT_within_6 : decode c_BT_within 6 = .ok (.lload_n 0, 1) := by decide +kernel
theorem d_BT_within_7 : decode c_BT_within 7 = .ok (.lload 4, 2) := by decide +kernel
theorem d_BT_within_9 : decode c_BT_within 9 = .ok (.lcmp, 1) := by decide +kernel
theorem d_BT_within_10 : decode c_BT_within 10 = .ok (.ifCond .gt 7, 3) := by decide +kernel
theorem d_BT_within_13 : decode c_BT_within 13 = .ok (.iconst 1, 1) := by decide +kernel
theorem d_BT_within_14 : decode c_BT_within 14 = .ok (.goto 4, 3) := by decide +kernel
theorem d_BT_within_17 : decode c_BT_within 17 = .ok (.iconst 0, 1) := by decide +kernel
theorem d_BT_within_18 : decode c_BT_within 18 = .ok (.ireturn, 1) := by decide +kernel
theorem d_Lot_init_0 : decode c_Lot_init 0 = .ok (.aload_n 0, 1) := by decide +kernel
theorem d_Lot_init_1 : decode c_Lot_init 1 = .ok (.invokespecial 3, 3) := by decide +kernel
theorem d_Lot_init_4 : decode c_Lot_init 4 = .ok (.aload_n 0, 1) := by decide +kernel
theorem d_Lot_init_5 : decode c_Lot_init 5 = .ok (.bipush 6, 2) := by decide +kernel
theorem d_Lot_init_7 : decode c_Lot_init 7 = .ok (.newarray .long, 2) := by decide +kernel
theorem d_Lot_init_9 : decode c_Lot_init 9 = .ok (.putfield 9, 3) := by decide +kernel
theorem d_Lot_init_12 : decode c_Lot_init 12 = .ok (.aload_n 0, 1) := by decide +kernel
theorem d_Lot_init_13 : decode c_Lot_init 13 = .ok (.bipush 6, 2) := by decide +kernel
theorem d_Lot_init_15 : decode c_Lot_init 15 = .ok (.newarray .long, 2) := by decide +kernel
theorem d_Lot_init_17 : decode c_Lot_init 17 = .ok (.putfield 15, 3) := by decide +kernel
theorem d_Lot_init_20 : decode c_Lot_init 20 = .ok (.aload_n 0, 1) := by decide +kernel
theorem d_Lot_init_21 : decode c_Lot_init 21 = .ok (.bipush 6, 2) := by decide +kernel
theorem d_Lot_init_23 : decode c_Lot_init 23 = .ok (.newarray .long, 2) := by decide +kernel
theorem d_Lot_init_25 : decode c_Lot_init 25 = .ok (.putfield 18, 3) := by decide +kernel
theorem d_Lot_init_28 : decode c_Lot_init 28 = .ok (.return_, 1) := by decide +kernel
theorem d_BT_bidder_0 : decode c_BT_bidder 0 = .ok (.aload_n 0, 1) := by decide +kernel
theorem d_BT_bidder_1 : decode c_BT_bidder 1 = .ok (.getfield 62, 3) := by decide +kernel
theorem d_BT_bidder_4 : decode c_BT_bidder 4 = .ok (.bipush 6, 2) := by decide +kernel
theorem d_BT_bidder_6 : decode c_BT_bidder 6 = .ok (.if_icmp .lt 5, 3) := by decide +kernel
theorem d_BT_bidder_9 : decode c_BT_bidder 9 = .ok (.iconst (-1), 1) := by decide +kernel
theorem d_BT_bidder_10 : decode c_BT_bidder 10 = .ok (.ireturn, 1) := by decide +kernel
theorem d_BT_bidder_11 : decode c_BT_bidder 11 = .ok (.aload_n 0, 1) := by decide +kernel
theorem d_BT_bidder_12 : decode c_BT_bidder 12 = .ok (.getfield 62, 3) := by decide +kernel
theorem d_BT_bidder_15 : decode c_BT_bidder 15 = .ok (.istore_n 2, 1) := by decide +kernel
theorem d_BT_bidder_16 : decode c_BT_bidder 16 = .ok (.aload_n 0, 1) := by decide +kernel
theorem d_BT_bidder_17 : decode c_BT_bidder 17 = .ok (.getfield 17, 3) := by decide +kernel
theorem d_BT_bidder_20 : decode c_BT_bidder 20 = .ok (.iload_n 2, 1) := by decide +kernel
theorem d_BT_bidder_21 : decode c_BT_bidder 21 = .ok (.new 15, 3) := by decide +kernel
theorem d_BT_bidder_24 : decode c_BT_bidder 24 = .ok (.dup, 1) := by decide +kernel
theorem d_BT_bidder_25 : decode c_BT_bidder 25 = .ok (.iload_n 2, 1) := by decide +kernel
theorem d_BT_bidder_26 : decode c_BT_bidder 26 = .ok (.iload_n 1, 1) := by decide +kernel
theorem d_BT_bidder_27 : decode c_BT_bidder 27 = .ok (.invokespecial 65, 3) := by decide +kernel
theorem d_BT_bidder_30 : decode c_BT_bidder 30 = .ok (.aastore, 1) := by decide +kernel
theorem d_BT_bidder_31 : decode c_BT_bidder 31 = .ok (.aload_n 0, 1) := by decide +kernel
theorem d_BT_bidder_32 : decode c_BT_bidder 32 = .ok (.dup, 1) := by decide +kernel
theorem d_BT_bidder_33 : decode c_BT_bidder 33 = .ok (.getfield 62, 3) := by decide +kernel
theorem d_BT_bidder_36 : decode c_BT_bidder 36 = .ok (.iconst 1, 1) := by decide +kernel
theorem d_BT_bidder_37 : decode c_BT_bidder 37 = .ok (.iadd, 1) := by decide +kernel
theorem d_BT_bidder_38 : decode c_BT_bidder 38 = .ok (.putfield 62, 3) := by decide +kernel
theorem d_BT_bidder_41 : decode c_BT_bidder 41 = .ok (.aload_n 0, 1) := by decide +kernel
theorem d_BT_bidder_42 : decode c_BT_bidder 42 = .ok (.iconst 1, 1) := by decide +kernel
theorem d_BT_bidder_43 : decode c_BT_bidder 43 = .ok (.putfield 58, 3) := by decide +kernel
theorem d_BT_bidder_46 : decode c_BT_bidder 46 = .ok (.iload_n 2, 1) := by decide +kernel
theorem d_BT_bidder_47 : decode c_BT_bidder 47 = .ok (.ireturn, 1) := by decide +kernel
theorem d_Bdr_init_0 : decode c_Bdr_init 0 = .ok (.aload_n 0, 1) := by decide +kernel
theorem d_Bdr_init_1 : decode c_Bdr_init 1 = .ok (.invokespecial 3, 3) := by decide +kernel
theorem d_Bdr_init_4 : decode c_Bdr_init 4 = .ok (.aload_n 0, 1) := by decide +kernel
theorem d_Bdr_init_5 : decode c_Bdr_init 5 = .ok (.iload_n 1, 1) := by decide +kernel
theorem d_Bdr_init_6 : decode c_Bdr_init 6 = .ok (.putfield 9, 3) := by decide +kernel
theorem d_Bdr_init_9 : decode c_Bdr_init 9 = .ok (.aload_n 0, 1) := by decide +kernel
theorem d_Bdr_init_10 : decode c_Bdr_init 10 = .ok (.iload_n 2, 1) := by decide +kernel
theorem d_Bdr_init_11 : decode c_Bdr_init 11 = .ok (.putfield 15, 3) := by decide +kernel
theorem d_Bdr_init_14 : decode c_Bdr_init 14 = .ok (.aload_n 0, 1) := by decide +kernel
theorem d_Bdr_init_15 : decode c_Bdr_init 15 = .ok (.bipush 8, 2) := by decide +kernel
theorem d_Bdr_init_17 : decode c_Bdr_init 17 = .ok (.putfield 19, 3) := by decide +kernel
theorem d_Bdr_init_20 : decode c_Bdr_init 20 = .ok (.return_, 1) := by decide +kernel
theorem d_BT_time_0 : decode c_BT_time 0 = .ok (.aload_n 0, 1) := by decide +kernel
theorem d_BT_time_1 : decode c_BT_time 1 = .ok (.iload_n 1, 1) := by decide +kernel
theorem d_BT_time_2 : decode c_BT_time 2 = .ok (.invokevirtual 68, 3) := by decide +kernel
theorem d_BT_time_5 : decode c_BT_time 5 = .ok (.astore 4, 2) := by decide +kernel
theorem d_BT_time_7 : decode c_BT_time 7 = .ok (.aload 4, 2) := by decide +kernel
theorem d_BT_time_9 : decode c_BT_time 9 = .ok (.ifnull 14, 3) := by decide +kernel
theorem d_BT_time_12 : decode c_BT_time 12 = .ok (.lload_n 2, 1) := by decide +kernel
theorem d_BT_time_13 : decode c_BT_time 13 = .ok (.lconst 0, 1) := by decide +kernel
theorem d_BT_time_14 : decode c_BT_time 14 = .ok (.ldc2_w 51, 3) := by decide +kernel
theorem d_BT_time_17 : decode c_BT_time 17 = .ok (.invokestatic 53, 3) := by decide +kernel
theorem d_BT_time_20 : decode c_BT_time 20 = .ok (.ifCond .ne 5, 3) := by decide +kernel
theorem d_BT_time_23 : decode c_BT_time 23 = .ok (.iconst 0, 1) := by decide +kernel
theorem d_BT_time_24 : decode c_BT_time 24 = .ok (.ireturn, 1) := by decide +kernel
theorem d_BT_time_25 : decode c_BT_time 25 = .ok (.aload 4, 2) := by decide +kernel
theorem d_BT_time_27 : decode c_BT_time 27 = .ok (.lload_n 2, 1) := by decide +kernel
theorem d_BT_time_28 : decode c_BT_time 28 = .ok (.putfield 72, 3) := by decide +kernel
theorem d_BT_time_31 : decode c_BT_time 31 = .ok (.aload_n 0, 1) := by decide +kernel
theorem d_BT_time_32 : decode c_BT_time 32 = .ok (.iconst 1, 1) := by decide +kernel
theorem d_BT_time_33 : decode c_BT_time 33 = .ok (.putfield 58, 3) := by decide +kernel
theorem d_BT_time_36 : decode c_BT_time 36 = .ok (.iconst 1, 1) := by decide +kernel
theorem d_BT_time_37 : decode c_BT_time 37 = .ok (.ireturn, 1) := by decide +kernel
theorem d_BT_unopenedAt_0 : decode c_BT_unopenedAt 0 = .ok (.aload_n 0, 1) := by decide +kernel
theorem d_BT_unopenedAt_1 : decode c_BT_unopenedAt 1 = .ok (.iload_n 1, 1) := by decide +kernel
theorem d_BT_unopenedAt_2 : decode c_BT_unopenedAt 2 = .ok (.invokevirtual 127, 3) := by decide +kernel
theorem d_BT_unopenedAt_5 : decode c_BT_unopenedAt 5 = .ok (.astore_n 2, 1) := by decide +kernel
theorem d_BT_unopenedAt_6 : decode c_BT_unopenedAt 6 = .ok (.aload_n 2, 1) := by decide +kernel
theorem d_BT_unopenedAt_7 : decode c_BT_unopenedAt 7 = .ok (.ifnull 14, 3) := by decide +kernel
theorem d_BT_unopenedAt_10 : decode c_BT_unopenedAt 10 = .ok (.aload_n 2, 1) := by decide +kernel
theorem d_BT_unopenedAt_11 : decode c_BT_unopenedAt 11 = .ok (.getfield 101, 3) := by decide +kernel
theorem d_BT_unopenedAt_14 : decode c_BT_unopenedAt 14 = .ok (.ifCond .ne 7, 3) := by decide +kernel
theorem d_BT_unopenedAt_17 : decode c_BT_unopenedAt 17 = .ok (.aload_n 2, 1) := by decide +kernel
theorem d_BT_unopenedAt_18 : decode c_BT_unopenedAt 18 = .ok (.goto 4, 3) := by decide +kernel
theorem d_BT_unopenedAt_21 : decode c_BT_unopenedAt 21 = .ok (.aconst_null, 1) := by decide +kernel
theorem d_BT_unopenedAt_22 : decode c_BT_unopenedAt 22 = .ok (.areturn, 1) := by decide +kernel
theorem d_BT_bidderAt_0 : decode c_BT_bidderAt 0 = .ok (.iload_n 1, 1) := by decide +kernel
theorem d_BT_bidderAt_1 : decode c_BT_bidderAt 1 = .ok (.ifCond .lt 20, 3) := by decide +kernel
theorem d_BT_bidderAt_4 : decode c_BT_bidderAt 4 = .ok (.iload_n 1, 1) := by decide +kernel
theorem d_BT_bidderAt_5 : decode c_BT_bidderAt 5 = .ok (.aload_n 0, 1) := by decide +kernel
theorem d_BT_bidderAt_6 : decode c_BT_bidderAt 6 = .ok (.getfield 62, 3) := by decide +kernel
theorem d_BT_bidderAt_9 : decode c_BT_bidderAt 9 = .ok (.if_icmp .ge 12, 3) := by decide +kernel
theorem d_BT_bidderAt_12 : decode c_BT_bidderAt 12 = .ok (.aload_n 0, 1) := by decide +kernel
theorem d_BT_bidderAt_13 : decode c_BT_bidderAt 13 = .ok (.getfield 17, 3) := by decide +kernel
theorem d_BT_bidderAt_16 : decode c_BT_bidderAt 16 = .ok (.iload_n 1, 1) := by decide +kernel
theorem d_BT_bidderAt_17 : decode c_BT_bidderAt 17 = .ok (.aaload, 1) := by decide +kernel
theorem d_BT_bidderAt_18 : decode c_BT_bidderAt 18 = .ok (.goto 4, 3) := by decide +kernel
theorem d_BT_bidderAt_21 : decode c_BT_bidderAt 21 = .ok (.aconst_null, 1) := by decide +kernel
theorem d_BT_bidderAt_22 : decode c_BT_bidderAt 22 = .ok (.areturn, 1) := by decide +kernel
theorem d_BT_most_0 : decode c_BT_most 0 = .ok (.aload_n 0, 1) := by decide +kernel
theorem d_BT_most_1 : decode c_BT_most 1 = .ok (.iload_n 1, 1) := by decide +kernel
theorem d_BT_most_2 : decode c_BT_most 2 = .ok (.invokevirtual 68, 3) := by decide +kernel
theorem d_BT_most_5 : decode c_BT_most 5 = .ok (.astore_n 3, 1) := by decide +kernel
theorem d_BT_most_6 : decode c_BT_most 6 = .ok (.aload_n 3, 1) := by decide +kernel
theorem d_BT_most_7 : decode c_BT_most 7 = .ok (.ifnull 15, 3) := by decide +kernel
theorem d_BT_most_10 : decode c_BT_most 10 = .ok (.iload_n 2, 1) := by decide +kernel
theorem d_BT_most_11 : decode c_BT_most 11 = .ok (.i2l, 1) := by decide +kernel
theorem d_BT_most_12 : decode c_BT_most 12 = .ok (.lconst 0, 1) := by decide +kernel
theorem d_BT_most_13 : decode c_BT_most 13 = .ok (.ldc2_w 76, 3) := by decide +kernel
theorem d_BT_most_16 : decode c_BT_most 16 = .ok (.invokestatic 53, 3) := by decide +kernel
theorem d_BT_most_19 : decode c_BT_most 19 = .ok (.ifCond .ne 5, 3) := by decide +kernel
theorem d_BT_most_22 : decode c_BT_most 22 = .ok (.iconst 0, 1) := by decide +kernel
theorem d_BT_most_23 : decode c_BT_most 23 = .ok (.ireturn, 1) := by decide +kernel
theorem d_BT_most_24 : decode c_BT_most 24 = .ok (.aload_n 3, 1) := by decide +kernel
theorem d_BT_most_25 : decode c_BT_most 25 = .ok (.iload_n 2, 1) := by decide +kernel
theorem d_BT_most_26 : decode c_BT_most 26 = .ok (.putfield 78, 3) := by decide +kernel
theorem d_BT_most_29 : decode c_BT_most 29 = .ok (.aload_n 0, 1) := by decide +kernel
theorem d_BT_most_30 : decode c_BT_most 30 = .ok (.iconst 1, 1) := by decide +kernel
theorem d_BT_most_31 : decode c_BT_most 31 = .ok (.putfield 58, 3) := by decide +kernel
theorem d_BT_most_34 : decode c_BT_most 34 = .ok (.iconst 1, 1) := by decide +kernel
theorem d_BT_most_35 : decode c_BT_most 35 = .ok (.ireturn, 1) := by decide +kernel
theorem d_BT_bid_0 : decode c_BT_bid 0 = .ok (.aload_n 0, 1) := by decide +kernel
theorem d_BT_bid_1 : decode c_BT_bid 1 = .ok (.iload_n 1, 1) := by decide +kernel
theorem d_BT_bid_2 : decode c_BT_bid 2 = .ok (.invokevirtual 68, 3) := by decide +kernel
theorem d_BT_bid_5 : decode c_BT_bid 5 = .ok (.astore 4, 2) := by decide +kernel
theorem d_BT_bid_7 : decode c_BT_bid 7 = .ok (.aload 4, 2) := by decide +kernel
theorem d_BT_bid_9 : decode c_BT_bid 9 = .ok (.ifnull 23, 3) := by decide +kernel
theorem d_BT_bid_12 : decode c_BT_bid 12 = .ok (.aload_n 0, 1) := by decide +kernel
theorem d_BT_bid_13 : decode c_BT_bid 13 = .ok (.getfield 81, 3) := by decide +kernel
theorem d_BT_bid_16 : decode c_BT_bid 16 = .ok (.bipush 12, 2) := by decide +kernel
theorem d_BT_bid_18 : decode c_BT_bid 18 = .ok (.if_icmp .ge 14, 3) := by decide +kernel
theorem d_BT_bid_21 : decode c_BT_bid 21 = .ok (.lload_n 2, 1) := by decide +kernel
theorem d_BT_bid_22 : decode c_BT_bid 22 = .ok (.lconst 0, 1) := by decide +kernel
theorem d_BT_bid_23 : decode c_BT_bid 23 = .ok (.ldc2_w 84, 3) := by decide +kernel
theorem d_BT_bid_26 : decode c_BT_bid 26 = .ok (.invokestatic 53, 3) := by decide +kernel
theorem d_BT_bid_29 : decode c_BT_bid 29 = .ok (.ifCond .ne 5, 3) := by decide +kernel
theorem d_BT_bid_32 : decode c_BT_bid 32 = .ok (.iconst (-1), 1) := by decide +kernel
theorem d_BT_bid_33 : decode c_BT_bid 33 = .ok (.ireturn, 1) := by decide +kernel
theorem d_BT_bid_34 : decode c_BT_bid 34 = .ok (.aload_n 0, 1) := by decide +kernel
theorem d_BT_bid_35 : decode c_BT_bid 35 = .ok (.getfield 81, 3) := by decide +kernel
theorem d_BT_bid_38 : decode c_BT_bid 38 = .ok (.istore 5, 2) := by decide +kernel
theorem d_BT_bid_40 : decode c_BT_bid 40 = .ok (.aload_n 0, 1) := by decide +kernel
theorem d_BT_bid_41 : decode c_BT_bid 41 = .ok (.getfield 23, 3) := by decide +kernel
theorem d_BT_bid_44 : decode c_BT_bid 44 = .ok (.iload 5, 2) := by decide +kernel
theorem d_BT_bid_46 : decode c_BT_bid 46 = .ok (.new 21, 3) := by decide +kernel
theorem d_BT_bid_49 : decode c_BT_bid 49 = .ok (.dup, 1) := by decide +kernel
theorem d_BT_bid_50 : decode c_BT_bid 50 = .ok (.iload 5, 2) := by decide +kernel
theorem d_BT_bid_52 : decode c_BT_bid 52 = .ok (.aload 4, 2) := by decide +kernel
theorem d_BT_bid_54 : decode c_BT_bid 54 = .ok (.lload_n 2, 1) := by decide +kernel
theorem d_BT_bid_55 : decode c_BT_bid 55 = .ok (.invokespecial 86, 3) := by decide +kernel
theorem d_BT_bid_58 : decode c_BT_bid 58 = .ok (.aastore, 1) := by decide +kernel
theorem d_BT_bid_59 : decode c_BT_bid 59 = .ok (.aload_n 0, 1) := by decide +kernel
theorem d_BT_bid_60 : decode c_BT_bid 60 = .ok (.dup, 1) := by decide +kernel
theorem d_BT_bid_61 : decode c_BT_bid 61 = .ok (.getfield 81, 3) := by decide +kernel
theorem d_BT_bid_64 : decode c_BT_bid 64 = .ok (.iconst 1, 1) := by decide +kernel
theorem d_BT_bid_65 : decode c_BT_bid 65 = .ok (.iadd, 1) := by decide +kernel
theorem d_BT_bid_66 : decode c_BT_bid 66 = .ok (.putfield 81, 3) := by decide +kernel
theorem d_BT_bid_69 : decode c_BT_bid 69 = .ok (.aload_n 0, 1) := by decide +kernel
theorem d_BT_bid_70 : decode c_BT_bid 70 = .ok (.iconst 1, 1) := by decide +kernel
theorem d_BT_bid_71 : decode c_BT_bid 71 = .ok (.putfield 58, 3) := by decide +kernel
theorem d_BT_bid_74 : decode c_BT_bid 74 = .ok (.iload 5, 2) := by decide +kernel
theorem d_BT_bid_76 : decode c_BT_bid 76 = .ok (.ireturn, 1) := by decide +kernel
theorem d_Bid_init_0 : decode c_Bid_init 0 = .ok (.aload_n 0, 1) := by decide +kernel
theorem d_Bid_init_1 : decode c_Bid_init 1 = .ok (.invokespecial 1, 3) := by decide +kernel
theorem d_Bid_init_4 : decode c_Bid_init 4 = .ok (.aload_n 0, 1) := by decide +kernel
theorem d_Bid_init_5 : decode c_Bid_init 5 = .ok (.iload_n 1, 1) := by decide +kernel
theorem d_Bid_init_6 : decode c_Bid_init 6 = .ok (.putfield 7, 3) := by decide +kernel
theorem d_Bid_init_9 : decode c_Bid_init 9 = .ok (.aload_n 0, 1) := by decide +kernel
theorem d_Bid_init_10 : decode c_Bid_init 10 = .ok (.aload_n 2, 1) := by decide +kernel
theorem d_Bid_init_11 : decode c_Bid_init 11 = .ok (.putfield 13, 3) := by decide +kernel
theorem d_Bid_init_14 : decode c_Bid_init 14 = .ok (.aload_n 0, 1) := by decide +kernel
theorem d_Bid_init_15 : decode c_Bid_init 15 = .ok (.lload_n 3, 1) := by decide +kernel
theorem d_Bid_init_16 : decode c_Bid_init 16 = .ok (.putfield 17, 3) := by decide +kernel
theorem d_Bid_init_19 : decode c_Bid_init 19 = .ok (.return_, 1) := by decide +kernel
theorem d_BT_on_0 : decode c_BT_on 0 = .ok (.aload_n 0, 1) := by decide +kernel
theorem d_BT_on_1 : decode c_BT_on 1 = .ok (.iload_n 1, 1) := by decide +kernel
theorem d_BT_on_2 : decode c_BT_on 2 = .ok (.invokevirtual 89, 3) := by decide +kernel
theorem d_BT_on_5 : decode c_BT_on 5 = .ok (.astore_n 3, 1) := by decide +kernel
theorem d_BT_on_6 : decode c_BT_on 6 = .ok (.aload_n 3, 1) := by decide +kernel
theorem d_BT_on_7 : decode c_BT_on 7 = .ok (.ifnull 29, 3) := by decide +kernel
theorem d_BT_on_10 : decode c_BT_on 10 = .ok (.aload_n 0, 1) := by decide +kernel
theorem d_BT_on_11 : decode c_BT_on 11 = .ok (.iload_n 2, 1) := by decide +kernel
theorem d_BT_on_12 : decode c_BT_on 12 = .ok (.invokevirtual 93, 3) := by decide +kernel
theorem d_BT_on_15 : decode c_BT_on 15 = .ok (.ifnull 21, 3) := by decide +kernel
theorem d_BT_on_18 : decode c_BT_on 18 = .ok (.aload_n 3, 1) := by decide +kernel
theorem d_BT_on_19 : decode c_BT_on 19 = .ok (.getfield 97, 3) := by decide +kernel
theorem d_BT_on_22 : decode c_BT_on 22 = .ok (.getfield 101, 3) := by decide +kernel
theorem d_BT_on_25 : decode c_BT_on 25 = .ok (.ifCond .ne 11, 3) := by decide +kernel
theorem d_BT_on_28 : decode c_BT_on 28 = .ok (.aload_n 3, 1) := by decide +kernel
theorem d_BT_on_29 : decode c_BT_on 29 = .ok (.iload_n 2, 1) := by decide +kernel
theorem d_BT_on_30 : decode c_BT_on 30 = .ok (.invokevirtual 104, 3) := by decide +kernel
theorem d_BT_on_33 : decode c_BT_on 33 = .ok (.ifCond .eq 5, 3) := by decide +kernel
theorem d_BT_on_36 : decode c_BT_on 36 = .ok (.iconst 0, 1) := by decide +kernel
theorem d_BT_on_37 : decode c_BT_on 37 = .ok (.ireturn, 1) := by decide +kernel
theorem d_BT_on_38 : decode c_BT_on 38 = .ok (.aload_n 3, 1) := by decide +kernel
theorem d_BT_on_39 : decode c_BT_on 39 = .ok (.dup, 1) := by decide +kernel
theorem d_BT_on_40 : decode c_BT_on 40 = .ok (.getfield 108, 3) := by decide +kernel
theorem d_BT_on_43 : decode c_BT_on 43 = .ok (.iconst 1, 1) := by decide +kernel
theorem d_BT_on_44 : decode c_BT_on 44 = .ok (.iload_n 2, 1) := by decide +kernel
theorem d_BT_on_45 : decode c_BT_on 45 = .ok (.ishl, 1) := by decide +kernel
theorem d_BT_on_46 : decode c_BT_on 46 = .ok (.ior, 1) := by decide +kernel
theorem d_BT_on_47 : decode c_BT_on 47 = .ok (.putfield 108, 3) := by decide +kernel
theorem d_BT_on_50 : decode c_BT_on 50 = .ok (.aload_n 0, 1) := by decide +kernel
theorem d_BT_on_51 : decode c_BT_on 51 = .ok (.iconst 1, 1) := by decide +kernel
theorem d_BT_on_52 : decode c_BT_on 52 = .ok (.putfield 58, 3) := by decide +kernel
theorem d_BT_on_55 : decode c_BT_on 55 = .ok (.iconst 1, 1) := by decide +kernel
theorem d_BT_on_56 : decode c_BT_on 56 = .ok (.ireturn, 1) := by decide +kernel
theorem d_BT_bidAt_0 : decode c_BT_bidAt 0 = .ok (.iload_n 1, 1) := by decide +kernel
theorem d_BT_bidAt_1 : decode c_BT_bidAt 1 = .ok (.ifCond .lt 20, 3) := by decide +kernel
theorem d_BT_bidAt_4 : decode c_BT_bidAt 4 = .ok (.iload_n 1, 1) := by decide +kernel
theorem d_BT_bidAt_5 : decode c_BT_bidAt 5 = .ok (.aload_n 0, 1) := by decide +kernel
theorem d_BT_bidAt_6 : decode c_BT_bidAt 6 = .ok (.getfield 81, 3) := by decide +kernel
theorem d_BT_bidAt_9 : decode c_BT_bidAt 9 = .ok (.if_icmp .ge 12, 3) := by decide +kernel
theorem d_BT_bidAt_12 : decode c_BT_bidAt 12 = .ok (.aload_n 0, 1) := by decide +kernel
theorem d_BT_bidAt_13 : decode c_BT_bidAt 13 = .ok (.getfield 23, 3) := by decide +kernel
theorem d_BT_bidAt_16 : decode c_BT_bidAt 16 = .ok (.iload_n 1, 1) := by decide +kernel
theorem d_BT_bidAt_17 : decode c_BT_bidAt 17 = .ok (.aaload, 1) := by decide +kernel
theorem d_BT_bidAt_18 : decode c_BT_bidAt 18 = .ok (.goto 4, 3) := by decide +kernel
theorem d_BT_bidAt_21 : decode c_BT_bidAt 21 = .ok (.aconst_null, 1) := by decide +kernel
theorem d_BT_bidAt_22 : decode c_BT_bidAt 22 = .ok (.areturn, 1) := by decide +kernel
theorem d_BT_lotAt_0 : decode c_BT_lotAt 0 = .ok (.iload_n 1, 1) := by decide +kernel
theorem d_BT_lotAt_1 : decode c_BT_lotAt 1 = .ok (.ifCond .lt 20, 3) := by decide +kernel
theorem d_BT_lotAt_4 : decode c_BT_lotAt 4 = .ok (.iload_n 1, 1) := by decide +kernel
theorem d_BT_lotAt_5 : decode c_BT_lotAt 5 = .ok (.aload_n 0, 1) := by decide +kernel
theorem d_BT_lotAt_6 : decode c_BT_lotAt 6 = .ok (.getfield 47, 3) := by decide +kernel
theorem d_BT_lotAt_9 : decode c_BT_lotAt 9 = .ok (.if_icmp .ge 12, 3) := by decide +kernel
theorem d_BT_lotAt_12 : decode c_BT_lotAt 12 = .ok (.aload_n 0, 1) := by decide +kernel
theorem d_BT_lotAt_13 : decode c_BT_lotAt 13 = .ok (.getfield 11, 3) := by decide +kernel
theorem d_BT_lotAt_16 : decode c_BT_lotAt 16 = .ok (.iload_n 1, 1) := by decide +kernel
theorem d_BT_lotAt_17 : decode c_BT_lotAt 17 = .ok (.aaload, 1) := by decide +kernel
theorem d_BT_lotAt_18 : decode c_BT_lotAt 18 = .ok (.goto 4, 3) := by decide +kernel
theorem d_BT_lotAt_21 : decode c_BT_lotAt 21 = .ok (.aconst_null, 1) := by decide +kernel
theorem d_BT_lotAt_22 : decode c_BT_lotAt 22 = .ok (.areturn, 1) := by decide +kernel
theorem d_Bid_has_0 : decode c_Bid_has 0 = .ok (.aload_n 0, 1) := by decide +kernel
theorem d_Bid_has_1 : decode c_Bid_has 1 = .ok (.getfield 21, 3) := by decide +kernel
theorem d_Bid_has_4 : decode c_Bid_has 4 = .ok (.iload_n 1, 1) := by decide +kernel
theorem d_Bid_has_5 : decode c_Bid_has 5 = .ok (.iushr, 1) := by decide +kernel
theorem d_Bid_has_6 : decode c_Bid_has 6 = .ok (.iconst 1, 1) := by decide +kernel
theorem d_Bid_has_7 : decode c_Bid_has 7 = .ok (.iand, 1) := by decide +kernel
theorem d_Bid_has_8 : decode c_Bid_has 8 = .ok (.ifCond .eq 7, 3) := by decide +kernel
theorem d_Bid_has_11 : decode c_Bid_has 11 = .ok (.iconst 1, 1) := by decide +kernel
theorem d_Bid_has_12 : decode c_Bid_has 12 = .ok (.goto 4, 3) := by decide +kernel
theorem d_Bid_has_15 : decode c_Bid_has 15 = .ok (.iconst 0, 1) := by decide +kernel
theorem d_Bid_has_16 : decode c_Bid_has 16 = .ok (.ireturn, 1) := by decide +kernel
theorem d_BT_seal_0 : decode c_BT_seal 0 = .ok (.aload_n 0, 1) := by decide +kernel
theorem d_BT_seal_1 : decode c_BT_seal 1 = .ok (.iload_n 1, 1) := by decide +kernel
theorem d_BT_seal_2 : decode c_BT_seal 2 = .ok (.invokevirtual 68, 3) := by decide +kernel
theorem d_BT_seal_5 : decode c_BT_seal 5 = .ok (.astore 4, 2) := by decide +kernel
theorem d_BT_seal_7 : decode c_BT_seal 7 = .ok (.aload 4, 2) := by decide +kernel
theorem d_BT_seal_9 : decode c_BT_seal 9 = .ok (.ifnull 31, 3) := by decide +kernel
theorem d_BT_seal_12 : decode c_BT_seal 12 = .ok (.iload_n 2, 1) := by decide +kernel
theorem d_BT_seal_13 : decode c_BT_seal 13 = .ok (.invokestatic 111, 3) := by decide +kernel
theorem d_BT_seal_16 : decode c_BT_seal 16 = .ok (.ifCond .eq 24, 3) := by decide +kernel
theorem d_BT_seal_19 : decode c_BT_seal 19 = .ok (.iload_n 3, 1) := by decide +kernel
theorem d_BT_seal_20 : decode c_BT_seal 20 = .ok (.i2l, 1) := by decide +kernel
theorem d_BT_seal_21 : decode c_BT_seal 21 = .ok (.lconst 0, 1) := by decide +kernel
theorem d_BT_seal_22 : decode c_BT_seal 22 = .ok (.ldc2_w 114, 3) := by decide +kernel
theorem d_BT_seal_25 : decode c_BT_seal 25 = .ok (.invokestatic 53, 3) := by decide +kernel
theorem d_BT_seal_28 : decode c_BT_seal 28 = .ok (.ifCond .eq 12, 3) := by decide +kernel
theorem d_BT_seal_31 : decode c_BT_seal 31 = .ok (.aload 4, 2) := by decide +kernel
theorem d_BT_seal_33 : decode c_BT_seal 33 = .ok (.iload_n 2, 1) := by decide +kernel
theorem d_BT_seal_34 : decode c_BT_seal 34 = .ok (.invokevirtual 116, 3) := by decide +kernel
theorem d_BT_seal_37 : decode c_BT_seal 37 = .ok (.ifCond .eq 5, 3) := by decide +kernel
theorem d_BT_seal_40 : decode c_BT_seal 40 = .ok (.iconst (-1), 1) := by decide +kernel
theorem d_BT_seal_41 : decode c_BT_seal 41 = .ok (.ireturn, 1) := by decide +kernel
theorem d_BT_seal_42 : decode c_BT_seal 42 = .ok (.aload 4, 2) := by decide +kernel
theorem d_BT_seal_44 : decode c_BT_seal 44 = .ok (.iload_n 2, 1) := by decide +kernel
theorem d_BT_seal_45 : decode c_BT_seal 45 = .ok (.iload_n 3, 1) := by decide +kernel
theorem d_BT_seal_46 : decode c_BT_seal 46 = .ok (.invokevirtual 119, 3) := by decide +kernel
theorem d_BT_seal_49 : decode c_BT_seal 49 = .ok (.aload_n 0, 1) := by decide +kernel
theorem d_BT_seal_50 : decode c_BT_seal 50 = .ok (.iconst 1, 1) := by decide +kernel
theorem d_BT_seal_51 : decode c_BT_seal 51 = .ok (.putfield 58, 3) := by decide +kernel
theorem d_BT_seal_54 : decode c_BT_seal 54 = .ok (.aload 4, 2) := by decide +kernel
theorem d_BT_seal_56 : decode c_BT_seal 56 = .ok (.invokevirtual 123, 3) := by decide +kernel
theorem d_BT_seal_59 : decode c_BT_seal 59 = .ok (.ireturn, 1) := by decide +kernel
theorem d_BT_isSealByte_0 : decode c_BT_isSealByte 0 = .ok (.iload_n 0, 1) := by decide +kernel
theorem d_BT_isSealByte_1 : decode c_BT_isSealByte 1 = .ok (.i2l, 1) := by decide +kernel
theorem d_BT_isSealByte_2 : decode c_BT_isSealByte 2 = .ok (.lconst 0, 1) := by decide +kernel
theorem d_BT_isSealByte_3 : decode c_BT_isSealByte 3 = .ok (.ldc2_w 254, 3) := by decide +kernel
theorem d_BT_isSealByte_6 : decode c_BT_isSealByte 6 = .ok (.invokestatic 53, 3) := by decide +kernel
theorem d_BT_isSealByte_9 : decode c_BT_isSealByte 9 = .ok (.ireturn, 1) := by decide +kernel
theorem d_Bdr_toldSealByte_0 : decode c_Bdr_toldSealByte 0 = .ok (.aload_n 0, 1) := by decide +kernel
theorem d_Bdr_toldSealByte_1 : decode c_Bdr_toldSealByte 1 = .ok (.getfield 22, 3) := by decide +kernel
theorem d_Bdr_toldSealByte_4 : decode c_Bdr_toldSealByte 4 = .ok (.iload_n 1, 1) := by decide +kernel
theorem d_Bdr_toldSealByte_5 : decode c_Bdr_toldSealByte 5 = .ok (.iushr, 1) := by decide +kernel
theorem d_Bdr_toldSealByte_6 : decode c_Bdr_toldSealByte 6 = .ok (.iconst 1, 1) := by decide +kernel
theorem d_Bdr_toldSealByte_7 : decode c_Bdr_toldSealByte 7 = .ok (.iand, 1) := by decide +kernel
theorem d_Bdr_toldSealByte_8 : decode c_Bdr_toldSealByte 8 = .ok (.ifCond .eq 7, 3) := by decide +kernel
theorem d_Bdr_toldSealByte_11 : decode c_Bdr_toldSealByte 11 = .ok (.iconst 1, 1) := by decide +kernel
theorem d_Bdr_toldSealByte_12 : decode c_Bdr_toldSealByte 12 = .ok (.goto 4, 3) := by decide +kernel
theorem d_Bdr_toldSealByte_15 : decode c_Bdr_toldSealByte 15 = .ok (.iconst 0, 1) := by decide +kernel
theorem d_Bdr_toldSealByte_16 : decode c_Bdr_toldSealByte 16 = .ok (.ireturn, 1) := by decide +kernel
theorem d_Bdr_keepSealByte_0 : decode c_Bdr_keepSealByte 0 = .ok (.aload_n 0, 1) := by decide +kernel
theorem d_Bdr_keepSealByte_1 : decode c_Bdr_keepSealByte 1 = .ok (.dup, 1) := by decide +kernel
theorem d_Bdr_keepSealByte_2 : decode c_Bdr_keepSealByte 2 = .ok (.getfield 25, 3) := by decide +kernel
theorem d_Bdr_keepSealByte_5 : decode c_Bdr_keepSealByte 5 = .ok (.iload_n 2, 1) := by decide +kernel
theorem d_Bdr_keepSealByte_6 : decode c_Bdr_keepSealByte 6 = .ok (.i2l, 1) := by decide +kernel
theorem d_Bdr_keepSealByte_7 : decode c_Bdr_keepSealByte 7 = .ok (.iload_n 1, 1) := by decide +kernel
theorem d_Bdr_keepSealByte_8 : decode c_Bdr_keepSealByte 8 = .ok (.invokestatic 29, 3) := by decide +kernel
theorem d_Bdr_keepSealByte_11 : decode c_Bdr_keepSealByte 11 = .ok (.lshl, 1) := by decide +kernel
theorem d_Bdr_keepSealByte_12 : decode c_Bdr_keepSealByte 12 = .ok (.lor, 1) := by decide +kernel
theorem d_Bdr_keepSealByte_13 : decode c_Bdr_keepSealByte 13 = .ok (.putfield 25, 3) := by decide +kernel
theorem d_Bdr_keepSealByte_16 : decode c_Bdr_keepSealByte 16 = .ok (.aload_n 0, 1) := by decide +kernel
theorem d_Bdr_keepSealByte_17 : decode c_Bdr_keepSealByte 17 = .ok (.dup, 1) := by decide +kernel
theorem d_Bdr_keepSealByte_18 : decode c_Bdr_keepSealByte 18 = .ok (.getfield 22, 3) := by decide +kernel
theorem d_Bdr_keepSealByte_21 : decode c_Bdr_keepSealByte 21 = .ok (.iconst 1, 1) := by decide +kernel
theorem d_Bdr_keepSealByte_22 : decode c_Bdr_keepSealByte 22 = .ok (.iload_n 1, 1) := by decide +kernel
theorem d_Bdr_keepSealByte_23 : decode c_Bdr_keepSealByte 23 = .ok (.ishl, 1) := by decide +kernel
theorem d_Bdr_keepSealByte_24 : decode c_Bdr_keepSealByte 24 = .ok (.ior, 1) := by decide +kernel
theorem d_Bdr_keepSealByte_25 : decode c_Bdr_keepSealByte 25 = .ok (.putfield 22, 3) := by decide +kernel
theorem d_Bdr_keepSealByte_28 : decode c_Bdr_keepSealByte 28 = .ok (.return_, 1) := by decide +kernel
theorem d_BT_shiftOfByte_0 : decode c_BT_shiftOfByte 0 = .ok (.bipush 8, 2) := by decide +kernel
theorem d_BT_shiftOfByte_2 : decode c_BT_shiftOfByte 2 = .ok (.bipush 7, 2) := by decide +kernel
theorem d_BT_shiftOfByte_4 : decode c_BT_shiftOfByte 4 = .ok (.iload_n 0, 1) := by decide +kernel
theorem d_BT_shiftOfByte_5 : decode c_BT_shiftOfByte 5 = .ok (.isub, 1) := by decide +kernel
theorem d_BT_shiftOfByte_6 : decode c_BT_shiftOfByte 6 = .ok (.imul, 1) := by decide +kernel
theorem d_BT_shiftOfByte_7 : decode c_BT_shiftOfByte 7 = .ok (.ireturn, 1) := by decide +kernel
theorem d_Bdr_sealBytesTold_0 : decode c_Bdr_sealBytesTold 0 = .ok (.aload_n 0, 1) := by decide +kernel
theorem d_Bdr_sealBytesTold_1 : decode c_Bdr_sealBytesTold 1 = .ok (.getfield 22, 3) := by decide +kernel
theorem d_Bdr_sealBytesTold_4 : decode c_Bdr_sealBytesTold 4 = .ok (.invokestatic 33, 3) := by decide +kernel
theorem d_Bdr_sealBytesTold_7 : decode c_Bdr_sealBytesTold 7 = .ok (.ireturn, 1) := by decide +kernel
theorem d_Jin_bitCount_0 : decode c_Jin_bitCount 0 = .ok (.iload_n 0, 1) := by decide +kernel
theorem d_Jin_bitCount_1 : decode c_Jin_bitCount 1 = .ok (.iload_n 0, 1) := by decide +kernel
theorem d_Jin_bitCount_2 : decode c_Jin_bitCount 2 = .ok (.iconst 1, 1) := by decide +kernel
theorem d_Jin_bitCount_3 : decode c_Jin_bitCount 3 = .ok (.iushr, 1) := by decide +kernel
theorem d_Jin_bitCount_4 : decode c_Jin_bitCount 4 = .ok (.ldc_w 265, 3) := by decide +kernel
theorem d_Jin_bitCount_7 : decode c_Jin_bitCount 7 = .ok (.iand, 1) := by decide +kernel
theorem d_Jin_bitCount_8 : decode c_Jin_bitCount 8 = .ok (.isub, 1) := by decide +kernel
theorem d_Jin_bitCount_9 : decode c_Jin_bitCount 9 = .ok (.istore_n 0, 1) := by decide +kernel
theorem d_Jin_bitCount_10 : decode c_Jin_bitCount 10 = .ok (.iload_n 0, 1) := by decide +kernel
theorem d_Jin_bitCount_11 : decode c_Jin_bitCount 11 = .ok (.ldc_w 266, 3) := by decide +kernel
theorem d_Jin_bitCount_14 : decode c_Jin_bitCount 14 = .ok (.iand, 1) := by decide +kernel
theorem d_Jin_bitCount_15 : decode c_Jin_bitCount 15 = .ok (.iload_n 0, 1) := by decide +kernel
theorem d_Jin_bitCount_16 : decode c_Jin_bitCount 16 = .ok (.iconst 2, 1) := by decide +kernel
theorem d_Jin_bitCount_17 : decode c_Jin_bitCount 17 = .ok (.iushr, 1) := by decide +kernel
theorem d_Jin_bitCount_18 : decode c_Jin_bitCount 18 = .ok (.ldc_w 266, 3) := by decide +kernel
theorem d_Jin_bitCount_21 : decode c_Jin_bitCount 21 = .ok (.iand, 1) := by decide +kernel
theorem d_Jin_bitCount_22 : decode c_Jin_bitCount 22 = .ok (.iadd, 1) := by decide +kernel
theorem d_Jin_bitCount_23 : decode c_Jin_bitCount 23 = .ok (.istore_n 0, 1) := by decide +kernel
theorem d_Jin_bitCount_24 : decode c_Jin_bitCount 24 = .ok (.iload_n 0, 1) := by decide +kernel
theorem d_Jin_bitCount_25 : decode c_Jin_bitCount 25 = .ok (.iload_n 0, 1) := by decide +kernel
theorem d_Jin_bitCount_26 : decode c_Jin_bitCount 26 = .ok (.iconst 4, 1) := by decide +kernel
theorem d_Jin_bitCount_27 : decode c_Jin_bitCount 27 = .ok (.iushr, 1) := by decide +kernel
theorem d_Jin_bitCount_28 : decode c_Jin_bitCount 28 = .ok (.iadd, 1) := by decide +kernel
theorem d_Jin_bitCount_29 : decode c_Jin_bitCount 29 = .ok (.ldc_w 267, 3) := by decide +kernel
theorem d_Jin_bitCount_32 : decode c_Jin_bitCount 32 = .ok (.iand, 1) := by decide +kernel
theorem d_Jin_bitCount_33 : decode c_Jin_bitCount 33 = .ok (.istore_n 0, 1) := by decide +kernel
theorem d_Jin_bitCount_34 : decode c_Jin_bitCount 34 = .ok (.iload_n 0, 1) := by decide +kernel
theorem d_Jin_bitCount_35 : decode c_Jin_bitCount 35 = .ok (.iload_n 0, 1) := by decide +kernel
theorem d_Jin_bitCount_36 : decode c_Jin_bitCount 36 = .ok (.bipush 8, 2) := by decide +kernel
theorem d_Jin_bitCount_38 : decode c_Jin_bitCount 38 = .ok (.iushr, 1) := by decide +kernel
theorem d_Jin_bitCount_39 : decode c_Jin_bitCount 39 = .ok (.iadd, 1) := by decide +kernel
theorem d_Jin_bitCount_40 : decode c_Jin_bitCount 40 = .ok (.istore_n 0, 1) := by decide +kernel
theorem d_Jin_bitCount_41 : decode c_Jin_bitCount 41 = .ok (.iload_n 0, 1) := by decide +kernel
theorem d_Jin_bitCount_42 : decode c_Jin_bitCount 42 = .ok (.iload_n 0, 1) := by decide +kernel
theorem d_Jin_bitCount_43 : decode c_Jin_bitCount 43 = .ok (.bipush 16, 2) := by decide +kernel
theorem d_Jin_bitCount_45 : decode c_Jin_bitCount 45 = .ok (.iushr, 1) := by decide +kernel
theorem d_Jin_bitCount_46 : decode c_Jin_bitCount 46 = .ok (.iadd, 1) := by decide +kernel
theorem d_Jin_bitCount_47 : decode c_Jin_bitCount 47 = .ok (.istore_n 0, 1) := by decide +kernel
theorem d_Jin_bitCount_48 : decode c_Jin_bitCount 48 = .ok (.iload_n 0, 1) := by decide +kernel
theorem d_Jin_bitCount_49 : decode c_Jin_bitCount 49 = .ok (.bipush 63, 2) := by decide +kernel
theorem d_Jin_bitCount_51 : decode c_Jin_bitCount 51 = .ok (.iand, 1) := by decide +kernel
theorem d_Jin_bitCount_52 : decode c_Jin_bitCount 52 = .ok (.ireturn, 1) := by decide +kernel
theorem d_BT_digest_0 : decode c_BT_digest 0 = .ok (.aload_n 0, 1) := by decide +kernel
theorem d_BT_digest_1 : decode c_BT_digest 1 = .ok (.iload_n 1, 1) := by decide +kernel
theorem d_BT_digest_2 : decode c_BT_digest 2 = .ok (.invokevirtual 127, 3) := by decide +kernel
theorem d_BT_digest_5 : decode c_BT_digest 5 = .ok (.astore 5, 2) := by decide +kernel
theorem d_BT_digest_7 : decode c_BT_digest 7 = .ok (.aload 5, 2) := by decide +kernel
theorem d_BT_digest_9 : decode c_BT_digest 9 = .ok (.ifnull 11, 3) := by decide +kernel
theorem d_BT_digest_12 : decode c_BT_digest 12 = .ok (.iload 4, 2) := by decide +kernel
theorem d_BT_digest_14 : decode c_BT_digest 14 = .ok (.invokestatic 111, 3) := by decide +kernel
theorem d_BT_digest_17 : decode c_BT_digest 17 = .ok (.ifCond .ne 5, 3) := by decide +kernel
theorem d_BT_digest_20 : decode c_BT_digest 20 = .ok (.iconst (-1), 1) := by decide +kernel
theorem d_BT_digest_21 : decode c_BT_digest 21 = .ok (.ireturn, 1) := by decide +kernel
theorem d_BT_digest_22 : decode c_BT_digest 22 = .ok (.aload_n 0, 1) := by decide +kernel
theorem d_BT_digest_23 : decode c_BT_digest 23 = .ok (.aload 5, 2) := by decide +kernel
theorem d_BT_digest_25 : decode c_BT_digest 25 = .ok (.lload_n 2, 1) := by decide +kernel
theorem d_BT_digest_26 : decode c_BT_digest 26 = .ok (.invokevirtual 130, 3) := by decide +kernel
theorem d_BT_digest_29 : decode c_BT_digest 29 = .ok (.iload 4, 2) := by decide +kernel
theorem d_BT_digest_31 : decode c_BT_digest 31 = .ok (.invokestatic 134, 3) := by decide +kernel
theorem d_BT_digest_34 : decode c_BT_digest 34 = .ok (.lushr, 1) := by decide +kernel
theorem d_BT_digest_35 : decode c_BT_digest 35 = .ok (.l2i, 1) := by decide +kernel
theorem d_BT_digest_36 : decode c_BT_digest 36 = .ok (.sipush 255, 3) := by decide +kernel
theorem d_BT_digest_39 : decode c_BT_digest 39 = .ok (.iand, 1) := by decide +kernel
theorem d_BT_digest_40 : decode c_BT_digest 40 = .ok (.ireturn, 1) := by decide +kernel
theorem d_BT_digestOf_0 : decode c_BT_digestOf 0 = .ok (.lload_n 2, 1) := by decide +kernel
theorem d_BT_digestOf_1 : decode c_BT_digestOf 1 = .ok (.lstore 4, 2) := by decide +kernel
theorem d_BT_digestOf_3 : decode c_BT_digestOf 3 = .ok (.aload_n 0, 1) := by decide +kernel
theorem d_BT_digestOf_4 : decode c_BT_digestOf 4 = .ok (.getfield 23, 3) := by decide +kernel
theorem d_BT_digestOf_7 : decode c_BT_digestOf 7 = .ok (.astore 6, 2) := by decide +kernel
theorem d_BT_digestOf_9 : decode c_BT_digestOf 9 = .ok (.aload 6, 2) := by decide +kernel
theorem d_BT_digestOf_11 : decode c_BT_digestOf 11 = .ok (.arraylength, 1) := by decide +kernel
theorem d_BT_digestOf_12 : decode c_BT_digestOf 12 = .ok (.istore 7, 2) := by decide +kernel
theorem d_BT_digestOf_14 : decode c_BT_digestOf 14 = .ok (.iconst 0, 1) := by decide +kernel
theorem d_BT_digestOf_15 : decode c_BT_digestOf 15 = .ok (.istore 8, 2) := by decide +kernel
theorem d_BT_digestOf_17 : decode c_BT_digestOf 17 = .ok (.iload 8, 2) := by decide +kernel
theorem d_BT_digestOf_19 : decode c_BT_digestOf 19 = .ok (.iload 7, 2) := by decide +kernel
theorem d_BT_digestOf_21 : decode c_BT_digestOf 21 = .ok (.if_icmp .ge 83, 3) := by decide +kernel
theorem d_BT_digestOf_24 : decode c_BT_digestOf 24 = .ok (.aload 6, 2) := by decide +kernel
theorem d_BT_digestOf_26 : decode c_BT_digestOf 26 = .ok (.iload 8, 2) := by decide +kernel
theorem d_BT_digestOf_28 : decode c_BT_digestOf 28 = .ok (.aaload, 1) := by decide +kernel
theorem d_BT_digestOf_29 : decode c_BT_digestOf 29 = .ok (.astore 9, 2) := by decide +kernel
theorem d_BT_digestOf_31 : decode c_BT_digestOf 31 = .ok (.aload 9, 2) := by decide +kernel
theorem d_BT_digestOf_33 : decode c_BT_digestOf 33 = .ok (.ifnull 65, 3) := by decide +kernel
theorem d_BT_digestOf_36 : decode c_BT_digestOf 36 = .ok (.aload 9, 2) := by decide +kernel
theorem d_BT_digestOf_38 : decode c_BT_digestOf 38 = .ok (.getfield 97, 3) := by decide +kernel
theorem d_BT_digestOf_41 : decode c_BT_digestOf 41 = .ok (.aload_n 1, 1) := by decide +kernel
theorem d_BT_digestOf_42 : decode c_BT_digestOf 42 = .ok (.if_acmp .ne 56, 3) := by decide +kernel
theorem d_BT_digestOf_45 : decode c_BT_digestOf 45 = .ok (.lload 4, 2) := by decide +kernel
theorem d_BT_digestOf_47 : decode c_BT_digestOf 47 = .ok (.aload 9, 2) := by decide +kernel
theorem d_BT_digestOf_49 : decode c_BT_digestOf 49 = .ok (.getfield 182, 3) := by decide +kernel
theorem d_BT_digestOf_52 : decode c_BT_digestOf 52 = .ok (.ladd, 1) := by decide +kernel
theorem d_BT_digestOf_53 : decode c_BT_digestOf 53 = .ok (.lconst 1, 1) := by decide +kernel
theorem d_BT_digestOf_54 : decode c_BT_digestOf 54 = .ok (.ladd, 1) := by decide +kernel
theorem d_BT_digestOf_55 : decode c_BT_digestOf 55 = .ok (.ldc2_w 261, 3) := by decide +kernel
theorem d_BT_digestOf_58 : decode c_BT_digestOf 58 = .ok (.lmul, 1) := by decide +kernel
theorem d_BT_digestOf_59 : decode c_BT_digestOf 59 = .ok (.lstore 4, 2) := by decide +kernel
theorem d_BT_digestOf_61 : decode c_BT_digestOf 61 = .ok (.lload 4, 2) := by decide +kernel
theorem d_BT_digestOf_63 : decode c_BT_digestOf 63 = .ok (.lload 4, 2) := by decide +kernel
theorem d_BT_digestOf_65 : decode c_BT_digestOf 65 = .ok (.bipush 29, 2) := by decide +kernel
theorem d_BT_digestOf_67 : decode c_BT_digestOf 67 = .ok (.lushr, 1) := by decide +kernel
theorem d_BT_digestOf_68 : decode c_BT_digestOf 68 = .ok (.lxor, 1) := by decide +kernel
theorem d_BT_digestOf_69 : decode c_BT_digestOf 69 = .ok (.lstore 4, 2) := by decide +kernel
theorem d_BT_digestOf_71 : decode c_BT_digestOf 71 = .ok (.lload 4, 2) := by decide +kernel
theorem d_BT_digestOf_73 : decode c_BT_digestOf 73 = .ok (.aload 9, 2) := by decide +kernel
theorem d_BT_digestOf_75 : decode c_BT_digestOf 75 = .ok (.getfield 108, 3) := by decide +kernel
theorem d_BT_digestOf_78 : decode c_BT_digestOf 78 = .ok (.i2l, 1) := by decide +kernel
theorem d_BT_digestOf_79 : decode c_BT_digestOf 79 = .ok (.ladd, 1) := by decide +kernel
theorem d_BT_digestOf_80 : decode c_BT_digestOf 80 = .ok (.lconst 1, 1) := by decide +kernel
theorem d_BT_digestOf_81 : decode c_BT_digestOf 81 = .ok (.ladd, 1) := by decide +kernel
theorem d_BT_digestOf_82 : decode c_BT_digestOf 82 = .ok (.ldc2_w 263, 3) := by decide +kernel
theorem d_BT_digestOf_85 : decode c_BT_digestOf 85 = .ok (.lmul, 1) := by decide +kernel
theorem d_BT_digestOf_86 : decode c_BT_digestOf 86 = .ok (.lstore 4, 2) := by decide +kernel
theorem d_BT_digestOf_88 : decode c_BT_digestOf 88 = .ok (.lload 4, 2) := by decide +kernel
theorem d_BT_digestOf_90 : decode c_BT_digestOf 90 = .ok (.lload 4, 2) := by decide +kernel
theorem d_BT_digestOf_92 : decode c_BT_digestOf 92 = .ok (.bipush 31, 2) := by decide +kernel
theorem d_BT_digestOf_94 : decode c_BT_digestOf 94 = .ok (.lushr, 1) := by decide +kernel
theorem d_BT_digestOf_95 : decode c_BT_digestOf 95 = .ok (.lxor, 1) := by decide +kernel
theorem d_BT_digestOf_96 : decode c_BT_digestOf 96 = .ok (.lstore 4, 2) := by decide +kernel
theorem d_BT_digestOf_98 : decode c_BT_digestOf 98 = .ok (.iinc 8 1, 3) := by decide +kernel
theorem d_BT_digestOf_101 : decode c_BT_digestOf 101 = .ok (.goto (-84), 3) := by decide +kernel
theorem d_BT_digestOf_104 : decode c_BT_digestOf 104 = .ok (.lload 4, 2) := by decide +kernel
theorem d_BT_digestOf_106 : decode c_BT_digestOf 106 = .ok (.lreturn, 1) := by decide +kernel
theorem d_BT_open_0 : decode c_BT_open 0 = .ok (.aload_n 0, 1) := by decide +kernel
theorem d_BT_open_1 : decode c_BT_open 1 = .ok (.iload_n 1, 1) := by decide +kernel
theorem d_BT_open_2 : decode c_BT_open 2 = .ok (.invokevirtual 68, 3) := by decide +kernel
theorem d_BT_open_5 : decode c_BT_open 5 = .ok (.astore 4, 2) := by decide +kernel
theorem d_BT_open_7 : decode c_BT_open 7 = .ok (.aload 4, 2) := by decide +kernel
theorem d_BT_open_9 : decode c_BT_open 9 = .ok (.ifnull 29, 3) := by decide +kernel
theorem d_BT_open_12 : decode c_BT_open 12 = .ok (.aload 4, 2) := by decide +kernel
theorem d_BT_open_14 : decode c_BT_open 14 = .ok (.invokevirtual 123, 3) := by decide +kernel
theorem d_BT_open_17 : decode c_BT_open 17 = .ok (.bipush 8, 2) := by decide +kernel
theorem d_BT_open_19 : decode c_BT_open 19 = .ok (.if_icmp .lt 19, 3) := by decide +kernel
theorem d_BT_open_22 : decode c_BT_open 22 = .ok (.aload 4, 2) := by decide +kernel
theorem d_BT_open_24 : decode c_BT_open 24 = .ok (.getfield 138, 3) := by decide +kernel
theorem d_BT_open_27 : decode c_BT_open 27 = .ok (.aload_n 0, 1) := by decide +kernel
theorem d_BT_open_28 : decode c_BT_open 28 = .ok (.aload 4, 2) := by decide +kernel
theorem d_BT_open_30 : decode c_BT_open 30 = .ok (.lload_n 2, 1) := by decide +kernel
theorem d_BT_open_31 : decode c_BT_open 31 = .ok (.invokevirtual 130, 3) := by decide +kernel
theorem d_BT_open_34 : decode c_BT_open 34 = .ok (.lcmp, 1) := by decide +kernel
theorem d_BT_open_35 : decode c_BT_open 35 = .ok (.ifCond .eq 5, 3) := by decide +kernel
theorem d_BT_open_38 : decode c_BT_open 38 = .ok (.iconst (-1), 1) := by decide +kernel
theorem d_BT_open_39 : decode c_BT_open 39 = .ok (.ireturn, 1) := by decide +kernel
theorem d_BT_open_40 : decode c_BT_open 40 = .ok (.aload 4, 2) := by decide +kernel
theorem d_BT_open_42 : decode c_BT_open 42 = .ok (.iconst 1, 1) := by decide +kernel
theorem d_BT_open_43 : decode c_BT_open 43 = .ok (.putfield 101, 3) := by decide +kernel
theorem d_BT_open_46 : decode c_BT_open 46 = .ok (.aload_n 0, 1) := by decide +kernel
theorem d_BT_open_47 : decode c_BT_open 47 = .ok (.iconst 1, 1) := by decide +kernel
theorem d_BT_open_48 : decode c_BT_open 48 = .ok (.putfield 58, 3) := by decide +kernel
theorem d_BT_open_51 : decode c_BT_open 51 = .ok (.aload_n 0, 1) := by decide +kernel
theorem d_BT_open_52 : decode c_BT_open 52 = .ok (.aload 4, 2) := by decide +kernel
theorem d_BT_open_54 : decode c_BT_open 54 = .ok (.invokevirtual 141, 3) := by decide +kernel
theorem d_BT_open_57 : decode c_BT_open 57 = .ok (.ireturn, 1) := by decide +kernel
theorem d_BT_bidsOf_0 : decode c_BT_bidsOf 0 = .ok (.iconst 0, 1) := by decide +kernel
theorem d_BT_bidsOf_1 : decode c_BT_bidsOf 1 = .ok (.istore_n 2, 1) := by decide +kernel
theorem d_BT_bidsOf_2 : decode c_BT_bidsOf 2 = .ok (.aload_n 0, 1) := by decide +kernel
theorem d_BT_bidsOf_3 : decode c_BT_bidsOf 3 = .ok (.getfield 23, 3) := by decide +kernel
theorem d_BT_bidsOf_6 : decode c_BT_bidsOf 6 = .ok (.astore_n 3, 1) := by decide +kernel
theorem d_BT_bidsOf_7 : decode c_BT_bidsOf 7 = .ok (.aload_n 3, 1) := by decide +kernel
theorem d_BT_bidsOf_8 : decode c_BT_bidsOf 8 = .ok (.arraylength, 1) := by decide +kernel
theorem d_BT_bidsOf_9 : decode c_BT_bidsOf 9 = .ok (.istore 4, 2) := by decide +kernel
theorem d_BT_bidsOf_11 : decode c_BT_bidsOf 11 = .ok (.iconst 0, 1) := by decide +kernel
theorem d_BT_bidsOf_12 : decode c_BT_bidsOf 12 = .ok (.istore 5, 2) := by decide +kernel
theorem d_BT_bidsOf_14 : decode c_BT_bidsOf 14 = .ok (.iload 5, 2) := by decide +kernel
theorem d_BT_bidsOf_16 : decode c_BT_bidsOf 16 = .ok (.iload 4, 2) := by decide +kernel
theorem d_BT_bidsOf_18 : decode c_BT_bidsOf 18 = .ok (.if_icmp .ge 32, 3) := by decide +kernel
theorem d_BT_bidsOf_21 : decode c_BT_bidsOf 21 = .ok (.aload_n 3, 1) := by decide +kernel
theorem d_BT_bidsOf_22 : decode c_BT_bidsOf 22 = .ok (.iload 5, 2) := by decide +kernel
theorem d_BT_bidsOf_24 : decode c_BT_bidsOf 24 = .ok (.aaload, 1) := by decide +kernel
theorem d_BT_bidsOf_25 : decode c_BT_bidsOf 25 = .ok (.astore 6, 2) := by decide +kernel
theorem d_BT_bidsOf_27 : decode c_BT_bidsOf 27 = .ok (.aload 6, 2) := by decide +kernel
theorem d_BT_bidsOf_29 : decode c_BT_bidsOf 29 = .ok (.ifnull 15, 3) := by decide +kernel
theorem d_BT_bidsOf_32 : decode c_BT_bidsOf 32 = .ok (.aload 6, 2) := by decide +kernel
theorem d_BT_bidsOf_34 : decode c_BT_bidsOf 34 = .ok (.getfield 97, 3) := by decide +kernel
theorem d_BT_bidsOf_37 : decode c_BT_bidsOf 37 = .ok (.aload_n 1, 1) := by decide +kernel
theorem d_BT_bidsOf_38 : decode c_BT_bidsOf 38 = .ok (.if_acmp .ne 6, 3) := by decide +kernel
theorem d_BT_bidsOf_41 : decode c_BT_bidsOf 41 = .ok (.iinc 2 1, 3) := by decide +kernel
theorem d_BT_bidsOf_44 : decode c_BT_bidsOf 44 = .ok (.iinc 5 1, 3) := by decide +kernel
theorem d_BT_bidsOf_47 : decode c_BT_bidsOf 47 = .ok (.goto (-33), 3) := by decide +kernel
theorem d_BT_bidsOf_50 : decode c_BT_bidsOf 50 = .ok (.iload_n 2, 1) := by decide +kernel
theorem d_BT_bidsOf_51 : decode c_BT_bidsOf 51 = .ok (.ireturn, 1) := by decide +kernel
theorem d_BT_run_0 : decode c_BT_run 0 = .ok (.lconst 1, 1) := by decide +kernel
theorem d_BT_run_1 : decode c_BT_run 1 = .ok (.aload_n 0, 1) := by decide +kernel
theorem d_BT_run_2 : decode c_BT_run 2 = .ok (.invokevirtual 145, 3) := by decide +kernel
theorem d_BT_run_5 : decode c_BT_run 5 = .ok (.lshl, 1) := by decide +kernel
theorem d_BT_run_6 : decode c_BT_run 6 = .ok (.lload_n 1, 1) := by decide +kernel
theorem d_BT_run_7 : decode c_BT_run 7 = .ok (.lcmp, 1) := by decide +kernel
theorem d_BT_run_8 : decode c_BT_run 8 = .ok (.ifCond .le 5, 3) := by decide +kernel
theorem d_BT_run_11 : decode c_BT_run 11 = .ok (.iconst (-1), 1) := by decide +kernel
theorem d_BT_run_12 : decode c_BT_run 12 = .ok (.ireturn, 1) := by decide +kernel
theorem d_BT_run_13 : decode c_BT_run 13 = .ok (.aload_n 0, 1) := by decide +kernel
theorem d_BT_run_14 : decode c_BT_run 14 = .ok (.getfield 43, 3) := by decide +kernel
theorem d_BT_run_17 : decode c_BT_run 17 = .ok (.invokevirtual 148, 3) := by decide +kernel
theorem d_BT_run_20 : decode c_BT_run 20 = .ok (.aload_n 0, 1) := by decide +kernel
theorem d_BT_run_21 : decode c_BT_run 21 = .ok (.getfield 23, 3) := by decide +kernel
theorem d_BT_run_24 : decode c_BT_run 24 = .ok (.astore_n 3, 1) := by decide +kernel
theorem d_BT_run_25 : decode c_BT_run 25 = .ok (.aload_n 3, 1) := by decide +kernel
theorem d_BT_run_26 : decode c_BT_run 26 = .ok (.arraylength, 1) := by decide +kernel
theorem d_BT_run_27 : decode c_BT_run 27 = .ok (.istore 4, 2) := by decide +kernel
theorem d_BT_run_29 : decode c_BT_run 29 = .ok (.iconst 0, 1) := by decide +kernel
theorem d_BT_run_30 : decode c_BT_run 30 = .ok (.istore 5, 2) := by decide +kernel
theorem d_BT_run_32 : decode c_BT_run 32 = .ok (.iload 5, 2) := by decide +kernel
theorem d_BT_run_34 : decode c_BT_run 34 = .ok (.iload 4, 2) := by decide +kernel
theorem d_BT_run_36 : decode c_BT_run 36 = .ok (.if_icmp .ge 32, 3) := by decide +kernel
theorem d_BT_run_39 : decode c_BT_run 39 = .ok (.aload_n 3, 1) := by decide +kernel
theorem d_BT_run_40 : decode c_BT_run 40 = .ok (.iload 5, 2) := by decide +kernel
theorem d_BT_run_42 : decode c_BT_run 42 = .ok (.aaload, 1) := by decide +kernel
theorem d_BT_run_43 : decode c_BT_run 43 = .ok (.astore 6, 2) := by decide +kernel
theorem d_BT_run_45 : decode c_BT_run 45 = .ok (.aload 6, 2) := by decide +kernel
theorem d_BT_run_47 : decode c_BT_run 47 = .ok (.invokestatic 151, 3) := by decide +kernel
theorem d_BT_run_50 : decode c_BT_run 50 = .ok (.ifCond .eq 12, 3) := by decide +kernel
theorem d_BT_run_53 : decode c_BT_run 53 = .ok (.aload_n 0, 1) := by decide +kernel
theorem d_BT_run_54 : decode c_BT_run 54 = .ok (.getfield 43, 3) := by decide +kernel
theorem d_BT_run_57 : decode c_BT_run 57 = .ok (.aload 6, 2) := by decide +kernel
theorem d_BT_run_59 : decode c_BT_run 59 = .ok (.invokevirtual 155, 3) := by decide +kernel
theorem d_BT_run_62 : decode c_BT_run 62 = .ok (.iinc 5 1, 3) := by decide +kernel
theorem d_BT_run_65 : decode c_BT_run 65 = .ok (.goto (-33), 3) := by decide +kernel
theorem d_BT_run_68 : decode c_BT_run 68 = .ok (.aload_n 0, 1) := by decide +kernel
theorem d_BT_run_69 : decode c_BT_run 69 = .ok (.getfield 43, 3) := by decide +kernel
theorem d_BT_run_72 : decode c_BT_run 72 = .ok (.invokevirtual 159, 3) := by decide +kernel
theorem d_BT_run_75 : decode c_BT_run 75 = .ok (.aload_n 0, 1) := by decide +kernel
theorem d_BT_run_76 : decode c_BT_run 76 = .ok (.iconst 0, 1) := by decide +kernel
theorem d_BT_run_77 : decode c_BT_run 77 = .ok (.putfield 58, 3) := by decide +kernel
theorem d_BT_run_80 : decode c_BT_run 80 = .ok (.aload_n 0, 1) := by decide +kernel
theorem d_BT_run_81 : decode c_BT_run 81 = .ok (.getfield 43, 3) := by decide +kernel
theorem d_BT_run_84 : decode c_BT_run 84 = .ok (.getfield 162, 3) := by decide +kernel
theorem d_BT_run_87 : decode c_BT_run 87 = .ok (.invokestatic 165, 3) := by decide +kernel
theorem d_BT_run_90 : decode c_BT_run 90 = .ok (.ireturn, 1) := by decide +kernel
theorem d_BT_bidsInPlay_0 : decode c_BT_bidsInPlay 0 = .ok (.iconst 0, 1) := by decide +kernel
theorem d_BT_bidsInPlay_1 : decode c_BT_bidsInPlay 1 = .ok (.istore_n 1, 1) := by decide +kernel
theorem d_BT_bidsInPlay_2 : decode c_BT_bidsInPlay 2 = .ok (.aload_n 0, 1) := by decide +kernel
theorem d_BT_bidsInPlay_3 : decode c_BT_bidsInPlay 3 = .ok (.getfield 23, 3) := by decide +kernel
theorem d_BT_bidsInPlay_6 : decode c_BT_bidsInPlay 6 = .ok (.astore_n 2, 1) := by decide +kernel
theorem d_BT_bidsInPlay_7 : decode c_BT_bidsInPlay 7 = .ok (.aload_n 2, 1) := by decide +kernel
theorem d_BT_bidsInPlay_8 : decode c_BT_bidsInPlay 8 = .ok (.arraylength, 1) := by decide +kernel
theorem d_BT_bidsInPlay_9 : decode c_BT_bidsInPlay 9 = .ok (.istore_n 3, 1) := by decide +kernel
theorem d_BT_bidsInPlay_10 : decode c_BT_bidsInPlay 10 = .ok (.iconst 0, 1) := by decide +kernel
theorem d_BT_bidsInPlay_11 : decode c_BT_bidsInPlay 11 = .ok (.istore 4, 2) := by decide +kernel
theorem d_BT_bidsInPlay_13 : decode c_BT_bidsInPlay 13 = .ok (.iload 4, 2) := by decide +kernel
theorem d_BT_bidsInPlay_15 : decode c_BT_bidsInPlay 15 = .ok (.iload_n 3, 1) := by decide +kernel
theorem d_BT_bidsInPlay_16 : decode c_BT_bidsInPlay 16 = .ok (.if_icmp .ge 26, 3) := by decide +kernel
theorem d_BT_bidsInPlay_19 : decode c_BT_bidsInPlay 19 = .ok (.aload_n 2, 1) := by decide +kernel
theorem d_BT_bidsInPlay_20 : decode c_BT_bidsInPlay 20 = .ok (.iload 4, 2) := by decide +kernel
theorem d_BT_bidsInPlay_22 : decode c_BT_bidsInPlay 22 = .ok (.aaload, 1) := by decide +kernel
theorem d_BT_bidsInPlay_23 : decode c_BT_bidsInPlay 23 = .ok (.astore 5, 2) := by decide +kernel
theorem d_BT_bidsInPlay_25 : decode c_BT_bidsInPlay 25 = .ok (.aload 5, 2) := by decide +kernel
theorem d_BT_bidsInPlay_27 : decode c_BT_bidsInPlay 27 = .ok (.invokestatic 151, 3) := by decide +kernel
theorem d_BT_bidsInPlay_30 : decode c_BT_bidsInPlay 30 = .ok (.ifCond .eq 6, 3) := by decide +kernel
theorem d_BT_bidsInPlay_33 : decode c_BT_bidsInPlay 33 = .ok (.iinc 1 1, 3) := by decide +kernel
theorem d_BT_bidsInPlay_36 : decode c_BT_bidsInPlay 36 = .ok (.iinc 4 1, 3) := by decide +kernel
theorem d_BT_bidsInPlay_39 : decode c_BT_bidsInPlay 39 = .ok (.goto (-26), 3) := by decide +kernel
theorem d_BT_bidsInPlay_42 : decode c_BT_bidsInPlay 42 = .ok (.iload_n 1, 1) := by decide +kernel
theorem d_BT_bidsInPlay_43 : decode c_BT_bidsInPlay 43 = .ok (.ireturn, 1) := by decide +kernel
theorem d_BT_inPlay_0 : decode c_BT_inPlay 0 = .ok (.aload_n 0, 1) := by decide +kernel
theorem d_BT_inPlay_1 : decode c_BT_inPlay 1 = .ok (.ifnull 34, 3) := by decide +kernel
theorem d_BT_inPlay_4 : decode c_BT_inPlay 4 = .ok (.aload_n 0, 1) := by decide +kernel
theorem d_BT_inPlay_5 : decode c_BT_inPlay 5 = .ok (.getfield 108, 3) := by decide +kernel
theorem d_BT_inPlay_8 : decode c_BT_inPlay 8 = .ok (.ifCond .eq 27, 3) := by decide +kernel
theorem d_BT_inPlay_11 : decode c_BT_inPlay 11 = .ok (.aload_n 0, 1) := by decide +kernel
theorem d_BT_inPlay_12 : decode c_BT_inPlay 12 = .ok (.getfield 97, 3) := by decide +kernel
theorem d_BT_inPlay_15 : decode c_BT_inPlay 15 = .ok (.getfield 258, 3) := by decide +kernel
theorem d_BT_inPlay_18 : decode c_BT_inPlay 18 = .ok (.ifCond .eq 17, 3) := by decide +kernel
theorem d_BT_inPlay_21 : decode c_BT_inPlay 21 = .ok (.aload_n 0, 1) := by decide +kernel
theorem d_BT_inPlay_22 : decode c_BT_inPlay 22 = .ok (.getfield 97, 3) := by decide +kernel
theorem d_BT_inPlay_25 : decode c_BT_inPlay 25 = .ok (.getfield 101, 3) := by decide +kernel
theorem d_BT_inPlay_28 : decode c_BT_inPlay 28 = .ok (.ifCond .eq 7, 3) := by decide +kernel
theorem d_BT_inPlay_31 : decode c_BT_inPlay 31 = .ok (.iconst 1, 1) := by decide +kernel
theorem d_BT_inPlay_32 : decode c_BT_inPlay 32 = .ok (.goto 4, 3) := by decide +kernel
theorem d_BT_inPlay_35 : decode c_BT_inPlay 35 = .ok (.iconst 0, 1) := by decide +kernel
theorem d_BT_inPlay_36 : decode c_BT_inPlay 36 = .ok (.ireturn, 1) := by decide +kernel
theorem d_Sea_forget_0 : decode c_Sea_forget 0 = .ok (.iconst 0, 1) := by decide +kernel
theorem d_Sea_forget_1 : decode c_Sea_forget 1 = .ok (.istore_n 1, 1) := by decide +kernel
theorem d_Sea_forget_2 : decode c_Sea_forget 2 = .ok (.iload_n 1, 1) := by decide +kernel
theorem d_Sea_forget_3 : decode c_Sea_forget 3 = .ok (.bipush 12, 2) := by decide +kernel
theorem d_Sea_forget_5 : decode c_Sea_forget 5 = .ok (.if_icmp .ge 16, 3) := by decide +kernel
theorem d_Sea_forget_8 : decode c_Sea_forget 8 = .ok (.aload_n 0, 1) := by decide +kernel
theorem d_Sea_forget_9 : decode c_Sea_forget 9 = .ok (.getfield 17, 3) := by decide +kernel
theorem d_Sea_forget_12 : decode c_Sea_forget 12 = .ok (.iload_n 1, 1) := by decide +kernel
theorem d_Sea_forget_13 : decode c_Sea_forget 13 = .ok (.lconst 0, 1) := by decide +kernel
theorem d_Sea_forget_14 : decode c_Sea_forget 14 = .ok (.lastore, 1) := by decide +kernel
theorem d_Sea_forget_15 : decode c_Sea_forget 15 = .ok (.iinc 1 1, 3) := by decide +kernel
theorem d_Sea_forget_18 : decode c_Sea_forget 18 = .ok (.goto (-16), 3) := by decide +kernel
theorem d_Sea_forget_21 : decode c_Sea_forget 21 = .ok (.aload_n 0, 1) := by decide +kernel
theorem d_Sea_forget_22 : decode c_Sea_forget 22 = .ok (.iconst 0, 1) := by decide +kernel
theorem d_Sea_forget_23 : decode c_Sea_forget 23 = .ok (.putfield 41, 3) := by decide +kernel
theorem d_Sea_forget_26 : decode c_Sea_forget 26 = .ok (.aload_n 0, 1) := by decide +kernel
theorem d_Sea_forget_27 : decode c_Sea_forget 27 = .ok (.ldc2_w 21, 3) := by decide +kernel
theorem d_Sea_forget_30 : decode c_Sea_forget 30 = .ok (.putfield 23, 3) := by decide +kernel
theorem d_Sea_forget_33 : decode c_Sea_forget 33 = .ok (.aload_n 0, 1) := by decide +kernel
theorem d_Sea_forget_34 : decode c_Sea_forget 34 = .ok (.iconst 0, 1) := by decide +kernel
theorem d_Sea_forget_35 : decode c_Sea_forget 35 = .ok (.putfield 27, 3) := by decide +kernel
theorem d_Sea_forget_38 : decode c_Sea_forget 38 = .ok (.aload_n 0, 1) := by decide +kernel
theorem d_Sea_forget_39 : decode c_Sea_forget 39 = .ok (.iconst 0, 1) := by decide +kernel
theorem d_Sea_forget_40 : decode c_Sea_forget 40 = .ok (.putfield 34, 3) := by decide +kernel
theorem d_Sea_forget_43 : decode c_Sea_forget 43 = .ok (.return_, 1) := by decide +kernel
theorem d_Sea_addInOrder_0 : decode c_Sea_addInOrder 0 = .ok (.aload_n 0, 1) := by decide +kernel
theorem d_Sea_addInOrder_1 : decode c_Sea_addInOrder 1 = .ok (.getfield 41, 3) := by decide +kernel
theorem d_Sea_addInOrder_4 : decode c_Sea_addInOrder 4 = .ok (.bipush 12, 2) := by decide +kernel
theorem d_Sea_addInOrder_6 : decode c_Sea_addInOrder 6 = .ok (.if_icmp .lt 4, 3) := by decide +kernel
theorem d_Sea_addInOrder_9 : decode c_Sea_addInOrder 9 = .ok (.return_, 1) := by decide +kernel
theorem d_Sea_addInOrder_10 : decode c_Sea_addInOrder 10 = .ok (.aload_n 0, 1) := by decide +kernel
theorem d_Sea_addInOrder_11 : decode c_Sea_addInOrder 11 = .ok (.getfield 41, 3) := by decide +kernel
theorem d_Sea_addInOrder_14 : decode c_Sea_addInOrder 14 = .ok (.istore_n 2, 1) := by decide +kernel
theorem d_Sea_addInOrder_15 : decode c_Sea_addInOrder 15 = .ok (.iload_n 2, 1) := by decide +kernel
theorem d_Sea_addInOrder_16 : decode c_Sea_addInOrder 16 = .ok (.ifCond .le 48, 3) := by decide +kernel
theorem d_Sea_addInOrder_19 : decode c_Sea_addInOrder 19 = .ok (.aload_n 0, 1) := by decide +kernel
theorem d_Sea_addInOrder_20 : decode c_Sea_addInOrder 20 = .ok (.getfield 11, 3) := by decide +kernel
theorem d_Sea_addInOrder_23 : decode c_Sea_addInOrder 23 = .ok (.iload_n 2, 1) := by decide +kernel
theorem d_Sea_addInOrder_24 : decode c_Sea_addInOrder 24 = .ok (.iconst 1, 1) := by decide +kernel
theorem d_Sea_addInOrder_25 : decode c_Sea_addInOrder 25 = .ok (.isub, 1) := by decide +kernel
theorem d_Sea_addInOrder_26 : decode c_Sea_addInOrder 26 = .ok (.aaload, 1) := by decide +kernel
theorem d_Sea_addInOrder_27 : decode c_Sea_addInOrder 27 = .ok (.getfield 44, 3) := by decide +kernel
theorem d_Sea_addInOrder_30 : decode c_Sea_addInOrder 30 = .ok (.getfield 48, 3) := by decide +kernel
theorem d_Sea_addInOrder_33 : decode c_Sea_addInOrder 33 = .ok (.aload_n 1, 1) := by decide +kernel
theorem d_Sea_addInOrder_34 : decode c_Sea_addInOrder 34 = .ok (.getfield 44, 3) := by decide +kernel
theorem d_Sea_addInOrder_37 : decode c_Sea_addInOrder 37 = .ok (.getfield 48, 3) := by decide +kernel
theorem d_Sea_addInOrder_40 : decode c_Sea_addInOrder 40 = .ok (.lcmp, 1) := by decide +kernel
theorem d_Sea_addInOrder_41 : decode c_Sea_addInOrder 41 = .ok (.ifCond .le 23, 3) := by decide +kernel
theorem d_Sea_addInOrder_44 : decode c_Sea_addInOrder 44 = .ok (.aload_n 0, 1) := by decide +kernel
theorem d_Sea_addInOrder_45 : decode c_Sea_addInOrder 45 = .ok (.getfield 11, 3) := by decide +kernel
theorem d_Sea_addInOrder_48 : decode c_Sea_addInOrder 48 = .ok (.iload_n 2, 1) := by decide +kernel
theorem d_Sea_addInOrder_49 : decode c_Sea_addInOrder 49 = .ok (.aload_n 0, 1) := by decide +kernel
theorem d_Sea_addInOrder_50 : decode c_Sea_addInOrder 50 = .ok (.getfield 11, 3) := by decide +kernel
theorem d_Sea_addInOrder_53 : decode c_Sea_addInOrder 53 = .ok (.iload_n 2, 1) := by decide +kernel
theorem d_Sea_addInOrder_54 : decode c_Sea_addInOrder 54 = .ok (.iconst 1, 1) := by decide +kernel
theorem d_Sea_addInOrder_55 : decode c_Sea_addInOrder 55 = .ok (.isub, 1) := by decide +kernel
theorem d_Sea_addInOrder_56 : decode c_Sea_addInOrder 56 = .ok (.aaload, 1) := by decide +kernel
theorem d_Sea_addInOrder_57 : decode c_Sea_addInOrder 57 = .ok (.aastore, 1) := by decide +kernel
theorem d_Sea_addInOrder_58 : decode c_Sea_addInOrder 58 = .ok (.iinc 2 (-1), 3) := by decide +kernel
theorem d_Sea_addInOrder_61 : decode c_Sea_addInOrder 61 = .ok (.goto (-46), 3) := by decide +kernel
theorem d_Sea_addInOrder_64 : decode c_Sea_addInOrder 64 = .ok (.aload_n 0, 1) := by decide +kernel
theorem d_Sea_addInOrder_65 : decode c_Sea_addInOrder 65 = .ok (.getfield 11, 3) := by decide +kernel
theorem d_Sea_addInOrder_68 : decode c_Sea_addInOrder 68 = .ok (.iload_n 2, 1) := by decide +kernel
theorem d_Sea_addInOrder_69 : decode c_Sea_addInOrder 69 = .ok (.aload_n 1, 1) := by decide +kernel
theorem d_Sea_addInOrder_70 : decode c_Sea_addInOrder 70 = .ok (.aastore, 1) := by decide +kernel
theorem d_Sea_addInOrder_71 : decode c_Sea_addInOrder 71 = .ok (.aload_n 0, 1) := by decide +kernel
theorem d_Sea_addInOrder_72 : decode c_Sea_addInOrder 72 = .ok (.dup, 1) := by decide +kernel
theorem d_Sea_addInOrder_73 : decode c_Sea_addInOrder 73 = .ok (.getfield 41, 3) := by decide +kernel
theorem d_Sea_addInOrder_76 : decode c_Sea_addInOrder 76 = .ok (.iconst 1, 1) := by decide +kernel
theorem d_Sea_addInOrder_77 : decode c_Sea_addInOrder 77 = .ok (.iadd, 1) := by decide +kernel
theorem d_Sea_addInOrder_78 : decode c_Sea_addInOrder 78 = .ok (.putfield 41, 3) := by decide +kernel
theorem d_Sea_addInOrder_81 : decode c_Sea_addInOrder 81 = .ok (.return_, 1) := by decide +kernel
theorem d_Sea_find_0 : decode c_Sea_find 0 = .ok (.aload_n 0, 1) := by decide +kernel
theorem d_Sea_find_1 : decode c_Sea_find 1 = .ok (.iconst 0, 1) := by decide +kernel
theorem d_Sea_find_2 : decode c_Sea_find 2 = .ok (.iconst 0, 1) := by decide +kernel
theorem d_Sea_find_3 : decode c_Sea_find 3 = .ok (.iconst 0, 1) := by decide +kernel
theorem d_Sea_find_4 : decode c_Sea_find 4 = .ok (.lconst 0, 1) := by decide +kernel
theorem d_Sea_find_5 : decode c_Sea_find 5 = .ok (.invokevirtual 53, 3) := by decide +kernel
theorem d_Sea_find_8 : decode c_Sea_find 8 = .ok (.return_, 1) := by decide +kernel
theorem d_Sea_tryFrom_0 : decode c_Sea_tryFrom 0 = .ok (.iload_n 1, 1) := by decide +kernel
theorem d_Sea_tryFrom_1 : decode c_Sea_tryFrom 1 = .ok (.aload_n 0, 1) := by decide +kernel
theorem d_Sea_tryFrom_2 : decode c_Sea_tryFrom 2 = .ok (.getfield 41, 3) := by decide +kernel
theorem d_Sea_tryFrom_5 : decode c_Sea_tryFrom 5 = .ok (.if_icmp .lt 11, 3) := by decide +kernel
theorem d_Sea_tryFrom_8 : decode c_Sea_tryFrom 8 = .ok (.aload_n 0, 1) := by decide +kernel
theorem d_Sea_tryFrom_9 : decode c_Sea_tryFrom 9 = .ok (.iload_n 2, 1) := by decide +kernel
theorem d_Sea_tryFrom_10 : decode c_Sea_tryFrom 10 = .ok (.lload 4, 2) := by decide +kernel
theorem d_Sea_tryFrom_12 : decode c_Sea_tryFrom 12 = .ok (.invokevirtual 57, 3) := by decide +kernel
theorem d_Sea_tryFrom_15 : decode c_Sea_tryFrom 15 = .ok (.return_, 1) := by decide +kernel
theorem d_Sea_tryFrom_16 : decode c_Sea_tryFrom 16 = .ok (.aload_n 0, 1) := by decide +kernel
theorem d_Sea_tryFrom_17 : decode c_Sea_tryFrom 17 = .ok (.getfield 11, 3) := by decide +kernel
theorem d_Sea_tryFrom_20 : decode c_Sea_tryFrom 20 = .ok (.iload_n 1, 1) := by decide +kernel
theorem d_Sea_tryFrom_21 : decode c_Sea_tryFrom 21 = .ok (.aaload, 1) := by decide +kernel
theorem d_Sea_tryFrom_22 : decode c_Sea_tryFrom 22 = .ok (.astore 6, 2) := by decide +kernel
theorem d_Sea_tryFrom_24 : decode c_Sea_tryFrom 24 = .ok (.aload 6, 2) := by decide +kernel
theorem d_Sea_tryFrom_26 : decode c_Sea_tryFrom 26 = .ok (.getfield 61, 3) := by decide +kernel
theorem d_Sea_tryFrom_29 : decode c_Sea_tryFrom 29 = .ok (.iload_n 3, 1) := by decide +kernel
theorem d_Sea_tryFrom_30 : decode c_Sea_tryFrom 30 = .ok (.iand, 1) := by decide +kernel
theorem d_Sea_tryFrom_31 : decode c_Sea_tryFrom 31 = .ok (.ifCond .ne 44, 3) := by decide +kernel
theorem d_Sea_tryFrom_34 : decode c_Sea_tryFrom 34 = .ok (.aload_n 0, 1) := by decide +kernel
theorem d_Sea_tryFrom_35 : decode c_Sea_tryFrom 35 = .ok (.aload 6, 2) := by decide +kernel
theorem d_Sea_tryFrom_37 : decode c_Sea_tryFrom 37 = .ok (.iload_n 2, 1) := by decide +kernel
theorem d_Sea_tryFrom_38 : decode c_Sea_tryFrom 38 = .ok (.invokevirtual 64, 3) := by decide +kernel
theorem d_Sea_tryFrom_41 : decode c_Sea_tryFrom 41 = .ok (.ifCond .eq 34, 3) := by decide +kernel
theorem d_Sea_tryFrom_44 : decode c_Sea_tryFrom 44 = .ok (.aload_n 0, 1) := by decide +kernel
theorem d_Sea_tryFrom_45 : decode c_Sea_tryFrom 45 = .ok (.iload_n 1, 1) := by decide +kernel
theorem d_Sea_tryFrom_46 : decode c_Sea_tryFrom 46 = .ok (.iconst 1, 1) := by decide +kernel
theorem d_Sea_tryFrom_47 : decode c_Sea_tryFrom 47 = .ok (.iadd, 1) := by decide +kernel
theorem d_Sea_tryFrom_48 : decode c_Sea_tryFrom 48 = .ok (.iload_n 2, 1) := by decide +kernel
theorem d_Sea_tryFrom_49 : decode c_Sea_tryFrom 49 = .ok (.iconst 1, 1) := by decide +kernel
theorem d_Sea_tryFrom_50 : decode c_Sea_tryFrom 50 = .ok (.aload 6, 2) := by decide +kernel
theorem d_Sea_tryFrom_52 : decode c_Sea_tryFrom 52 = .ok (.getfield 31, 3) := by decide +kernel
theorem d_Sea_tryFrom_55 : decode c_Sea_tryFrom 55 = .ok (.ishl, 1) := by decide +kernel
theorem d_Sea_tryFrom_56 : decode c_Sea_tryFrom 56 = .ok (.ior, 1) := by decide +kernel
theorem d_Sea_tryFrom_57 : decode c_Sea_tryFrom 57 = .ok (.iload_n 3, 1) := by decide +kernel
theorem d_Sea_tryFrom_58 : decode c_Sea_tryFrom 58 = .ok (.aload 6, 2) := by decide +kernel
theorem d_Sea_tryFrom_60 : decode c_Sea_tryFrom 60 = .ok (.getfield 61, 3) := by decide +kernel
theorem d_Sea_tryFrom_63 : decode c_Sea_tryFrom 63 = .ok (.ior, 1) := by decide +kernel
theorem d_Sea_tryFrom_64 : decode c_Sea_tryFrom 64 = .ok (.lload 4, 2) := by decide +kernel
theorem d_Sea_tryFrom_66 : decode c_Sea_tryFrom 66 = .ok (.aload 6, 2) := by decide +kernel
theorem d_Sea_tryFrom_68 : decode c_Sea_tryFrom 68 = .ok (.getfield 68, 3) := by decide +kernel
theorem d_Sea_tryFrom_71 : decode c_Sea_tryFrom 71 = .ok (.ladd, 1) := by decide +kernel
theorem d_Sea_tryFrom_72 : decode c_Sea_tryFrom 72 = .ok (.invokevirtual 53, 3) := by decide +kernel
theorem d_Sea_tryFrom_75 : decode c_Sea_tryFrom 75 = .ok (.aload_n 0, 1) := by decide +kernel
theorem d_Sea_tryFrom_76 : decode c_Sea_tryFrom 76 = .ok (.iload_n 1, 1) := by decide +kernel
theorem d_Sea_tryFrom_77 : decode c_Sea_tryFrom 77 = .ok (.iconst 1, 1) := by decide +kernel
theorem d_Sea_tryFrom_78 : decode c_Sea_tryFrom 78 = .ok (.iadd, 1) := by decide +kernel
theorem d_Sea_tryFrom_79 : decode c_Sea_tryFrom 79 = .ok (.iload_n 2, 1) := by decide +kernel
theorem d_Sea_tryFrom_80 : decode c_Sea_tryFrom 80 = .ok (.iload_n 3, 1) := by decide +kernel
theorem d_Sea_tryFrom_81 : decode c_Sea_tryFrom 81 = .ok (.lload 4, 2) := by decide +kernel
theorem d_Sea_tryFrom_83 : decode c_Sea_tryFrom 83 = .ok (.invokevirtual 53, 3) := by decide +kernel
theorem d_Sea_tryFrom_86 : decode c_Sea_tryFrom 86 = .ok (.return_, 1) := by decide +kernel
theorem d_Sea_keepSale_0 : decode c_Sea_keepSale 0 = .ok (.lload_n 2, 1) := by decide +kernel
theorem d_Sea_keepSale_1 : decode c_Sea_keepSale 1 = .ok (.aload_n 0, 1) := by decide +kernel
theorem d_Sea_keepSale_2 : decode c_Sea_keepSale 2 = .ok (.getfield 23, 3) := by decide +kernel
theorem d_Sea_keepSale_5 : decode c_Sea_keepSale 5 = .ok (.lcmp, 1) := by decide +kernel
theorem d_Sea_keepSale_6 : decode c_Sea_keepSale 6 = .ok (.ifCond .le 21, 3) := by decide +kernel
theorem d_Sea_keepSale_9 : decode c_Sea_keepSale 9 = .ok (.aload_n 0, 1) := by decide +kernel
theorem d_Sea_keepSale_10 : decode c_Sea_keepSale 10 = .ok (.lload_n 2, 1) := by decide +kernel
theorem d_Sea_keepSale_11 : decode c_Sea_keepSale 11 = .ok (.putfield 23, 3) := by decide +kernel
theorem d_Sea_keepSale_14 : decode c_Sea_keepSale 14 = .ok (.aload_n 0, 1) := by decide +kernel
theorem d_Sea_keepSale_15 : decode c_Sea_keepSale 15 = .ok (.iload_n 1, 1) := by decide +kernel
theorem d_Sea_keepSale_16 : decode c_Sea_keepSale 16 = .ok (.putfield 27, 3) := by decide +kernel
theorem d_Sea_keepSale_19 : decode c_Sea_keepSale 19 = .ok (.aload_n 0, 1) := by decide +kernel
theorem d_Sea_keepSale_20 : decode c_Sea_keepSale 20 = .ok (.iload_n 1, 1) := by decide +kernel
theorem d_Sea_keepSale_21 : decode c_Sea_keepSale 21 = .ok (.putfield 34, 3) := by decide +kernel
theorem d_Sea_keepSale_24 : decode c_Sea_keepSale 24 = .ok (.goto 22, 3) := by decide +kernel
theorem d_Sea_keepSale_27 : decode c_Sea_keepSale 27 = .ok (.lload_n 2, 1) := by decide +kernel
theorem d_Sea_keepSale_28 : decode c_Sea_keepSale 28 = .ok (.aload_n 0, 1) := by decide +kernel
theorem d_Sea_keepSale_29 : decode c_Sea_keepSale 29 = .ok (.getfield 23, 3) := by decide +kernel
theorem d_Sea_keepSale_32 : decode c_Sea_keepSale 32 = .ok (.lcmp, 1) := by decide +kernel
theorem d_Sea_keepSale_33 : decode c_Sea_keepSale 33 = .ok (.ifCond .ne 13, 3) := by decide +kernel
theorem d_Sea_keepSale_36 : decode c_Sea_keepSale 36 = .ok (.aload_n 0, 1) := by decide +kernel
theorem d_Sea_keepSale_37 : decode c_Sea_keepSale 37 = .ok (.dup, 1) := by decide +kernel
theorem d_Sea_keepSale_38 : decode c_Sea_keepSale 38 = .ok (.getfield 34, 3) := by decide +kernel
theorem d_Sea_keepSale_41 : decode c_Sea_keepSale 41 = .ok (.iload_n 1, 1) := by decide +kernel
theorem d_Sea_keepSale_42 : decode c_Sea_keepSale 42 = .ok (.ior, 1) := by decide +kernel
theorem d_Sea_keepSale_43 : decode c_Sea_keepSale 43 = .ok (.putfield 34, 3) := by decide +kernel
theorem d_Sea_keepSale_46 : decode c_Sea_keepSale 46 = .ok (.iconst 0, 1) := by decide +kernel
theorem d_Sea_keepSale_47 : decode c_Sea_keepSale 47 = .ok (.istore 4, 2) := by decide +kernel
theorem d_Sea_keepSale_49 : decode c_Sea_keepSale 49 = .ok (.iload 4, 2) := by decide +kernel
theorem d_Sea_keepSale_51 : decode c_Sea_keepSale 51 = .ok (.bipush 12, 2) := by decide +kernel
theorem d_Sea_keepSale_53 : decode c_Sea_keepSale 53 = .ok (.if_icmp .ge 38, 3) := by decide +kernel
theorem d_Sea_keepSale_56 : decode c_Sea_keepSale 56 = .ok (.iload_n 1, 1) := by decide +kernel
theorem d_Sea_keepSale_57 : decode c_Sea_keepSale 57 = .ok (.iload 4, 2) := by decide +kernel
theorem d_Sea_keepSale_59 : decode c_Sea_keepSale 59 = .ok (.iushr, 1) := by decide +kernel
theorem d_Sea_keepSale_60 : decode c_Sea_keepSale 60 = .ok (.iconst 1, 1) := by decide +kernel
theorem d_Sea_keepSale_61 : decode c_Sea_keepSale 61 = .ok (.iand, 1) := by decide +kernel
theorem d_Sea_keepSale_62 : decode c_Sea_keepSale 62 = .ok (.ifCond .ne 23, 3) := by decide +kernel
theorem d_Sea_keepSale_65 : decode c_Sea_keepSale 65 = .ok (.lload_n 2, 1) := by decide +kernel
theorem d_Sea_keepSale_66 : decode c_Sea_keepSale 66 = .ok (.aload_n 0, 1) := by decide +kernel
theorem d_Sea_keepSale_67 : decode c_Sea_keepSale 67 = .ok (.getfield 17, 3) := by decide +kernel
theorem d_Sea_keepSale_70 : decode c_Sea_keepSale 70 = .ok (.iload 4, 2) := by decide +kernel
theorem d_Sea_keepSale_72 : decode c_Sea_keepSale 72 = .ok (.laload, 1) := by decide +kernel
theorem d_Sea_keepSale_73 : decode c_Sea_keepSale 73 = .ok (.lcmp, 1) := by decide +kernel
theorem d_Sea_keepSale_74 : decode c_Sea_keepSale 74 = .ok (.ifCond .le 11, 3) := by decide +kernel
theorem d_Sea_keepSale_77 : decode c_Sea_keepSale 77 = .ok (.aload_n 0, 1) := by decide +kernel
theorem d_Sea_keepSale_78 : decode c_Sea_keepSale 78 = .ok (.getfield 17, 3) := by decide +kernel
theorem d_Sea_keepSale_81 : decode c_Sea_keepSale 81 = .ok (.iload 4, 2) := by decide +kernel
theorem d_Sea_keepSale_83 : decode c_Sea_keepSale 83 = .ok (.lload_n 2, 1) := by decide +kernel
theorem d_Sea_keepSale_84 : decode c_Sea_keepSale 84 = .ok (.lastore, 1) := by decide +kernel
theorem d_Sea_keepSale_85 : decode c_Sea_keepSale 85 = .ok (.iinc 4 1, 3) := by decide +kernel
theorem d_Sea_keepSale_88 : decode c_Sea_keepSale 88 = .ok (.goto (-39), 3) := by decide +kernel
theorem d_Sea_keepSale_91 : decode c_Sea_keepSale 91 = .ok (.return_, 1) := by decide +kernel
theorem d_Sea_staysWithinLimit_0 : decode c_Sea_staysWithinLimit 0 = .ok (.aload_n 1, 1) := by decide +kernel
theorem d_Sea_staysWithinLimit_1 : decode c_Sea_staysWithinLimit 1 = .ok (.invokevirtual 71, 3) := by decide +kernel
theorem d_Sea_staysWithinLimit_4 : decode c_Sea_staysWithinLimit 4 = .ok (.istore_n 3, 1) := by decide +kernel
theorem d_Sea_staysWithinLimit_5 : decode c_Sea_staysWithinLimit 5 = .ok (.iconst 0, 1) := by decide +kernel
theorem d_Sea_staysWithinLimit_6 : decode c_Sea_staysWithinLimit 6 = .ok (.istore 4, 2) := by decide +kernel
theorem d_Sea_staysWithinLimit_8 : decode c_Sea_staysWithinLimit 8 = .ok (.iload 4, 2) := by decide +kernel
theorem d_Sea_staysWithinLimit_10 : decode c_Sea_staysWithinLimit 10 = .ok (.aload_n 0, 1) := by decide +kernel
theorem d_Sea_staysWithinLimit_11 : decode c_Sea_staysWithinLimit 11 = .ok (.getfield 41, 3) := by decide +kernel
theorem d_Sea_staysWithinLimit_14 : decode c_Sea_staysWithinLimit 14 = .ok (.if_icmp .ge 50, 3) := by decide +kernel
theorem d_Sea_staysWithinLimit_17 : decode c_Sea_staysWithinLimit 17 = .ok (.aload_n 0, 1) := by decide +kernel
theorem d_Sea_staysWithinLimit_18 : decode c_Sea_staysWithinLimit 18 = .ok (.getfield 11, 3) := by decide +kernel
theorem d_Sea_staysWithinLimit_21 : decode c_Sea_staysWithinLimit 21 = .ok (.iload 4, 2) := by decide +kernel
theorem d_Sea_staysWithinLimit_23 : decode c_Sea_staysWithinLimit 23 = .ok (.aaload, 1) := by decide +kernel
theorem d_Sea_staysWithinLimit_24 : decode c_Sea_staysWithinLimit 24 = .ok (.astore 5, 2) := by decide +kernel
theorem d_Sea_staysWithinLimit_26 : decode c_Sea_staysWithinLimit 26 = .ok (.aload 5, 2) := by decide +kernel
theorem d_Sea_staysWithinLimit_28 : decode c_Sea_staysWithinLimit 28 = .ok (.getfield 44, 3) := by decide +kernel
theorem d_Sea_staysWithinLimit_31 : decode c_Sea_staysWithinLimit 31 = .ok (.aload_n 1, 1) := by decide +kernel
theorem d_Sea_staysWithinLimit_32 : decode c_Sea_staysWithinLimit 32 = .ok (.getfield 44, 3) := by decide +kernel
theorem d_Sea_staysWithinLimit_35 : decode c_Sea_staysWithinLimit 35 = .ok (.if_acmp .ne 23, 3) := by decide +kernel
theorem d_Sea_staysWithinLimit_38 : decode c_Sea_staysWithinLimit 38 = .ok (.iload_n 2, 1) := by decide +kernel
theorem d_Sea_staysWithinLimit_39 : decode c_Sea_staysWithinLimit 39 = .ok (.aload 5, 2) := by decide +kernel
theorem d_Sea_staysWithinLimit_41 : decode c_Sea_staysWithinLimit 41 = .ok (.getfield 31, 3) := by decide +kernel
theorem d_Sea_staysWithinLimit_44 : decode c_Sea_staysWithinLimit 44 = .ok (.iushr, 1) := by decide +kernel
theorem d_Sea_staysWithinLimit_45 : decode c_Sea_staysWithinLimit 45 = .ok (.iconst 1, 1) := by decide +kernel
theorem d_Sea_staysWithinLimit_46 : decode c_Sea_staysWithinLimit 46 = .ok (.iand, 1) := by decide +kernel
theorem d_Sea_staysWithinLimit_47 : decode c_Sea_staysWithinLimit 47 = .ok (.ifCond .eq 11, 3) := by decide +kernel
theorem d_Sea_staysWithinLimit_50 : decode c_Sea_staysWithinLimit 50 = .ok (.iload_n 3, 1) := by decide +kernel
theorem d_Sea_staysWithinLimit_51 : decode c_Sea_staysWithinLimit 51 = .ok (.aload 5, 2) := by decide +kernel
theorem d_Sea_staysWithinLimit_53 : decode c_Sea_staysWithinLimit 53 = .ok (.invokevirtual 71, 3) := by decide +kernel
theorem d_Sea_staysWithinLimit_56 : decode c_Sea_staysWithinLimit 56 = .ok (.iadd, 1) := by decide +kernel
theorem d_Sea_staysWithinLimit_57 : decode c_Sea_staysWithinLimit 57 = .ok (.istore_n 3, 1) := by decide +kernel
theorem d_Sea_staysWithinLimit_58 : decode c_Sea_staysWithinLimit 58 = .ok (.iinc 4 1, 3) := by decide +kernel
theorem d_Sea_staysWithinLimit_61 : decode c_Sea_staysWithinLimit 61 = .ok (.goto (-53), 3) := by decide +kernel
theorem d_Sea_staysWithinLimit_64 : decode c_Sea_staysWithinLimit 64 = .ok (.iload_n 3, 1) := by decide +kernel
theorem d_Sea_staysWithinLimit_65 : decode c_Sea_staysWithinLimit 65 = .ok (.aload_n 1, 1) := by decide +kernel
theorem d_Sea_staysWithinLimit_66 : decode c_Sea_staysWithinLimit 66 = .ok (.getfield 44, 3) := by decide +kernel
theorem d_Sea_staysWithinLimit_69 : decode c_Sea_staysWithinLimit 69 = .ok (.getfield 75, 3) := by decide +kernel
theorem d_Sea_staysWithinLimit_72 : decode c_Sea_staysWithinLimit 72 = .ok (.if_icmp .gt 7, 3) := by decide +kernel
theorem d_Sea_staysWithinLimit_75 : decode c_Sea_staysWithinLimit 75 = .ok (.iconst 1, 1) := by decide +kernel
theorem d_Sea_staysWithinLimit_76 : decode c_Sea_staysWithinLimit 76 = .ok (.goto 4, 3) := by decide +kernel
theorem d_Sea_staysWithinLimit_79 : decode c_Sea_staysWithinLimit 79 = .ok (.iconst 0, 1) := by decide +kernel
theorem d_Sea_staysWithinLimit_80 : decode c_Sea_staysWithinLimit 80 = .ok (.ireturn, 1) := by decide +kernel
theorem d_Bid_lotTally_0 : decode c_Bid_lotTally 0 = .ok (.aload_n 0, 1) := by decide +kernel
theorem d_Bid_lotTally_1 : decode c_Bid_lotTally 1 = .ok (.getfield 21, 3) := by decide +kernel
theorem d_Bid_lotTally_4 : decode c_Bid_lotTally 4 = .ok (.invokestatic 24, 3) := by decide +kernel
theorem d_Bid_lotTally_7 : decode c_Bid_lotTally 7 = .ok (.ireturn, 1) := by decide +kernel
theorem d_BT_wins_0 : decode c_BT_wins 0 = .ok (.aload_n 0, 1) := by decide +kernel
theorem d_BT_wins_1 : decode c_BT_wins 1 = .ok (.iload_n 1, 1) := by decide +kernel
theorem d_BT_wins_2 : decode c_BT_wins 2 = .ok (.invokevirtual 170, 3) := by decide +kernel
theorem d_BT_wins_5 : decode c_BT_wins 5 = .ok (.ifnull 7, 3) := by decide +kernel
theorem d_BT_wins_8 : decode c_BT_wins 8 = .ok (.iconst 1, 1) := by decide +kernel
theorem d_BT_wins_9 : decode c_BT_wins 9 = .ok (.goto 4, 3) := by decide +kernel
theorem d_BT_wins_12 : decode c_BT_wins 12 = .ok (.iconst 0, 1) := by decide +kernel
theorem d_BT_wins_13 : decode c_BT_wins 13 = .ok (.ireturn, 1) := by decide +kernel
theorem d_BT_winnerAt_0 : decode c_BT_winnerAt 0 = .ok (.aload_n 0, 1) := by decide +kernel
theorem d_BT_winnerAt_1 : decode c_BT_winnerAt 1 = .ok (.iload_n 1, 1) := by decide +kernel
theorem d_BT_winnerAt_2 : decode c_BT_winnerAt 2 = .ok (.invokevirtual 89, 3) := by decide +kernel
theorem d_BT_winnerAt_5 : decode c_BT_winnerAt 5 = .ok (.astore_n 2, 1) := by decide +kernel
theorem d_BT_winnerAt_6 : decode c_BT_winnerAt 6 = .ok (.aload_n 2, 1) := by decide +kernel
theorem d_BT_winnerAt_7 : decode c_BT_winnerAt 7 = .ok (.ifnull 18, 3) := by decide +kernel
theorem d_BT_winnerAt_10 : decode c_BT_winnerAt 10 = .ok (.aload_n 0, 1) := by decide +kernel
theorem d_BT_winnerAt_11 : decode c_BT_winnerAt 11 = .ok (.getfield 43, 3) := by decide +kernel
theorem d_BT_winnerAt_14 : decode c_BT_winnerAt 14 = .ok (.aload_n 2, 1) := by decide +kernel
theorem d_BT_winnerAt_15 : decode c_BT_winnerAt 15 = .ok (.invokevirtual 244, 3) := by decide +kernel
theorem d_BT_winnerAt_18 : decode c_BT_winnerAt 18 = .ok (.ifCond .eq 7, 3) := by decide +kernel
theorem d_BT_winnerAt_21 : decode c_BT_winnerAt 21 = .ok (.aload_n 2, 1) := by decide +kernel
theorem d_BT_winnerAt_22 : decode c_BT_winnerAt 22 = .ok (.goto 4, 3) := by decide +kernel
theorem d_BT_winnerAt_25 : decode c_BT_winnerAt 25 = .ok (.aconst_null, 1) := by decide +kernel
theorem d_BT_winnerAt_26 : decode c_BT_winnerAt 26 = .ok (.areturn, 1) := by decide +kernel
theorem d_Sea_hasWinner_0 : decode c_Sea_hasWinner 0 = .ok (.aload_n 0, 1) := by decide +kernel
theorem d_Sea_hasWinner_1 : decode c_Sea_hasWinner 1 = .ok (.getfield 27, 3) := by decide +kernel
theorem d_Sea_hasWinner_4 : decode c_Sea_hasWinner 4 = .ok (.aload_n 1, 1) := by decide +kernel
theorem d_Sea_hasWinner_5 : decode c_Sea_hasWinner 5 = .ok (.getfield 31, 3) := by decide +kernel
theorem d_Sea_hasWinner_8 : decode c_Sea_hasWinner 8 = .ok (.iushr, 1) := by decide +kernel
theorem d_Sea_hasWinner_9 : decode c_Sea_hasWinner 9 = .ok (.iconst 1, 1) := by decide +kernel
theorem d_Sea_hasWinner_10 : decode c_Sea_hasWinner 10 = .ok (.iand, 1) := by decide +kernel
theorem d_Sea_hasWinner_11 : decode c_Sea_hasWinner 11 = .ok (.ifCond .eq 7, 3) := by decide +kernel
theorem d_Sea_hasWinner_14 : decode c_Sea_hasWinner 14 = .ok (.iconst 1, 1) := by decide +kernel
theorem d_Sea_hasWinner_15 : decode c_Sea_hasWinner 15 = .ok (.goto 4, 3) := by decide +kernel
theorem d_Sea_hasWinner_18 : decode c_Sea_hasWinner 18 = .ok (.iconst 0, 1) := by decide +kernel
theorem d_Sea_hasWinner_19 : decode c_Sea_hasWinner 19 = .ok (.ireturn, 1) := by decide +kernel
theorem d_BT_sum_0 : decode c_BT_sum 0 = .ok (.aload_n 0, 1) := by decide +kernel
theorem d_BT_sum_1 : decode c_BT_sum 1 = .ok (.getfield 43, 3) := by decide +kernel
theorem d_BT_sum_4 : decode c_BT_sum 4 = .ok (.getfield 173, 3) := by decide +kernel
theorem d_BT_sum_7 : decode c_BT_sum 7 = .ok (.lreturn, 1) := by decide +kernel
theorem d_BT_bound_0 : decode c_BT_bound 0 = .ok (.lconst 0, 1) := by decide +kernel
theorem d_BT_bound_1 : decode c_BT_bound 1 = .ok (.lstore_n 1, 1) := by decide +kernel
theorem d_BT_bound_2 : decode c_BT_bound 2 = .ok (.iconst 0, 1) := by decide +kernel
theorem d_BT_bound_3 : decode c_BT_bound 3 = .ok (.istore_n 3, 1) := by decide +kernel
theorem d_BT_bound_4 : decode c_BT_bound 4 = .ok (.iload_n 3, 1) := by decide +kernel
theorem d_BT_bound_5 : decode c_BT_bound 5 = .ok (.bipush 8, 2) := by decide +kernel
theorem d_BT_bound_7 : decode c_BT_bound 7 = .ok (.if_icmp .ge 17, 3) := by decide +kernel
theorem d_BT_bound_10 : decode c_BT_bound 10 = .ok (.lload_n 1, 1) := by decide +kernel
theorem d_BT_bound_11 : decode c_BT_bound 11 = .ok (.aload_n 0, 1) := by decide +kernel
theorem d_BT_bound_12 : decode c_BT_bound 12 = .ok (.iload_n 3, 1) := by decide +kernel
theorem d_BT_bound_13 : decode c_BT_bound 13 = .ok (.invokevirtual 176, 3) := by decide +kernel
theorem d_BT_bound_16 : decode c_BT_bound 16 = .ok (.ladd, 1) := by decide +kernel
theorem d_BT_bound_17 : decode c_BT_bound 17 = .ok (.lstore_n 1, 1) := by decide +kernel
theorem d_BT_bound_18 : decode c_BT_bound 18 = .ok (.iinc 3 1, 3) := by decide +kernel
theorem d_BT_bound_21 : decode c_BT_bound 21 = .ok (.goto (-17), 3) := by decide +kernel
theorem d_BT_bound_24 : decode c_BT_bound 24 = .ok (.lload_n 1, 1) := by decide +kernel
theorem d_BT_bound_25 : decode c_BT_bound 25 = .ok (.lreturn, 1) := by decide +kernel
theorem d_BT_greatestCentsOn_0 : decode c_BT_greatestCentsOn 0 = .ok (.lconst 0, 1) := by decide +kernel
theorem d_BT_greatestCentsOn_1 : decode c_BT_greatestCentsOn 1 = .ok (.lstore_n 2, 1) := by decide +kernel
theorem d_BT_greatestCentsOn_2 : decode c_BT_greatestCentsOn 2 = .ok (.aload_n 0, 1) := by decide +kernel
theorem d_BT_greatestCentsOn_3 : decode c_BT_greatestCentsOn 3 = .ok (.getfield 23, 3) := by decide +kernel
theorem d_BT_greatestCentsOn_6 : decode c_BT_greatestCentsOn 6 = .ok (.astore 4, 2) := by decide +kernel
theorem d_BT_greatestCentsOn_8 : decode c_BT_greatestCentsOn 8 = .ok (.aload 4, 2) := by decide +kernel
theorem d_BT_greatestCentsOn_10 : decode c_BT_greatestCentsOn 10 = .ok (.arraylength, 1) := by decide +kernel
theorem d_BT_greatestCentsOn_11 : decode c_BT_greatestCentsOn 11 = .ok (.istore 5, 2) := by decide +kernel
theorem d_BT_greatestCentsOn_13 : decode c_BT_greatestCentsOn 13 = .ok (.iconst 0, 1) := by decide +kernel
theorem d_BT_greatestCentsOn_14 : decode c_BT_greatestCentsOn 14 = .ok (.istore 6, 2) := by decide +kernel
theorem d_BT_greatestCentsOn_16 : decode c_BT_greatestCentsOn 16 = .ok (.iload 6, 2) := by decide +kernel
theorem d_BT_greatestCentsOn_18 : decode c_BT_greatestCentsOn 18 = .ok (.iload 5, 2) := by decide +kernel
theorem d_BT_greatestCentsOn_20 : decode c_BT_greatestCentsOn 20 = .ok (.if_icmp .ge 43, 3) := by decide +kernel
theorem d_BT_greatestCentsOn_23 : decode c_BT_greatestCentsOn 23 = .ok (.aload 4, 2) := by decide +kernel
theorem d_BT_greatestCentsOn_25 : decode c_BT_greatestCentsOn 25 = .ok (.iload 6, 2) := by decide +kernel
theorem d_BT_greatestCentsOn_27 : decode c_BT_greatestCentsOn 27 = .ok (.aaload, 1) := by decide +kernel
theorem d_BT_greatestCentsOn_28 : decode c_BT_greatestCentsOn 28 = .ok (.astore 7, 2) := by decide +kernel
theorem d_BT_greatestCentsOn_30 : decode c_BT_greatestCentsOn 30 = .ok (.aload 7, 2) := by decide +kernel
theorem d_BT_greatestCentsOn_32 : decode c_BT_greatestCentsOn 32 = .ok (.invokestatic 151, 3) := by decide +kernel
theorem d_BT_greatestCentsOn_35 : decode c_BT_greatestCentsOn 35 = .ok (.ifCond .eq 22, 3) := by decide +kernel
theorem d_BT_greatestCentsOn_38 : decode c_BT_greatestCentsOn 38 = .ok (.aload 7, 2) := by decide +kernel
theorem d_BT_greatestCentsOn_40 : decode c_BT_greatestCentsOn 40 = .ok (.iload_n 1, 1) := by decide +kernel
theorem d_BT_greatestCentsOn_41 : decode c_BT_greatestCentsOn 41 = .ok (.invokevirtual 104, 3) := by decide +kernel
theorem d_BT_greatestCentsOn_44 : decode c_BT_greatestCentsOn 44 = .ok (.ifCond .eq 13, 3) := by decide +kernel
theorem d_BT_greatestCentsOn_47 : decode c_BT_greatestCentsOn 47 = .ok (.lload_n 2, 1) := by decide +kernel
theorem d_BT_greatestCentsOn_48 : decode c_BT_greatestCentsOn 48 = .ok (.aload 7, 2) := by decide +kernel
theorem d_BT_greatestCentsOn_50 : decode c_BT_greatestCentsOn 50 = .ok (.getfield 182, 3) := by decide +kernel
theorem d_BT_greatestCentsOn_53 : decode c_BT_greatestCentsOn 53 = .ok (.invokestatic 210, 3) := by decide +kernel
theorem d_BT_greatestCentsOn_56 : decode c_BT_greatestCentsOn 56 = .ok (.lstore_n 2, 1) := by decide +kernel
theorem d_BT_greatestCentsOn_57 : decode c_BT_greatestCentsOn 57 = .ok (.iinc 6 1, 3) := by decide +kernel
theorem d_BT_greatestCentsOn_60 : decode c_BT_greatestCentsOn 60 = .ok (.goto (-44), 3) := by decide +kernel
theorem d_BT_greatestCentsOn_63 : decode c_BT_greatestCentsOn 63 = .ok (.lload_n 2, 1) := by decide +kernel
theorem d_BT_greatestCentsOn_64 : decode c_BT_greatestCentsOn 64 = .ok (.lreturn, 1) := by decide +kernel
theorem d_BT_proved_0 : decode c_BT_proved 0 = .ok (.aload_n 0, 1) := by decide +kernel
theorem d_BT_proved_1 : decode c_BT_proved 1 = .ok (.getfield 43, 3) := by decide +kernel
theorem d_BT_proved_4 : decode c_BT_proved 4 = .ok (.getfield 173, 3) := by decide +kernel
theorem d_BT_proved_7 : decode c_BT_proved 7 = .ok (.ldc2_w 180, 3) := by decide +kernel
theorem d_BT_proved_10 : decode c_BT_proved 10 = .ok (.lcmp, 1) := by decide +kernel
theorem d_BT_proved_11 : decode c_BT_proved 11 = .ok (.ifCond .eq 14, 3) := by decide +kernel
theorem d_BT_proved_14 : decode c_BT_proved 14 = .ok (.aload_n 0, 1) := by decide +kernel
theorem d_BT_proved_15 : decode c_BT_proved 15 = .ok (.getfield 58, 3) := by decide +kernel
theorem d_BT_proved_18 : decode c_BT_proved 18 = .ok (.ifCond .ne 7, 3) := by decide +kernel
theorem d_BT_proved_21 : decode c_BT_proved 21 = .ok (.iconst 1, 1) := by decide +kernel
theorem d_BT_proved_22 : decode c_BT_proved 22 = .ok (.goto 4, 3) := by decide +kernel
theorem d_BT_proved_25 : decode c_BT_proved 25 = .ok (.iconst 0, 1) := by decide +kernel
theorem d_BT_proved_26 : decode c_BT_proved 26 = .ok (.ireturn, 1) := by decide +kernel
theorem d_BT_second_0 : decode c_BT_second 0 = .ok (.aload_n 0, 1) := by decide +kernel
theorem d_BT_second_1 : decode c_BT_second 1 = .ok (.iload_n 1, 1) := by decide +kernel
theorem d_BT_second_2 : decode c_BT_second 2 = .ok (.invokevirtual 170, 3) := by decide +kernel
theorem d_BT_second_5 : decode c_BT_second 5 = .ok (.astore_n 2, 1) := by decide +kernel
theorem d_BT_second_6 : decode c_BT_second 6 = .ok (.aload_n 2, 1) := by decide +kernel
theorem d_BT_second_7 : decode c_BT_second 7 = .ok (.ifnonnull 7, 3) := by decide +kernel
theorem d_BT_second_10 : decode c_BT_second 10 = .ok (.ldc2_w 180, 3) := by decide +kernel
theorem d_BT_second_13 : decode c_BT_second 13 = .ok (.lreturn, 1) := by decide +kernel
theorem d_BT_second_14 : decode c_BT_second 14 = .ok (.aload_n 2, 1) := by decide +kernel
theorem d_BT_second_15 : decode c_BT_second 15 = .ok (.getfield 182, 3) := by decide +kernel
theorem d_BT_second_18 : decode c_BT_second 18 = .ok (.aload_n 0, 1) := by decide +kernel
theorem d_BT_second_19 : decode c_BT_second 19 = .ok (.getfield 43, 3) := by decide +kernel
theorem d_BT_second_22 : decode c_BT_second 22 = .ok (.getfield 173, 3) := by decide +kernel
theorem d_BT_second_25 : decode c_BT_second 25 = .ok (.lsub, 1) := by decide +kernel
theorem d_BT_second_26 : decode c_BT_second 26 = .ok (.aload_n 0, 1) := by decide +kernel
theorem d_BT_second_27 : decode c_BT_second 27 = .ok (.getfield 43, 3) := by decide +kernel
theorem d_BT_second_30 : decode c_BT_second 30 = .ok (.getfield 185, 3) := by decide +kernel
theorem d_BT_second_33 : decode c_BT_second 33 = .ok (.aload_n 2, 1) := by decide +kernel
theorem d_BT_second_34 : decode c_BT_second 34 = .ok (.getfield 188, 3) := by decide +kernel
theorem d_BT_second_37 : decode c_BT_second 37 = .ok (.laload, 1) := by decide +kernel
theorem d_BT_second_38 : decode c_BT_second 38 = .ok (.ladd, 1) := by decide +kernel
theorem d_BT_second_39 : decode c_BT_second 39 = .ok (.lreturn, 1) := by decide +kernel
theorem d_BT_tie_0 : decode c_BT_tie 0 = .ok (.iload_n 1, 1) := by decide +kernel
theorem d_BT_tie_1 : decode c_BT_tie 1 = .ok (.ifCond .lt 13, 3) := by decide +kernel
theorem d_BT_tie_4 : decode c_BT_tie 4 = .ok (.iload_n 2, 1) := by decide +kernel
theorem d_BT_tie_5 : decode c_BT_tie 5 = .ok (.i2l, 1) := by decide +kernel
theorem d_BT_tie_6 : decode c_BT_tie 6 = .ok (.lconst 0, 1) := by decide +kernel
theorem d_BT_tie_7 : decode c_BT_tie 7 = .ok (.lconst 1, 1) := by decide +kernel
theorem d_BT_tie_8 : decode c_BT_tie 8 = .ok (.invokestatic 53, 3) := by decide +kernel
theorem d_BT_tie_11 : decode c_BT_tie 11 = .ok (.ifCond .ne 5, 3) := by decide +kernel
theorem d_BT_tie_14 : decode c_BT_tie 14 = .ok (.iconst (-1), 1) := by decide +kernel
theorem d_BT_tie_15 : decode c_BT_tie 15 = .ok (.ireturn, 1) := by decide +kernel
theorem d_BT_tie_16 : decode c_BT_tie 16 = .ok (.iload_n 1, 1) := by decide +kernel
theorem d_BT_tie_17 : decode c_BT_tie 17 = .ok (.istore_n 3, 1) := by decide +kernel
theorem d_BT_tie_18 : decode c_BT_tie 18 = .ok (.aload_n 0, 1) := by decide +kernel
theorem d_BT_tie_19 : decode c_BT_tie 19 = .ok (.getfield 23, 3) := by decide +kernel
theorem d_BT_tie_22 : decode c_BT_tie 22 = .ok (.astore 4, 2) := by decide +kernel
theorem d_BT_tie_24 : decode c_BT_tie 24 = .ok (.aload 4, 2) := by decide +kernel
theorem d_BT_tie_26 : decode c_BT_tie 26 = .ok (.arraylength, 1) := by decide +kernel
theorem d_BT_tie_27 : decode c_BT_tie 27 = .ok (.istore 5, 2) := by decide +kernel
theorem d_BT_tie_29 : decode c_BT_tie 29 = .ok (.iconst 0, 1) := by decide +kernel
theorem d_BT_tie_30 : decode c_BT_tie 30 = .ok (.istore 6, 2) := by decide +kernel
theorem d_BT_tie_32 : decode c_BT_tie 32 = .ok (.iload 6, 2) := by decide +kernel
theorem d_BT_tie_34 : decode c_BT_tie 34 = .ok (.iload 5, 2) := by decide +kernel
theorem d_BT_tie_36 : decode c_BT_tie 36 = .ok (.if_icmp .ge 61, 3) := by decide +kernel
theorem d_BT_tie_39 : decode c_BT_tie 39 = .ok (.aload 4, 2) := by decide +kernel
theorem d_BT_tie_41 : decode c_BT_tie 41 = .ok (.iload 6, 2) := by decide +kernel
theorem d_BT_tie_43 : decode c_BT_tie 43 = .ok (.aaload, 1) := by decide +kernel
theorem d_BT_tie_44 : decode c_BT_tie 44 = .ok (.astore 7, 2) := by decide +kernel
theorem d_BT_tie_46 : decode c_BT_tie 46 = .ok (.aload 7, 2) := by decide +kernel
theorem d_BT_tie_48 : decode c_BT_tie 48 = .ok (.ifnull 43, 3) := by decide +kernel
theorem d_BT_tie_51 : decode c_BT_tie 51 = .ok (.aload_n 0, 1) := by decide +kernel
theorem d_BT_tie_52 : decode c_BT_tie 52 = .ok (.getfield 43, 3) := by decide +kernel
theorem d_BT_tie_55 : decode c_BT_tie 55 = .ok (.aload 7, 2) := by decide +kernel
theorem d_BT_tie_57 : decode c_BT_tie 57 = .ok (.invokevirtual 191, 3) := by decide +kernel
theorem d_BT_tie_60 : decode c_BT_tie 60 = .ok (.ifCond .eq 31, 3) := by decide +kernel
theorem d_BT_tie_63 : decode c_BT_tie 63 = .ok (.iload_n 3, 1) := by decide +kernel
theorem d_BT_tie_64 : decode c_BT_tie 64 = .ok (.ifCond .ne 24, 3) := by decide +kernel
theorem d_BT_tie_67 : decode c_BT_tie 67 = .ok (.iload_n 2, 1) := by decide +kernel
theorem d_BT_tie_68 : decode c_BT_tie 68 = .ok (.ifCond .ne 11, 3) := by decide +kernel
theorem d_BT_tie_71 : decode c_BT_tie 71 = .ok (.aload 7, 2) := by decide +kernel
theorem d_BT_tie_73 : decode c_BT_tie 73 = .ok (.getfield 188, 3) := by decide +kernel
theorem d_BT_tie_76 : decode c_BT_tie 76 = .ok (.goto 11, 3) := by decide +kernel
theorem d_BT_tie_79 : decode c_BT_tie 79 = .ok (.aload 7, 2) := by decide +kernel
theorem d_BT_tie_81 : decode c_BT_tie 81 = .ok (.getfield 97, 3) := by decide +kernel
theorem d_BT_tie_84 : decode c_BT_tie 84 = .ok (.getfield 194, 3) := by decide +kernel
theorem d_BT_tie_87 : decode c_BT_tie 87 = .ok (.ireturn, 1) := by decide +kernel
theorem d_BT_tie_88 : decode c_BT_tie 88 = .ok (.iinc 3 (-1), 3) := by decide +kernel
theorem d_BT_tie_91 : decode c_BT_tie 91 = .ok (.iinc 6 1, 3) := by decide +kernel
theorem d_BT_tie_94 : decode c_BT_tie 94 = .ok (.goto (-62), 3) := by decide +kernel
theorem d_BT_tie_97 : decode c_BT_tie 97 = .ok (.iconst (-1), 1) := by decide +kernel
theorem d_BT_tie_98 : decode c_BT_tie 98 = .ok (.ireturn, 1) := by decide +kernel
theorem d_Sea_ties_0 : decode c_Sea_ties 0 = .ok (.aload_n 0, 1) := by decide +kernel
theorem d_Sea_ties_1 : decode c_Sea_ties 1 = .ok (.getfield 34, 3) := by decide +kernel
theorem d_Sea_ties_4 : decode c_Sea_ties 4 = .ok (.aload_n 1, 1) := by decide +kernel
theorem d_Sea_ties_5 : decode c_Sea_ties 5 = .ok (.getfield 31, 3) := by decide +kernel
theorem d_Sea_ties_8 : decode c_Sea_ties 8 = .ok (.iushr, 1) := by decide +kernel
theorem d_Sea_ties_9 : decode c_Sea_ties 9 = .ok (.iconst 1, 1) := by decide +kernel
theorem d_Sea_ties_10 : decode c_Sea_ties 10 = .ok (.iand, 1) := by decide +kernel
theorem d_Sea_ties_11 : decode c_Sea_ties 11 = .ok (.ifCond .eq 15, 3) := by decide +kernel
theorem d_Sea_ties_14 : decode c_Sea_ties 14 = .ok (.aload_n 0, 1) := by decide +kernel
theorem d_Sea_ties_15 : decode c_Sea_ties 15 = .ok (.aload_n 1, 1) := by decide +kernel
theorem d_Sea_ties_16 : decode c_Sea_ties 16 = .ok (.invokevirtual 37, 3) := by decide +kernel
theorem d_Sea_ties_19 : decode c_Sea_ties 19 = .ok (.ifCond .ne 7, 3) := by decide +kernel
theorem d_Sea_ties_22 : decode c_Sea_ties 22 = .ok (.iconst 1, 1) := by decide +kernel
theorem d_Sea_ties_23 : decode c_Sea_ties 23 = .ok (.goto 4, 3) := by decide +kernel
theorem d_Sea_ties_26 : decode c_Sea_ties 26 = .ok (.iconst 0, 1) := by decide +kernel
theorem d_Sea_ties_27 : decode c_Sea_ties 27 = .ok (.ireturn, 1) := by decide +kernel
theorem d_BT_step_0 : decode c_BT_step 0 = .ok (.aload_n 0, 1) := by decide +kernel
theorem d_BT_step_1 : decode c_BT_step 1 = .ok (.iload_n 1, 1) := by decide +kernel
theorem d_BT_step_2 : decode c_BT_step 2 = .ok (.invokevirtual 93, 3) := by decide +kernel
theorem d_BT_step_5 : decode c_BT_step 5 = .ok (.astore 8, 2) := by decide +kernel
theorem d_BT_step_7 : decode c_BT_step 7 = .ok (.aload 8, 2) := by decide +kernel
theorem d_BT_step_9 : decode c_BT_step 9 = .ok (.ifnull 39, 3) := by decide +kernel
theorem d_BT_step_12 : decode c_BT_step 12 = .ok (.lload_n 2, 1) := by decide +kernel
theorem d_BT_step_13 : decode c_BT_step 13 = .ok (.lload 4, 2) := by decide +kernel
theorem d_BT_step_15 : decode c_BT_step 15 = .ok (.invokestatic 195, 3) := by decide +kernel
theorem d_BT_step_18 : decode c_BT_step 18 = .ok (.ifCond .eq 30, 3) := by decide +kernel
theorem d_BT_step_21 : decode c_BT_step 21 = .ok (.lload 6, 2) := by decide +kernel
theorem d_BT_step_23 : decode c_BT_step 23 = .ok (.ldc2_w 199, 3) := by decide +kernel
theorem d_BT_step_26 : decode c_BT_step 26 = .ok (.ldc2_w 201, 3) := by decide +kernel
theorem d_BT_step_29 : decode c_BT_step 29 = .ok (.invokestatic 53, 3) := by decide +kernel
theorem d_BT_step_32 : decode c_BT_step 32 = .ok (.ifCond .eq 16, 3) := by decide +kernel
theorem d_BT_step_35 : decode c_BT_step 35 = .ok (.aload 8, 2) := by decide +kernel
theorem d_BT_step_37 : decode c_BT_step 37 = .ok (.lload_n 2, 1) := by decide +kernel
theorem d_BT_step_38 : decode c_BT_step 38 = .ok (.lload 4, 2) := by decide +kernel
theorem d_BT_step_40 : decode c_BT_step 40 = .ok (.lload 6, 2) := by decide +kernel
theorem d_BT_step_42 : decode c_BT_step 42 = .ok (.invokevirtual 203, 3) := by decide +kernel
theorem d_BT_step_45 : decode c_BT_step 45 = .ok (.ifCond .ne 5, 3) := by decide +kernel
theorem d_BT_step_48 : decode c_BT_step 48 = .ok (.iconst 0, 1) := by decide +kernel
theorem d_BT_step_49 : decode c_BT_step 49 = .ok (.ireturn, 1) := by decide +kernel
theorem d_BT_step_50 : decode c_BT_step 50 = .ok (.aload_n 0, 1) := by decide +kernel
theorem d_BT_step_51 : decode c_BT_step 51 = .ok (.iconst 1, 1) := by decide +kernel
theorem d_BT_step_52 : decode c_BT_step 52 = .ok (.putfield 58, 3) := by decide +kernel
theorem d_BT_step_55 : decode c_BT_step 55 = .ok (.iconst 1, 1) := by decide +kernel
theorem d_BT_step_56 : decode c_BT_step 56 = .ok (.ireturn, 1) := by decide +kernel
theorem d_BT_isShare_0 : decode c_BT_isShare 0 = .ok (.lload_n 2, 1) := by decide +kernel
theorem d_BT_isShare_1 : decode c_BT_isShare 1 = .ok (.lconst 1, 1) := by decide +kernel
theorem d_BT_isShare_2 : decode c_BT_isShare 2 = .ok (.ldc2_w 221, 3) := by decide +kernel
theorem d_BT_isShare_5 : decode c_BT_isShare 5 = .ok (.invokestatic 53, 3) := by decide +kernel
theorem d_BT_isShare_8 : decode c_BT_isShare 8 = .ok (.ifCond .eq 16, 3) := by decide +kernel
theorem d_BT_isShare_11 : decode c_BT_isShare 11 = .ok (.lload_n 0, 1) := by decide +kernel
theorem d_BT_isShare_12 : decode c_BT_isShare 12 = .ok (.lconst 0, 1) := by decide +kernel
theorem d_BT_isShare_13 : decode c_BT_isShare 13 = .ok (.lload_n 2, 1) := by decide +kernel
theorem d_BT_isShare_14 : decode c_BT_isShare 14 = .ok (.invokestatic 53, 3) := by decide +kernel
theorem d_BT_isShare_17 : decode c_BT_isShare 17 = .ok (.ifCond .eq 7, 3) := by decide +kernel
theorem d_BT_isShare_20 : decode c_BT_isShare 20 = .ok (.iconst 1, 1) := by decide +kernel
theorem d_BT_isShare_21 : decode c_BT_isShare 21 = .ok (.goto 4, 3) := by decide +kernel
theorem d_BT_isShare_24 : decode c_BT_isShare 24 = .ok (.iconst 0, 1) := by decide +kernel
theorem d_BT_isShare_25 : decode c_BT_isShare 25 = .ok (.ireturn, 1) := by decide +kernel
theorem d_Lot_addStep_0 : decode c_Lot_addStep 0 = .ok (.aload_n 0, 1) := by decide +kernel
theorem d_Lot_addStep_1 : decode c_Lot_addStep 1 = .ok (.getfield 21, 3) := by decide +kernel
theorem d_Lot_addStep_4 : decode c_Lot_addStep 4 = .ok (.bipush 6, 2) := by decide +kernel
theorem d_Lot_addStep_6 : decode c_Lot_addStep 6 = .ok (.if_icmp .ge 25, 3) := by decide +kernel
theorem d_Lot_addStep_9 : decode c_Lot_addStep 9 = .ok (.aload_n 0, 1) := by decide +kernel
theorem d_Lot_addStep_10 : decode c_Lot_addStep 10 = .ok (.getfield 21, 3) := by decide +kernel
theorem d_Lot_addStep_13 : decode c_Lot_addStep 13 = .ok (.ifCond .le 20, 3) := by decide +kernel
theorem d_Lot_addStep_16 : decode c_Lot_addStep 16 = .ok (.aload_n 0, 1) := by decide +kernel
theorem d_Lot_addStep_17 : decode c_Lot_addStep 17 = .ok (.aload_n 0, 1) := by decide +kernel
theorem d_Lot_addStep_18 : decode c_Lot_addStep 18 = .ok (.getfield 21, 3) := by decide +kernel
theorem d_Lot_addStep_21 : decode c_Lot_addStep 21 = .ok (.iconst 1, 1) := by decide +kernel
theorem d_Lot_addStep_22 : decode c_Lot_addStep 22 = .ok (.isub, 1) := by decide +kernel
theorem d_Lot_addStep_23 : decode c_Lot_addStep 23 = .ok (.lload_n 1, 1) := by decide +kernel
theorem d_Lot_addStep_24 : decode c_Lot_addStep 24 = .ok (.lload_n 3, 1) := by decide +kernel
theorem d_Lot_addStep_25 : decode c_Lot_addStep 25 = .ok (.invokevirtual 25, 3) := by decide +kernel
theorem d_Lot_addStep_28 : decode c_Lot_addStep 28 = .ok (.ifCond .lt 5, 3) := by decide +kernel
theorem d_Lot_addStep_31 : decode c_Lot_addStep 31 = .ok (.iconst 0, 1) := by decide +kernel
theorem d_Lot_addStep_32 : decode c_Lot_addStep 32 = .ok (.ireturn, 1) := by decide +kernel
theorem d_Lot_addStep_33 : decode c_Lot_addStep 33 = .ok (.aload_n 0, 1) := by decide +kernel
theorem d_Lot_addStep_34 : decode c_Lot_addStep 34 = .ok (.getfield 9, 3) := by decide +kernel
theorem d_Lot_addStep_37 : decode c_Lot_addStep 37 = .ok (.aload_n 0, 1) := by decide +kernel
theorem d_Lot_addStep_38 : decode c_Lot_addStep 38 = .ok (.getfield 21, 3) := by decide +kernel
theorem d_Lot_addStep_41 : decode c_Lot_addStep 41 = .ok (.lload_n 1, 1) := by decide +kernel
theorem d_Lot_addStep_42 : decode c_Lot_addStep 42 = .ok (.lastore, 1) := by decide +kernel
theorem d_Lot_addStep_43 : decode c_Lot_addStep 43 = .ok (.aload_n 0, 1) := by decide +kernel
theorem d_Lot_addStep_44 : decode c_Lot_addStep 44 = .ok (.getfield 15, 3) := by decide +kernel
theorem d_Lot_addStep_47 : decode c_Lot_addStep 47 = .ok (.aload_n 0, 1) := by decide +kernel
theorem d_Lot_addStep_48 : decode c_Lot_addStep 48 = .ok (.getfield 21, 3) := by decide +kernel
theorem d_Lot_addStep_51 : decode c_Lot_addStep 51 = .ok (.lload_n 3, 1) := by decide +kernel
theorem d_Lot_addStep_52 : decode c_Lot_addStep 52 = .ok (.lastore, 1) := by decide +kernel
theorem d_Lot_addStep_53 : decode c_Lot_addStep 53 = .ok (.aload_n 0, 1) := by decide +kernel
theorem d_Lot_addStep_54 : decode c_Lot_addStep 54 = .ok (.getfield 18, 3) := by decide +kernel
theorem d_Lot_addStep_57 : decode c_Lot_addStep 57 = .ok (.aload_n 0, 1) := by decide +kernel
theorem d_Lot_addStep_58 : decode c_Lot_addStep 58 = .ok (.getfield 21, 3) := by decide +kernel
theorem d_Lot_addStep_61 : decode c_Lot_addStep 61 = .ok (.lload 5, 2) := by decide +kernel
theorem d_Lot_addStep_63 : decode c_Lot_addStep 63 = .ok (.lastore, 1) := by decide +kernel
theorem d_Lot_addStep_64 : decode c_Lot_addStep 64 = .ok (.aload_n 0, 1) := by decide +kernel
theorem d_Lot_addStep_65 : decode c_Lot_addStep 65 = .ok (.dup, 1) := by decide +kernel
theorem d_Lot_addStep_66 : decode c_Lot_addStep 66 = .ok (.getfield 21, 3) := by decide +kernel
theorem d_Lot_addStep_69 : decode c_Lot_addStep 69 = .ok (.iconst 1, 1) := by decide +kernel
theorem d_Lot_addStep_70 : decode c_Lot_addStep 70 = .ok (.iadd, 1) := by decide +kernel
theorem d_Lot_addStep_71 : decode c_Lot_addStep 71 = .ok (.putfield 21, 3) := by decide +kernel
theorem d_Lot_addStep_74 : decode c_Lot_addStep 74 = .ok (.iconst 1, 1) := by decide +kernel
theorem d_Lot_addStep_75 : decode c_Lot_addStep 75 = .ok (.ireturn, 1) := by decide +kernel
theorem d_Lot_comparedTo_0 : decode c_Lot_comparedTo 0 = .ok (.aload_n 0, 1) := by decide +kernel
theorem d_Lot_comparedTo_1 : decode c_Lot_comparedTo 1 = .ok (.getfield 9, 3) := by decide +kernel
theorem d_Lot_comparedTo_4 : decode c_Lot_comparedTo 4 = .ok (.iload_n 1, 1) := by decide +kernel
theorem d_Lot_comparedTo_5 : decode c_Lot_comparedTo 5 = .ok (.laload, 1) := by decide +kernel
theorem d_Lot_comparedTo_6 : decode c_Lot_comparedTo 6 = .ok (.lload 4, 2) := by decide +kernel
theorem d_Lot_comparedTo_8 : decode c_Lot_comparedTo 8 = .ok (.lmul, 1) := by decide +kernel
theorem d_Lot_comparedTo_9 : decode c_Lot_comparedTo 9 = .ok (.lload_n 2, 1) := by decide +kernel
theorem d_Lot_comparedTo_10 : decode c_Lot_comparedTo 10 = .ok (.aload_n 0, 1) := by decide +kernel
theorem d_Lot_comparedTo_11 : decode c_Lot_comparedTo 11 = .ok (.getfield 15, 3) := by decide +kernel
theorem d_Lot_comparedTo_14 : decode c_Lot_comparedTo 14 = .ok (.iload_n 1, 1) := by decide +kernel
theorem d_Lot_comparedTo_15 : decode c_Lot_comparedTo 15 = .ok (.laload, 1) := by decide +kernel
theorem d_Lot_comparedTo_16 : decode c_Lot_comparedTo 16 = .ok (.lmul, 1) := by decide +kernel
theorem d_Lot_comparedTo_17 : decode c_Lot_comparedTo 17 = .ok (.invokestatic 29, 3) := by decide +kernel
theorem d_Lot_comparedTo_20 : decode c_Lot_comparedTo 20 = .ok (.ireturn, 1) := by decide +kernel
theorem d_Jlo_compare_0 : decode c_Jlo_compare 0 = .ok (.lload_n 0, 1) := by decide +kernel
theorem d_Jlo_compare_1 : decode c_Jlo_compare 1 = .ok (.lload_n 2, 1) := by decide +kernel
theorem d_Jlo_compare_2 : decode c_Jlo_compare 2 = .ok (.lcmp, 1) := by decide +kernel
theorem d_Jlo_compare_3 : decode c_Jlo_compare 3 = .ok (.ifCond .ge 7, 3) := by decide +kernel
theorem d_Jlo_compare_6 : decode c_Jlo_compare 6 = .ok (.iconst (-1), 1) := by decide +kernel
theorem d_Jlo_compare_7 : decode c_Jlo_compare 7 = .ok (.goto 14, 3) := by decide +kernel
theorem d_Jlo_compare_10 : decode c_Jlo_compare 10 = .ok (.lload_n 0, 1) := by decide +kernel
theorem d_Jlo_compare_11 : decode c_Jlo_compare 11 = .ok (.lload_n 2, 1) := by decide +kernel
theorem d_Jlo_compare_12 : decode c_Jlo_compare 12 = .ok (.lcmp, 1) := by decide +kernel
theorem d_Jlo_compare_13 : decode c_Jlo_compare 13 = .ok (.ifCond .ne 7, 3) := by decide +kernel
theorem d_Jlo_compare_16 : decode c_Jlo_compare 16 = .ok (.iconst 0, 1) := by decide +kernel
theorem d_Jlo_compare_17 : decode c_Jlo_compare 17 = .ok (.goto 4, 3) := by decide +kernel
theorem d_Jlo_compare_20 : decode c_Jlo_compare 20 = .ok (.iconst 1, 1) := by decide +kernel
theorem d_Jlo_compare_21 : decode c_Jlo_compare 21 = .ok (.ireturn, 1) := by decide +kernel
theorem d_BT_price_0 : decode c_BT_price 0 = .ok (.aload_n 0, 1) := by decide +kernel
theorem d_BT_price_1 : decode c_BT_price 1 = .ok (.iload_n 1, 1) := by decide +kernel
theorem d_BT_price_2 : decode c_BT_price 2 = .ok (.invokevirtual 170, 3) := by decide +kernel
theorem d_BT_price_5 : decode c_BT_price 5 = .ok (.astore 6, 2) := by decide +kernel
theorem d_BT_price_7 : decode c_BT_price 7 = .ok (.aload 6, 2) := by decide +kernel
theorem d_BT_price_9 : decode c_BT_price 9 = .ok (.ifnull 12, 3) := by decide +kernel
theorem d_BT_price_12 : decode c_BT_price 12 = .ok (.lload_n 2, 1) := by decide +kernel
theorem d_BT_price_13 : decode c_BT_price 13 = .ok (.lload 4, 2) := by decide +kernel
theorem d_BT_price_15 : decode c_BT_price 15 = .ok (.invokestatic 195, 3) := by decide +kernel
theorem d_BT_price_18 : decode c_BT_price 18 = .ok (.ifCond .ne 7, 3) := by decide +kernel
theorem d_BT_price_21 : decode c_BT_price 21 = .ok (.ldc2_w 180, 3) := by decide +kernel
theorem d_BT_price_24 : decode c_BT_price 24 = .ok (.lreturn, 1) := by decide +kernel
theorem d_BT_price_25 : decode c_BT_price 25 = .ok (.aload 6, 2) := by decide +kernel
theorem d_BT_price_27 : decode c_BT_price 27 = .ok (.getfield 182, 3) := by decide +kernel
theorem d_BT_price_30 : decode c_BT_price 30 = .ok (.lstore 7, 2) := by decide +kernel
theorem d_BT_price_32 : decode c_BT_price 32 = .ok (.iconst 0, 1) := by decide +kernel
theorem d_BT_price_33 : decode c_BT_price 33 = .ok (.istore 9, 2) := by decide +kernel
theorem d_BT_price_35 : decode c_BT_price 35 = .ok (.iload 9, 2) := by decide +kernel
theorem d_BT_price_37 : decode c_BT_price 37 = .ok (.bipush 8, 2) := by decide +kernel
theorem d_BT_price_39 : decode c_BT_price 39 = .ok (.if_icmp .ge 46, 3) := by decide +kernel
theorem d_BT_price_42 : decode c_BT_price 42 = .ok (.aload_n 0, 1) := by decide +kernel
theorem d_BT_price_43 : decode c_BT_price 43 = .ok (.getfield 11, 3) := by decide +kernel
theorem d_BT_price_46 : decode c_BT_price 46 = .ok (.iload 9, 2) := by decide +kernel
theorem d_BT_price_48 : decode c_BT_price 48 = .ok (.aaload, 1) := by decide +kernel
theorem d_BT_price_49 : decode c_BT_price 49 = .ok (.astore 10, 2) := by decide +kernel
theorem d_BT_price_51 : decode c_BT_price 51 = .ok (.aload 10, 2) := by decide +kernel
theorem d_BT_price_53 : decode c_BT_price 53 = .ok (.ifnull 26, 3) := by decide +kernel
theorem d_BT_price_56 : decode c_BT_price 56 = .ok (.aload 6, 2) := by decide +kernel
theorem d_BT_price_58 : decode c_BT_price 58 = .ok (.iload 9, 2) := by decide +kernel
theorem d_BT_price_60 : decode c_BT_price 60 = .ok (.invokevirtual 104, 3) := by decide +kernel
theorem d_BT_price_63 : decode c_BT_price 63 = .ok (.ifCond .eq 16, 3) := by decide +kernel
theorem d_BT_price_66 : decode c_BT_price 66 = .ok (.lload 7, 2) := by decide +kernel
theorem d_BT_price_68 : decode c_BT_price 68 = .ok (.aload 10, 2) := by decide +kernel
theorem d_BT_price_70 : decode c_BT_price 70 = .ok (.lload_n 2, 1) := by decide +kernel
theorem d_BT_price_71 : decode c_BT_price 71 = .ok (.lload 4, 2) := by decide +kernel
theorem d_BT_price_73 : decode c_BT_price 73 = .ok (.invokevirtual 206, 3) := by decide +kernel
theorem d_BT_price_76 : decode c_BT_price 76 = .ok (.ladd, 1) := by decide +kernel
theorem d_BT_price_77 : decode c_BT_price 77 = .ok (.lstore 7, 2) := by decide +kernel
theorem d_BT_price_79 : decode c_BT_price 79 = .ok (.iinc 9 1, 3) := by decide +kernel
theorem d_BT_price_82 : decode c_BT_price 82 = .ok (.goto (-47), 3) := by decide +kernel
theorem d_BT_price_85 : decode c_BT_price 85 = .ok (.lload 7, 2) := by decide +kernel
theorem d_BT_price_87 : decode c_BT_price 87 = .ok (.lconst 0, 1) := by decide +kernel
theorem d_BT_price_88 : decode c_BT_price 88 = .ok (.invokestatic 210, 3) := by decide +kernel
theorem d_BT_price_91 : decode c_BT_price 91 = .ok (.lreturn, 1) := by decide +kernel
theorem d_Lot_centsAt_0 : decode c_Lot_centsAt 0 = .ok (.aload_n 0, 1) := by decide +kernel
theorem d_Lot_centsAt_1 : decode c_Lot_centsAt 1 = .ok (.getfield 21, 3) := by decide +kernel
theorem d_Lot_centsAt_4 : decode c_Lot_centsAt 4 = .ok (.iconst 1, 1) := by decide +kernel
theorem d_Lot_centsAt_5 : decode c_Lot_centsAt 5 = .ok (.isub, 1) := by decide +kernel
theorem d_Lot_centsAt_6 : decode c_Lot_centsAt 6 = .ok (.istore 5, 2) := by decide +kernel
theorem d_Lot_centsAt_8 : decode c_Lot_centsAt 8 = .ok (.iload 5, 2) := by decide +kernel
theorem d_Lot_centsAt_10 : decode c_Lot_centsAt 10 = .ok (.ifCond .lt 28, 3) := by decide +kernel
theorem d_Lot_centsAt_13 : decode c_Lot_centsAt 13 = .ok (.aload_n 0, 1) := by decide +kernel
theorem d_Lot_centsAt_14 : decode c_Lot_centsAt 14 = .ok (.iload 5, 2) := by decide +kernel
theorem d_Lot_centsAt_16 : decode c_Lot_centsAt 16 = .ok (.lload_n 1, 1) := by decide +kernel
theorem d_Lot_centsAt_17 : decode c_Lot_centsAt 17 = .ok (.lload_n 3, 1) := by decide +kernel
theorem d_Lot_centsAt_18 : decode c_Lot_centsAt 18 = .ok (.invokevirtual 25, 3) := by decide +kernel
theorem d_Lot_centsAt_21 : decode c_Lot_centsAt 21 = .ok (.ifCond .gt 11, 3) := by decide +kernel
theorem d_Lot_centsAt_24 : decode c_Lot_centsAt 24 = .ok (.aload_n 0, 1) := by decide +kernel
theorem d_Lot_centsAt_25 : decode c_Lot_centsAt 25 = .ok (.getfield 18, 3) := by decide +kernel
theorem d_Lot_centsAt_28 : decode c_Lot_centsAt 28 = .ok (.iload 5, 2) := by decide +kernel
theorem d_Lot_centsAt_30 : decode c_Lot_centsAt 30 = .ok (.laload, 1) := by decide +kernel
theorem d_Lot_centsAt_31 : decode c_Lot_centsAt 31 = .ok (.lreturn, 1) := by decide +kernel
theorem d_Lot_centsAt_32 : decode c_Lot_centsAt 32 = .ok (.iinc 5 (-1), 3) := by decide +kernel
theorem d_Lot_centsAt_35 : decode c_Lot_centsAt 35 = .ok (.goto (-27), 3) := by decide +kernel
theorem d_Lot_centsAt_38 : decode c_Lot_centsAt 38 = .ok (.lconst 0, 1) := by decide +kernel
theorem d_Lot_centsAt_39 : decode c_Lot_centsAt 39 = .ok (.lreturn, 1) := by decide +kernel
theorem d_BT_index_0 : decode c_BT_index 0 = .ok (.iload_n 1, 1) := by decide +kernel
theorem d_BT_index_1 : decode c_BT_index 1 = .ok (.invokestatic 215, 3) := by decide +kernel
theorem d_BT_index_4 : decode c_BT_index 4 = .ok (.ifCond .eq 34, 3) := by decide +kernel
theorem d_BT_index_7 : decode c_BT_index 7 = .ok (.aload_n 0, 1) := by decide +kernel
theorem d_BT_index_8 : decode c_BT_index 8 = .ok (.iload_n 1, 1) := by decide +kernel
theorem d_BT_index_9 : decode c_BT_index 9 = .ok (.invokevirtual 218, 3) := by decide +kernel
theorem d_BT_index_12 : decode c_BT_index 12 = .ok (.ifCond .ne 26, 3) := by decide +kernel
theorem d_BT_index_15 : decode c_BT_index 15 = .ok (.lload_n 2, 1) := by decide +kernel
theorem d_BT_index_16 : decode c_BT_index 16 = .ok (.lconst 1, 1) := by decide +kernel
theorem d_BT_index_17 : decode c_BT_index 17 = .ok (.ldc2_w 221, 3) := by decide +kernel
theorem d_BT_index_20 : decode c_BT_index 20 = .ok (.invokestatic 53, 3) := by decide +kernel
theorem d_BT_index_23 : decode c_BT_index 23 = .ok (.ifCond .eq 15, 3) := by decide +kernel
theorem d_BT_index_26 : decode c_BT_index 26 = .ok (.lload 4, 2) := by decide +kernel
theorem d_BT_index_28 : decode c_BT_index 28 = .ok (.lconst 1, 1) := by decide +kernel
theorem d_BT_index_29 : decode c_BT_index 29 = .ok (.ldc2_w 221, 3) := by decide +kernel
theorem d_BT_index_32 : decode c_BT_index 32 = .ok (.invokestatic 53, 3) := by decide +kernel
theorem d_BT_index_35 : decode c_BT_index 35 = .ok (.ifCond .ne 5, 3) := by decide +kernel
theorem d_BT_index_38 : decode c_BT_index 38 = .ok (.iconst 0, 1) := by decide +kernel
theorem d_BT_index_39 : decode c_BT_index 39 = .ok (.ireturn, 1) := by decide +kernel
theorem d_BT_index_40 : decode c_BT_index 40 = .ok (.aload_n 0, 1) := by decide +kernel
theorem d_BT_index_41 : decode c_BT_index 41 = .ok (.getfield 33, 3) := by decide +kernel
theorem d_BT_index_44 : decode c_BT_index 44 = .ok (.iload_n 1, 1) := by decide +kernel
theorem d_BT_index_45 : decode c_BT_index 45 = .ok (.lload_n 2, 1) := by decide +kernel
theorem d_BT_index_46 : decode c_BT_index 46 = .ok (.lastore, 1) := by decide +kernel
theorem d_BT_index_47 : decode c_BT_index 47 = .ok (.aload_n 0, 1) := by decide +kernel
theorem d_BT_index_48 : decode c_BT_index 48 = .ok (.getfield 37, 3) := by decide +kernel
theorem d_BT_index_51 : decode c_BT_index 51 = .ok (.iload_n 1, 1) := by decide +kernel
theorem d_BT_index_52 : decode c_BT_index 52 = .ok (.lload 4, 2) := by decide +kernel
theorem d_BT_index_54 : decode c_BT_index 54 = .ok (.lastore, 1) := by decide +kernel
theorem d_BT_index_55 : decode c_BT_index 55 = .ok (.aload_n 0, 1) := by decide +kernel
theorem d_BT_index_56 : decode c_BT_index 56 = .ok (.iconst 1, 1) := by decide +kernel
theorem d_BT_index_57 : decode c_BT_index 57 = .ok (.putfield 58, 3) := by decide +kernel
theorem d_BT_index_60 : decode c_BT_index 60 = .ok (.iconst 1, 1) := by decide +kernel
theorem d_BT_index_61 : decode c_BT_index 61 = .ok (.ireturn, 1) := by decide +kernel
theorem d_BT_isMonth_0 : decode c_BT_isMonth 0 = .ok (.iload_n 0, 1) := by decide +kernel
theorem d_BT_isMonth_1 : decode c_BT_isMonth 1 = .ok (.i2l, 1) := by decide +kernel
theorem d_BT_isMonth_2 : decode c_BT_isMonth 2 = .ok (.lconst 0, 1) := by decide +kernel
theorem d_BT_isMonth_3 : decode c_BT_isMonth 3 = .ok (.ldc2_w 256, 3) := by decide +kernel
theorem d_BT_isMonth_6 : decode c_BT_isMonth 6 = .ok (.invokestatic 53, 3) := by decide +kernel
theorem d_BT_isMonth_9 : decode c_BT_isMonth 9 = .ok (.ireturn, 1) := by decide +kernel
theorem d_BT_hasIndex_0 : decode c_BT_hasIndex 0 = .ok (.aload_n 0, 1) := by decide +kernel
theorem d_BT_hasIndex_1 : decode c_BT_hasIndex 1 = .ok (.getfield 37, 3) := by decide +kernel
theorem d_BT_hasIndex_4 : decode c_BT_hasIndex 4 = .ok (.iload_n 1, 1) := by decide +kernel
theorem d_BT_hasIndex_5 : decode c_BT_hasIndex 5 = .ok (.laload, 1) := by decide +kernel
theorem d_BT_hasIndex_6 : decode c_BT_hasIndex 6 = .ok (.lconst 0, 1) := by decide +kernel
theorem d_BT_hasIndex_7 : decode c_BT_hasIndex 7 = .ok (.lcmp, 1) := by decide +kernel
theorem d_BT_hasIndex_8 : decode c_BT_hasIndex 8 = .ok (.ifCond .le 7, 3) := by decide +kernel
theorem d_BT_hasIndex_11 : decode c_BT_hasIndex 11 = .ok (.iconst 1, 1) := by decide +kernel
theorem d_BT_hasIndex_12 : decode c_BT_hasIndex 12 = .ok (.goto 4, 3) := by decide +kernel
theorem d_BT_hasIndex_15 : decode c_BT_hasIndex 15 = .ok (.iconst 0, 1) := by decide +kernel
theorem d_BT_hasIndex_16 : decode c_BT_hasIndex 16 = .ok (.ireturn, 1) := by decide +kernel
theorem d_BT_monthly_0 : decode c_BT_monthly 0 = .ok (.aload_n 0, 1) := by decide +kernel
theorem d_BT_monthly_1 : decode c_BT_monthly 1 = .ok (.iload_n 1, 1) := by decide +kernel
theorem d_BT_monthly_2 : decode c_BT_monthly 2 = .ok (.invokevirtual 170, 3) := by decide +kernel
theorem d_BT_monthly_5 : decode c_BT_monthly 5 = .ok (.astore_n 3, 1) := by decide +kernel
theorem d_BT_monthly_6 : decode c_BT_monthly 6 = .ok (.aload_n 3, 1) := by decide +kernel
theorem d_BT_monthly_7 : decode c_BT_monthly 7 = .ok (.ifnull 10, 3) := by decide +kernel
theorem d_BT_monthly_10 : decode c_BT_monthly 10 = .ok (.iload_n 2, 1) := by decide +kernel
theorem d_BT_monthly_11 : decode c_BT_monthly 11 = .ok (.invokestatic 215, 3) := by decide +kernel
theorem d_BT_monthly_14 : decode c_BT_monthly 14 = .ok (.ifCond .ne 7, 3) := by decide +kernel
theorem d_BT_monthly_17 : decode c_BT_monthly 17 = .ok (.ldc2_w 180, 3) := by decide +kernel
theorem d_BT_monthly_20 : decode c_BT_monthly 20 = .ok (.lreturn, 1) := by decide +kernel
theorem d_BT_monthly_21 : decode c_BT_monthly 21 = .ok (.aload_n 3, 1) := by decide +kernel
theorem d_BT_monthly_22 : decode c_BT_monthly 22 = .ok (.getfield 182, 3) := by decide +kernel
theorem d_BT_monthly_25 : decode c_BT_monthly 25 = .ok (.lstore 4, 2) := by decide +kernel
theorem d_BT_monthly_27 : decode c_BT_monthly 27 = .ok (.iconst 0, 1) := by decide +kernel
theorem d_BT_monthly_28 : decode c_BT_monthly 28 = .ok (.istore 6, 2) := by decide +kernel
theorem d_BT_monthly_30 : decode c_BT_monthly 30 = .ok (.iload 6, 2) := by decide +kernel
theorem d_BT_monthly_32 : decode c_BT_monthly 32 = .ok (.iload_n 2, 1) := by decide +kernel
theorem d_BT_monthly_33 : decode c_BT_monthly 33 = .ok (.if_icmp .gt 44, 3) := by decide +kernel
theorem d_BT_monthly_36 : decode c_BT_monthly 36 = .ok (.aload_n 0, 1) := by decide +kernel
theorem d_BT_monthly_37 : decode c_BT_monthly 37 = .ok (.iload 6, 2) := by decide +kernel
theorem d_BT_monthly_39 : decode c_BT_monthly 39 = .ok (.invokevirtual 218, 3) := by decide +kernel
theorem d_BT_monthly_42 : decode c_BT_monthly 42 = .ok (.ifCond .eq 29, 3) := by decide +kernel
theorem d_BT_monthly_45 : decode c_BT_monthly 45 = .ok (.lload 4, 2) := by decide +kernel
theorem d_BT_monthly_47 : decode c_BT_monthly 47 = .ok (.aload_n 0, 1) := by decide +kernel
theorem d_BT_monthly_48 : decode c_BT_monthly 48 = .ok (.getfield 33, 3) := by decide +kernel
theorem d_BT_monthly_51 : decode c_BT_monthly 51 = .ok (.iload 6, 2) := by decide +kernel
theorem d_BT_monthly_53 : decode c_BT_monthly 53 = .ok (.laload, 1) := by decide +kernel
theorem d_BT_monthly_54 : decode c_BT_monthly 54 = .ok (.lmul, 1) := by decide +kernel
theorem d_BT_monthly_55 : decode c_BT_monthly 55 = .ok (.aload_n 0, 1) := by decide +kernel
theorem d_BT_monthly_56 : decode c_BT_monthly 56 = .ok (.getfield 37, 3) := by decide +kernel
theorem d_BT_monthly_59 : decode c_BT_monthly 59 = .ok (.iload 6, 2) := by decide +kernel
theorem d_BT_monthly_61 : decode c_BT_monthly 61 = .ok (.laload, 1) := by decide +kernel
theorem d_BT_monthly_62 : decode c_BT_monthly 62 = .ok (.ldiv, 1) := by decide +kernel
theorem d_BT_monthly_63 : decode c_BT_monthly 63 = .ok (.ldc2_w 223, 3) := by decide +kernel
theorem d_BT_monthly_66 : decode c_BT_monthly 66 = .ok (.invokestatic 225, 3) := by decide +kernel
theorem d_BT_monthly_69 : decode c_BT_monthly 69 = .ok (.lstore 4, 2) := by decide +kernel
theorem d_BT_monthly_71 : decode c_BT_monthly 71 = .ok (.iinc 6 1, 3) := by decide +kernel
theorem d_BT_monthly_74 : decode c_BT_monthly 74 = .ok (.goto (-44), 3) := by decide +kernel
theorem d_BT_monthly_77 : decode c_BT_monthly 77 = .ok (.lload 4, 2) := by decide +kernel
theorem d_BT_monthly_79 : decode c_BT_monthly 79 = .ok (.lreturn, 1) := by decide +kernel
theorem d_BT_dispute_0 : decode c_BT_dispute 0 = .ok (.aload_n 0, 1) := by decide +kernel
theorem d_BT_dispute_1 : decode c_BT_dispute 1 = .ok (.iload_n 1, 1) := by decide +kernel
theorem d_BT_dispute_2 : decode c_BT_dispute 2 = .ok (.invokevirtual 89, 3) := by decide +kernel
theorem d_BT_dispute_5 : decode c_BT_dispute 5 = .ok (.astore_n 3, 1) := by decide +kernel
theorem d_BT_dispute_6 : decode c_BT_dispute 6 = .ok (.aload_n 3, 1) := by decide +kernel
theorem d_BT_dispute_7 : decode c_BT_dispute 7 = .ok (.ifnull 24, 3) := by decide +kernel
theorem d_BT_dispute_10 : decode c_BT_dispute 10 = .ok (.aload_n 0, 1) := by decide +kernel
theorem d_BT_dispute_11 : decode c_BT_dispute 11 = .ok (.getfield 228, 3) := by decide +kernel
theorem d_BT_dispute_14 : decode c_BT_dispute 14 = .ok (.bipush 20, 2) := by decide +kernel
theorem d_BT_dispute_16 : decode c_BT_dispute 16 = .ok (.if_icmp .ge 15, 3) := by decide +kernel
theorem d_BT_dispute_19 : decode c_BT_dispute 19 = .ok (.iload_n 2, 1) := by decide +kernel
theorem d_BT_dispute_20 : decode c_BT_dispute 20 = .ok (.i2l, 1) := by decide +kernel
theorem d_BT_dispute_21 : decode c_BT_dispute 21 = .ok (.lconst 1, 1) := by decide +kernel
theorem d_BT_dispute_22 : decode c_BT_dispute 22 = .ok (.ldc2_w 231, 3) := by decide +kernel
theorem d_BT_dispute_25 : decode c_BT_dispute 25 = .ok (.invokestatic 53, 3) := by decide +kernel
theorem d_BT_dispute_28 : decode c_BT_dispute 28 = .ok (.ifCond .ne 5, 3) := by decide +kernel
theorem d_BT_dispute_31 : decode c_BT_dispute 31 = .ok (.iconst (-1), 1) := by decide +kernel
theorem d_BT_dispute_32 : decode c_BT_dispute 32 = .ok (.ireturn, 1) := by decide +kernel
theorem d_BT_dispute_33 : decode c_BT_dispute 33 = .ok (.aload_n 0, 1) := by decide +kernel
theorem d_BT_dispute_34 : decode c_BT_dispute 34 = .ok (.getfield 228, 3) := by decide +kernel
theorem d_BT_dispute_37 : decode c_BT_dispute 37 = .ok (.istore 4, 2) := by decide +kernel
theorem d_BT_dispute_39 : decode c_BT_dispute 39 = .ok (.aload_n 0, 1) := by decide +kernel
theorem d_BT_dispute_40 : decode c_BT_dispute 40 = .ok (.getfield 29, 3) := by decide +kernel
theorem d_BT_dispute_43 : decode c_BT_dispute 43 = .ok (.iload 4, 2) := by decide +kernel
theorem d_BT_dispute_45 : decode c_BT_dispute 45 = .ok (.new 27, 3) := by decide +kernel
theorem d_BT_dispute_48 : decode c_BT_dispute 48 = .ok (.dup, 1) := by decide +kernel
theorem d_BT_dispute_49 : decode c_BT_dispute 49 = .ok (.aload_n 3, 1) := by decide +kernel
theorem d_BT_dispute_50 : decode c_BT_dispute 50 = .ok (.iload_n 2, 1) := by decide +kernel
theorem d_BT_dispute_51 : decode c_BT_dispute 51 = .ok (.invokespecial 233, 3) := by decide +kernel
theorem d_BT_dispute_54 : decode c_BT_dispute 54 = .ok (.aastore, 1) := by decide +kernel
theorem d_BT_dispute_55 : decode c_BT_dispute 55 = .ok (.aload_n 0, 1) := by decide +kernel
theorem d_BT_dispute_56 : decode c_BT_dispute 56 = .ok (.dup, 1) := by decide +kernel
theorem d_BT_dispute_57 : decode c_BT_dispute 57 = .ok (.getfield 228, 3) := by decide +kernel
theorem d_BT_dispute_60 : decode c_BT_dispute 60 = .ok (.iconst 1, 1) := by decide +kernel
theorem d_BT_dispute_61 : decode c_BT_dispute 61 = .ok (.iadd, 1) := by decide +kernel
theorem d_BT_dispute_62 : decode c_BT_dispute 62 = .ok (.putfield 228, 3) := by decide +kernel
theorem d_BT_dispute_65 : decode c_BT_dispute 65 = .ok (.aload_n 0, 1) := by decide +kernel
theorem d_BT_dispute_66 : decode c_BT_dispute 66 = .ok (.iconst 1, 1) := by decide +kernel
theorem d_BT_dispute_67 : decode c_BT_dispute 67 = .ok (.putfield 58, 3) := by decide +kernel
theorem d_BT_dispute_70 : decode c_BT_dispute 70 = .ok (.iload 4, 2) := by decide +kernel
theorem d_BT_dispute_72 : decode c_BT_dispute 72 = .ok (.ireturn, 1) := by decide +kernel
theorem d_Dis_init_0 : decode c_Dis_init 0 = .ok (.aload_n 0, 1) := by decide +kernel
theorem d_Dis_init_1 : decode c_Dis_init 1 = .ok (.invokespecial 1, 3) := by decide +kernel
theorem d_Dis_init_4 : decode c_Dis_init 4 = .ok (.aload_n 0, 1) := by decide +kernel
theorem d_Dis_init_5 : decode c_Dis_init 5 = .ok (.aload_n 1, 1) := by decide +kernel
theorem d_Dis_init_6 : decode c_Dis_init 6 = .ok (.putfield 7, 3) := by decide +kernel
theorem d_Dis_init_9 : decode c_Dis_init 9 = .ok (.aload_n 0, 1) := by decide +kernel
theorem d_Dis_init_10 : decode c_Dis_init 10 = .ok (.iload_n 2, 1) := by decide +kernel
theorem d_Dis_init_11 : decode c_Dis_init 11 = .ok (.putfield 13, 3) := by decide +kernel
theorem d_Dis_init_14 : decode c_Dis_init 14 = .ok (.return_, 1) := by decide +kernel
theorem d_BT_verdict_0 : decode c_BT_verdict 0 = .ok (.aload_n 0, 1) := by decide +kernel
theorem d_BT_verdict_1 : decode c_BT_verdict 1 = .ok (.iload_n 1, 1) := by decide +kernel
theorem d_BT_verdict_2 : decode c_BT_verdict 2 = .ok (.invokevirtual 236, 3) := by decide +kernel
theorem d_BT_verdict_5 : decode c_BT_verdict 5 = .ok (.astore_n 2, 1) := by decide +kernel
theorem d_BT_verdict_6 : decode c_BT_verdict 6 = .ok (.aload_n 2, 1) := by decide +kernel
theorem d_BT_verdict_7 : decode c_BT_verdict 7 = .ok (.ifnonnull 5, 3) := by decide +kernel
theorem d_BT_verdict_10 : decode c_BT_verdict 10 = .ok (.iconst (-1), 1) := by decide +kernel
theorem d_BT_verdict_11 : decode c_BT_verdict 11 = .ok (.ireturn, 1) := by decide +kernel
theorem d_BT_verdict_12 : decode c_BT_verdict 12 = .ok (.aload_n 0, 1) := by decide +kernel
theorem d_BT_verdict_13 : decode c_BT_verdict 13 = .ok (.getfield 43, 3) := by decide +kernel
theorem d_BT_verdict_16 : decode c_BT_verdict 16 = .ok (.aload_n 2, 1) := by decide +kernel
theorem d_BT_verdict_17 : decode c_BT_verdict 17 = .ok (.getfield 240, 3) := by decide +kernel
theorem d_BT_verdict_20 : decode c_BT_verdict 20 = .ok (.invokevirtual 244, 3) := by decide +kernel
theorem d_BT_verdict_23 : decode c_BT_verdict 23 = .ok (.ifCond .eq 5, 3) := by decide +kernel
theorem d_BT_verdict_26 : decode c_BT_verdict 26 = .ok (.iconst 2, 1) := by decide +kernel
theorem d_BT_verdict_27 : decode c_BT_verdict 27 = .ok (.ireturn, 1) := by decide +kernel
theorem d_BT_verdict_28 : decode c_BT_verdict 28 = .ok (.aload_n 0, 1) := by decide +kernel
theorem d_BT_verdict_29 : decode c_BT_verdict 29 = .ok (.aload_n 2, 1) := by decide +kernel
theorem d_BT_verdict_30 : decode c_BT_verdict 30 = .ok (.getfield 240, 3) := by decide +kernel
theorem d_BT_verdict_33 : decode c_BT_verdict 33 = .ok (.aload_n 2, 1) := by decide +kernel
theorem d_BT_verdict_34 : decode c_BT_verdict 34 = .ok (.getfield 247, 3) := by decide +kernel
theorem d_BT_verdict_37 : decode c_BT_verdict 37 = .ok (.invokevirtual 250, 3) := by decide +kernel
theorem d_BT_verdict_40 : decode c_BT_verdict 40 = .ok (.ifCond .eq 7, 3) := by decide +kernel
theorem d_BT_verdict_43 : decode c_BT_verdict 43 = .ok (.iconst 1, 1) := by decide +kernel
theorem d_BT_verdict_44 : decode c_BT_verdict 44 = .ok (.goto 4, 3) := by decide +kernel
theorem d_BT_verdict_47 : decode c_BT_verdict 47 = .ok (.iconst 0, 1) := by decide +kernel
theorem d_BT_verdict_48 : decode c_BT_verdict 48 = .ok (.ireturn, 1) := by decide +kernel
theorem d_BT_disputeAt_0 : decode c_BT_disputeAt 0 = .ok (.iload_n 1, 1) := by decide +kernel
theorem d_BT_disputeAt_1 : decode c_BT_disputeAt 1 = .ok (.ifCond .lt 20, 3) := by decide +kernel
theorem d_BT_disputeAt_4 : decode c_BT_disputeAt 4 = .ok (.iload_n 1, 1) := by decide +kernel
theorem d_BT_disputeAt_5 : decode c_BT_disputeAt 5 = .ok (.aload_n 0, 1) := by decide +kernel
theorem d_BT_disputeAt_6 : decode c_BT_disputeAt 6 = .ok (.getfield 228, 3) := by decide +kernel
theorem d_BT_disputeAt_9 : decode c_BT_disputeAt 9 = .ok (.if_icmp .ge 12, 3) := by decide +kernel
theorem d_BT_disputeAt_12 : decode c_BT_disputeAt 12 = .ok (.aload_n 0, 1) := by decide +kernel
theorem d_BT_disputeAt_13 : decode c_BT_disputeAt 13 = .ok (.getfield 29, 3) := by decide +kernel
theorem d_BT_disputeAt_16 : decode c_BT_disputeAt 16 = .ok (.iload_n 1, 1) := by decide +kernel
theorem d_BT_disputeAt_17 : decode c_BT_disputeAt 17 = .ok (.aaload, 1) := by decide +kernel
theorem d_BT_disputeAt_18 : decode c_BT_disputeAt 18 = .ok (.goto 4, 3) := by decide +kernel
theorem d_BT_disputeAt_21 : decode c_BT_disputeAt 21 = .ok (.aconst_null, 1) := by decide +kernel
theorem d_BT_disputeAt_22 : decode c_BT_disputeAt 22 = .ok (.areturn, 1) := by decide +kernel
theorem d_BT_reasonHolds_0 : decode c_BT_reasonHolds 0 = .ok (.iload_n 2, 1) := by decide +kernel
theorem d_BT_reasonHolds_1 : decode c_BT_reasonHolds 1 = .ok (.bipush 6, 2) := by decide +kernel
theorem d_BT_reasonHolds_3 : decode c_BT_reasonHolds 3 = .ok (.if_icmp .eq 10, 3) := by decide +kernel
theorem d_BT_reasonHolds_6 : decode c_BT_reasonHolds 6 = .ok (.aload_n 0, 1) := by decide +kernel
theorem d_BT_reasonHolds_7 : decode c_BT_reasonHolds 7 = .ok (.aload_n 1, 1) := by decide +kernel
theorem d_BT_reasonHolds_8 : decode c_BT_reasonHolds 8 = .ok (.iload_n 2, 1) := by decide +kernel
theorem d_BT_reasonHolds_9 : decode c_BT_reasonHolds 9 = .ok (.invokevirtual 265, 3) := by decide +kernel
theorem d_BT_reasonHolds_12 : decode c_BT_reasonHolds 12 = .ok (.ireturn, 1) := by decide +kernel
theorem d_BT_reasonHolds_13 : decode c_BT_reasonHolds 13 = .ok (.iconst 1, 1) := by decide +kernel
theorem d_BT_reasonHolds_14 : decode c_BT_reasonHolds 14 = .ok (.istore_n 3, 1) := by decide +kernel
theorem d_BT_reasonHolds_15 : decode c_BT_reasonHolds 15 = .ok (.iload_n 3, 1) := by decide +kernel
theorem d_BT_reasonHolds_16 : decode c_BT_reasonHolds 16 = .ok (.bipush 6, 2) := by decide +kernel
theorem d_BT_reasonHolds_18 : decode c_BT_reasonHolds 18 = .ok (.if_icmp .ge 20, 3) := by decide +kernel
theorem d_BT_reasonHolds_21 : decode c_BT_reasonHolds 21 = .ok (.aload_n 0, 1) := by decide +kernel
theorem d_BT_reasonHolds_22 : decode c_BT_reasonHolds 22 = .ok (.aload_n 1, 1) := by decide +kernel
theorem d_BT_reasonHolds_23 : decode c_BT_reasonHolds 23 = .ok (.iload_n 3, 1) := by decide +kernel
theorem d_BT_reasonHolds_24 : decode c_BT_reasonHolds 24 = .ok (.invokevirtual 265, 3) := by decide +kernel
theorem d_BT_reasonHolds_27 : decode c_BT_reasonHolds 27 = .ok (.ifCond .eq 5, 3) := by decide +kernel
theorem d_BT_reasonHolds_30 : decode c_BT_reasonHolds 30 = .ok (.iconst 0, 1) := by decide +kernel
theorem d_BT_reasonHolds_31 : decode c_BT_reasonHolds 31 = .ok (.ireturn, 1) := by decide +kernel
theorem d_BT_reasonHolds_32 : decode c_BT_reasonHolds 32 = .ok (.iinc 3 1, 3) := by decide +kernel
theorem d_BT_reasonHolds_35 : decode c_BT_reasonHolds 35 = .ok (.goto (-20), 3) := by decide +kernel
theorem d_BT_reasonHolds_38 : decode c_BT_reasonHolds 38 = .ok (.iconst 1, 1) := by decide +kernel
theorem d_BT_reasonHolds_39 : decode c_BT_reasonHolds 39 = .ok (.ireturn, 1) := by decide +kernel
theorem d_BT_ownReasonHolds_0 : decode c_BT_ownReasonHolds 0 = .ok (.iload_n 2, 1) := by decide +kernel
theorem d_BT_ownReasonHolds_1 : decode c_BT_ownReasonHolds 1 = .ok (.tableswitch 127 1 5 #[35, 51, 67, 80, 98], 35) := by decide +kernel
theorem d_BT_ownReasonHolds_36 : decode c_BT_ownReasonHolds 36 = .ok (.aload_n 1, 1) := by decide +kernel
theorem d_BT_ownReasonHolds_37 : decode c_BT_ownReasonHolds 37 = .ok (.getfield 97, 3) := by decide +kernel
theorem d_BT_ownReasonHolds_40 : decode c_BT_ownReasonHolds 40 = .ok (.getfield 258, 3) := by decide +kernel
theorem d_BT_ownReasonHolds_43 : decode c_BT_ownReasonHolds 43 = .ok (.ifCond .ne 7, 3) := by decide +kernel
theorem d_BT_ownReasonHolds_46 : decode c_BT_ownReasonHolds 46 = .ok (.iconst 1, 1) := by decide +kernel
theorem d_BT_ownReasonHolds_47 : decode c_BT_ownReasonHolds 47 = .ok (.goto 4, 3) := by decide +kernel
theorem d_BT_ownReasonHolds_50 : decode c_BT_ownReasonHolds 50 = .ok (.iconst 0, 1) := by decide +kernel
theorem d_BT_ownReasonHolds_51 : decode c_BT_ownReasonHolds 51 = .ok (.ireturn, 1) := by decide +kernel
theorem d_BT_ownReasonHolds_52 : decode c_BT_ownReasonHolds 52 = .ok (.aload_n 1, 1) := by decide +kernel
theorem d_BT_ownReasonHolds_53 : decode c_BT_ownReasonHolds 53 = .ok (.getfield 97, 3) := by decide +kernel
theorem d_BT_ownReasonHolds_56 : decode c_BT_ownReasonHolds 56 = .ok (.getfield 101, 3) := by decide +kernel
theorem d_BT_ownReasonHolds_59 : decode c_BT_ownReasonHolds 59 = .ok (.ifCond .ne 7, 3) := by decide +kernel
theorem d_BT_ownReasonHolds_62 : decode c_BT_ownReasonHolds 62 = .ok (.iconst 1, 1) := by decide +kernel
theorem d_BT_ownReasonHolds_63 : decode c_BT_ownReasonHolds 63 = .ok (.goto 4, 3) := by decide +kernel
theorem d_BT_ownReasonHolds_66 : decode c_BT_ownReasonHolds 66 = .ok (.iconst 0, 1) := by decide +kernel
theorem d_BT_ownReasonHolds_67 : decode c_BT_ownReasonHolds 67 = .ok (.ireturn, 1) := by decide +kernel
theorem d_BT_ownReasonHolds_68 : decode c_BT_ownReasonHolds 68 = .ok (.aload_n 1, 1) := by decide +kernel
theorem d_BT_ownReasonHolds_69 : decode c_BT_ownReasonHolds 69 = .ok (.getfield 108, 3) := by decide +kernel
theorem d_BT_ownReasonHolds_72 : decode c_BT_ownReasonHolds 72 = .ok (.ifCond .ne 7, 3) := by decide +kernel
theorem d_BT_ownReasonHolds_75 : decode c_BT_ownReasonHolds 75 = .ok (.iconst 1, 1) := by decide +kernel
theorem d_BT_ownReasonHolds_76 : decode c_BT_ownReasonHolds 76 = .ok (.goto 4, 3) := by decide +kernel
theorem d_BT_ownReasonHolds_79 : decode c_BT_ownReasonHolds 79 = .ok (.iconst 0, 1) := by decide +kernel
theorem d_BT_ownReasonHolds_80 : decode c_BT_ownReasonHolds 80 = .ok (.ireturn, 1) := by decide +kernel
theorem d_BT_ownReasonHolds_81 : decode c_BT_ownReasonHolds 81 = .ok (.aload_n 1, 1) := by decide +kernel
theorem d_BT_ownReasonHolds_82 : decode c_BT_ownReasonHolds 82 = .ok (.getfield 108, 3) := by decide +kernel
theorem d_BT_ownReasonHolds_85 : decode c_BT_ownReasonHolds 85 = .ok (.aload_n 0, 1) := by decide +kernel
theorem d_BT_ownReasonHolds_86 : decode c_BT_ownReasonHolds 86 = .ok (.invokevirtual 268, 3) := by decide +kernel
theorem d_BT_ownReasonHolds_89 : decode c_BT_ownReasonHolds 89 = .ok (.iand, 1) := by decide +kernel
theorem d_BT_ownReasonHolds_90 : decode c_BT_ownReasonHolds 90 = .ok (.ifCond .eq 7, 3) := by decide +kernel
theorem d_BT_ownReasonHolds_93 : decode c_BT_ownReasonHolds 93 = .ok (.iconst 1, 1) := by decide +kernel
theorem d_BT_ownReasonHolds_94 : decode c_BT_ownReasonHolds 94 = .ok (.goto 4, 3) := by decide +kernel
theorem d_BT_ownReasonHolds_97 : decode c_BT_ownReasonHolds 97 = .ok (.iconst 0, 1) := by decide +kernel
theorem d_BT_ownReasonHolds_98 : decode c_BT_ownReasonHolds 98 = .ok (.ireturn, 1) := by decide +kernel
theorem d_BT_ownReasonHolds_99 : decode c_BT_ownReasonHolds 99 = .ok (.aload_n 1, 1) := by decide +kernel
theorem d_BT_ownReasonHolds_100 : decode c_BT_ownReasonHolds 100 = .ok (.invokevirtual 271, 3) := by decide +kernel
theorem d_BT_ownReasonHolds_103 : decode c_BT_ownReasonHolds 103 = .ok (.aload_n 0, 1) := by decide +kernel
theorem d_BT_ownReasonHolds_104 : decode c_BT_ownReasonHolds 104 = .ok (.aload_n 1, 1) := by decide +kernel
theorem d_BT_ownReasonHolds_105 : decode c_BT_ownReasonHolds 105 = .ok (.getfield 97, 3) := by decide +kernel
theorem d_BT_ownReasonHolds_108 : decode c_BT_ownReasonHolds 108 = .ok (.invokevirtual 274, 3) := by decide +kernel
theorem d_BT_ownReasonHolds_111 : decode c_BT_ownReasonHolds 111 = .ok (.iadd, 1) := by decide +kernel
theorem d_BT_ownReasonHolds_112 : decode c_BT_ownReasonHolds 112 = .ok (.aload_n 1, 1) := by decide +kernel
theorem d_BT_ownReasonHolds_113 : decode c_BT_ownReasonHolds 113 = .ok (.getfield 97, 3) := by decide +kernel
theorem d_BT_ownReasonHolds_116 : decode c_BT_ownReasonHolds 116 = .ok (.getfield 78, 3) := by decide +kernel
theorem d_BT_ownReasonHolds_119 : decode c_BT_ownReasonHolds 119 = .ok (.if_icmp .le 7, 3) := by decide +kernel
theorem d_BT_ownReasonHolds_122 : decode c_BT_ownReasonHolds 122 = .ok (.iconst 1, 1) := by decide +kernel
theorem d_BT_ownReasonHolds_123 : decode c_BT_ownReasonHolds 123 = .ok (.goto 4, 3) := by decide +kernel
theorem d_BT_ownReasonHolds_126 : decode c_BT_ownReasonHolds 126 = .ok (.iconst 0, 1) := by decide +kernel
theorem d_BT_ownReasonHolds_127 : decode c_BT_ownReasonHolds 127 = .ok (.ireturn, 1) := by decide +kernel
theorem d_BT_ownReasonHolds_128 : decode c_BT_ownReasonHolds 128 = .ok (.iconst 0, 1) := by decide +kernel
theorem d_BT_ownReasonHolds_129 : decode c_BT_ownReasonHolds 129 = .ok (.ireturn, 1) := by decide +kernel
theorem d_BT_lotsWon_0 : decode c_BT_lotsWon 0 = .ok (.iconst 0, 1) := by decide +kernel
theorem d_BT_lotsWon_1 : decode c_BT_lotsWon 1 = .ok (.istore_n 1, 1) := by decide +kernel
theorem d_BT_lotsWon_2 : decode c_BT_lotsWon 2 = .ok (.aload_n 0, 1) := by decide +kernel
theorem d_BT_lotsWon_3 : decode c_BT_lotsWon 3 = .ok (.getfield 23, 3) := by decide +kernel
theorem d_BT_lotsWon_6 : decode c_BT_lotsWon 6 = .ok (.astore_n 2, 1) := by decide +kernel
theorem d_BT_lotsWon_7 : decode c_BT_lotsWon 7 = .ok (.aload_n 2, 1) := by decide +kernel
theorem d_BT_lotsWon_8 : decode c_BT_lotsWon 8 = .ok (.arraylength, 1) := by decide +kernel
theorem d_BT_lotsWon_9 : decode c_BT_lotsWon 9 = .ok (.istore_n 3, 1) := by decide +kernel
theorem d_BT_lotsWon_10 : decode c_BT_lotsWon 10 = .ok (.iconst 0, 1) := by decide +kernel
theorem d_BT_lotsWon_11 : decode c_BT_lotsWon 11 = .ok (.istore 4, 2) := by decide +kernel
theorem d_BT_lotsWon_13 : decode c_BT_lotsWon 13 = .ok (.iload 4, 2) := by decide +kernel
theorem d_BT_lotsWon_15 : decode c_BT_lotsWon 15 = .ok (.iload_n 3, 1) := by decide +kernel
theorem d_BT_lotsWon_16 : decode c_BT_lotsWon 16 = .ok (.if_icmp .ge 40, 3) := by decide +kernel
theorem d_BT_lotsWon_19 : decode c_BT_lotsWon 19 = .ok (.aload_n 2, 1) := by decide +kernel
theorem d_BT_lotsWon_20 : decode c_BT_lotsWon 20 = .ok (.iload 4, 2) := by decide +kernel
theorem d_BT_lotsWon_22 : decode c_BT_lotsWon 22 = .ok (.aaload, 1) := by decide +kernel
theorem d_BT_lotsWon_23 : decode c_BT_lotsWon 23 = .ok (.astore 5, 2) := by decide +kernel
theorem d_BT_lotsWon_25 : decode c_BT_lotsWon 25 = .ok (.aload 5, 2) := by decide +kernel
theorem d_BT_lotsWon_27 : decode c_BT_lotsWon 27 = .ok (.ifnull 23, 3) := by decide +kernel
theorem d_BT_lotsWon_30 : decode c_BT_lotsWon 30 = .ok (.aload_n 0, 1) := by decide +kernel
theorem d_BT_lotsWon_31 : decode c_BT_lotsWon 31 = .ok (.getfield 43, 3) := by decide +kernel
theorem d_BT_lotsWon_34 : decode c_BT_lotsWon 34 = .ok (.aload 5, 2) := by decide +kernel
theorem d_BT_lotsWon_36 : decode c_BT_lotsWon 36 = .ok (.invokevirtual 244, 3) := by decide +kernel
theorem d_BT_lotsWon_39 : decode c_BT_lotsWon 39 = .ok (.ifCond .eq 11, 3) := by decide +kernel
theorem d_BT_lotsWon_42 : decode c_BT_lotsWon 42 = .ok (.iload_n 1, 1) := by decide +kernel
theorem d_BT_lotsWon_43 : decode c_BT_lotsWon 43 = .ok (.aload 5, 2) := by decide +kernel
theorem d_BT_lotsWon_45 : decode c_BT_lotsWon 45 = .ok (.getfield 108, 3) := by decide +kernel
theorem d_BT_lotsWon_48 : decode c_BT_lotsWon 48 = .ok (.ior, 1) := by decide +kernel
theorem d_BT_lotsWon_49 : decode c_BT_lotsWon 49 = .ok (.istore_n 1, 1) := by decide +kernel
theorem d_BT_lotsWon_50 : decode c_BT_lotsWon 50 = .ok (.iinc 4 1, 3) := by decide +kernel
theorem d_BT_lotsWon_53 : decode c_BT_lotsWon 53 = .ok (.goto (-40), 3) := by decide +kernel
theorem d_BT_lotsWon_56 : decode c_BT_lotsWon 56 = .ok (.iload_n 1, 1) := by decide +kernel
theorem d_BT_lotsWon_57 : decode c_BT_lotsWon 57 = .ok (.ireturn, 1) := by decide +kernel
theorem d_BT_lotTallyWonBy_0 : decode c_BT_lotTallyWonBy 0 = .ok (.iconst 0, 1) := by decide +kernel
theorem d_BT_lotTallyWonBy_1 : decode c_BT_lotTallyWonBy 1 = .ok (.istore_n 2, 1) := by decide +kernel
theorem d_BT_lotTallyWonBy_2 : decode c_BT_lotTallyWonBy 2 = .ok (.aload_n 0, 1) := by decide +kernel
theorem d_BT_lotTallyWonBy_3 : decode c_BT_lotTallyWonBy 3 = .ok (.getfield 23, 3) := by decide +kernel
theorem d_BT_lotTallyWonBy_6 : decode c_BT_lotTallyWonBy 6 = .ok (.astore_n 3, 1) := by decide +kernel
theorem d_BT_lotTallyWonBy_7 : decode c_BT_lotTallyWonBy 7 = .ok (.aload_n 3, 1) := by decide +kernel
theorem d_BT_lotTallyWonBy_8 : decode c_BT_lotTallyWonBy 8 = .ok (.arraylength, 1) := by decide +kernel
theorem d_BT_lotTallyWonBy_9 : decode c_BT_lotTallyWonBy 9 = .ok (.istore 4, 2) := by decide +kernel
theorem d_BT_lotTallyWonBy_11 : decode c_BT_lotTallyWonBy 11 = .ok (.iconst 0, 1) := by decide +kernel
theorem d_BT_lotTallyWonBy_12 : decode c_BT_lotTallyWonBy 12 = .ok (.istore 5, 2) := by decide +kernel
theorem d_BT_lotTallyWonBy_14 : decode c_BT_lotTallyWonBy 14 = .ok (.iload 5, 2) := by decide +kernel
theorem d_BT_lotTallyWonBy_16 : decode c_BT_lotTallyWonBy 16 = .ok (.iload 4, 2) := by decide +kernel
theorem d_BT_lotTallyWonBy_18 : decode c_BT_lotTallyWonBy 18 = .ok (.if_icmp .ge 49, 3) := by decide +kernel
theorem d_BT_lotTallyWonBy_21 : decode c_BT_lotTallyWonBy 21 = .ok (.aload_n 3, 1) := by decide +kernel
theorem d_BT_lotTallyWonBy_22 : decode c_BT_lotTallyWonBy 22 = .ok (.iload 5, 2) := by decide +kernel
theorem d_BT_lotTallyWonBy_24 : decode c_BT_lotTallyWonBy 24 = .ok (.aaload, 1) := by decide +kernel
theorem d_BT_lotTallyWonBy_25 : decode c_BT_lotTallyWonBy 25 = .ok (.astore 6, 2) := by decide +kernel
theorem d_BT_lotTallyWonBy_27 : decode c_BT_lotTallyWonBy 27 = .ok (.aload 6, 2) := by decide +kernel
theorem d_BT_lotTallyWonBy_29 : decode c_BT_lotTallyWonBy 29 = .ok (.ifnull 32, 3) := by decide +kernel
theorem d_BT_lotTallyWonBy_32 : decode c_BT_lotTallyWonBy 32 = .ok (.aload 6, 2) := by decide +kernel
theorem d_BT_lotTallyWonBy_34 : decode c_BT_lotTallyWonBy 34 = .ok (.getfield 97, 3) := by decide +kernel
theorem d_BT_lotTallyWonBy_37 : decode c_BT_lotTallyWonBy 37 = .ok (.aload_n 1, 1) := by decide +kernel
theorem d_BT_lotTallyWonBy_38 : decode c_BT_lotTallyWonBy 38 = .ok (.if_acmp .ne 23, 3) := by decide +kernel
theorem d_BT_lotTallyWonBy_41 : decode c_BT_lotTallyWonBy 41 = .ok (.aload_n 0, 1) := by decide +kernel
theorem d_BT_lotTallyWonBy_42 : decode c_BT_lotTallyWonBy 42 = .ok (.getfield 43, 3) := by decide +kernel
theorem d_BT_lotTallyWonBy_45 : decode c_BT_lotTallyWonBy 45 = .ok (.aload 6, 2) := by decide +kernel
theorem d_BT_lotTallyWonBy_47 : decode c_BT_lotTallyWonBy 47 = .ok (.invokevirtual 244, 3) := by decide +kernel
theorem d_BT_lotTallyWonBy_50 : decode c_BT_lotTallyWonBy 50 = .ok (.ifCond .eq 11, 3) := by decide +kernel
theorem d_BT_lotTallyWonBy_53 : decode c_BT_lotTallyWonBy 53 = .ok (.iload_n 2, 1) := by decide +kernel
theorem d_BT_lotTallyWonBy_54 : decode c_BT_lotTallyWonBy 54 = .ok (.aload 6, 2) := by decide +kernel
theorem d_BT_lotTallyWonBy_56 : decode c_BT_lotTallyWonBy 56 = .ok (.invokevirtual 271, 3) := by decide +kernel
theorem d_BT_lotTallyWonBy_59 : decode c_BT_lotTallyWonBy 59 = .ok (.iadd, 1) := by decide +kernel
theorem d_BT_lotTallyWonBy_60 : decode c_BT_lotTallyWonBy 60 = .ok (.istore_n 2, 1) := by decide +kernel
theorem d_BT_lotTallyWonBy_61 : decode c_BT_lotTallyWonBy 61 = .ok (.iinc 5 1, 3) := by decide +kernel
theorem d_BT_lotTallyWonBy_64 : decode c_BT_lotTallyWonBy 64 = .ok (.goto (-50), 3) := by decide +kernel
theorem d_BT_lotTallyWonBy_67 : decode c_BT_lotTallyWonBy 67 = .ok (.iload_n 2, 1) := by decide +kernel
theorem d_BT_lotTallyWonBy_68 : decode c_BT_lotTallyWonBy 68 = .ok (.ireturn, 1) := by decide +kernel
