theorem d_Mod_init_0 : decode c_Mod_init 0 = .ok (.aload_n 0, 1) := by decide +kernel
theorem d_Mod_init_1 : decode c_Mod_init 1 = .ok (.invokespecial 1, 3) := by decide +kernel
theorem d_Mod_init_4 : decode c_Mod_init 4 = .ok (.aload_n 0, 1) := by decide +kernel
theorem d_Mod_init_5 : decode c_Mod_init 5 = .ok (.bipush 6, 2) := by decide +kernel
theorem d_Mod_init_7 : decode c_Mod_init 7 = .ok (.newarray .boolean, 2) := by decide +kernel
theorem d_Mod_init_9 : decode c_Mod_init 9 = .ok (.putfield 7, 3) := by decide +kernel
theorem d_Mod_init_12 : decode c_Mod_init 12 = .ok (.aload_n 0, 1) := by decide +kernel
theorem d_Mod_init_13 : decode c_Mod_init 13 = .ok (.bipush 6, 2) := by decide +kernel
theorem d_Mod_init_15 : decode c_Mod_init 15 = .ok (.newarray .boolean, 2) := by decide +kernel
theorem d_Mod_init_17 : decode c_Mod_init 17 = .ok (.putfield 13, 3) := by decide +kernel
theorem d_Mod_init_20 : decode c_Mod_init 20 = .ok (.aload_n 0, 1) := by decide +kernel
theorem d_Mod_init_21 : decode c_Mod_init 21 = .ok (.bipush 6, 2) := by decide +kernel
theorem d_Mod_init_23 : decode c_Mod_init 23 = .ok (.newarray .long, 2) := by decide +kernel
theorem d_Mod_init_25 : decode c_Mod_init 25 = .ok (.putfield 16, 3) := by decide +kernel
theorem d_Mod_init_28 : decode c_Mod_init 28 = .ok (.aload_n 0, 1) := by decide +kernel
theorem d_Mod_init_29 : decode c_Mod_init 29 = .ok (.bipush 6, 2) := by decide +kernel
theorem d_Mod_init_31 : decode c_Mod_init 31 = .ok (.newarray .int, 2) := by decide +kernel
theorem d_Mod_init_33 : decode c_Mod_init 33 = .ok (.putfield 20, 3) := by decide +kernel
theorem d_Mod_init_36 : decode c_Mod_init 36 = .ok (.aload_n 0, 1) := by decide +kernel
theorem d_Mod_init_37 : decode c_Mod_init 37 = .ok (.bipush 48, 2) := by decide +kernel
theorem d_Mod_init_39 : decode c_Mod_init 39 = .ok (.newarray .int, 2) := by decide +kernel
theorem d_Mod_init_41 : decode c_Mod_init 41 = .ok (.putfield 24, 3) := by decide +kernel
theorem d_Mod_init_44 : decode c_Mod_init 44 = .ok (.aload_n 0, 1) := by decide +kernel
theorem d_Mod_init_45 : decode c_Mod_init 45 = .ok (.bipush 48, 2) := by decide +kernel
theorem d_Mod_init_47 : decode c_Mod_init 47 = .ok (.newarray .boolean, 2) := by decide +kernel
theorem d_Mod_init_49 : decode c_Mod_init 49 = .ok (.putfield 27, 3) := by decide +kernel
theorem d_Mod_init_52 : decode c_Mod_init 52 = .ok (.aload_n 0, 1) := by decide +kernel
theorem d_Mod_init_53 : decode c_Mod_init 53 = .ok (.bipush 12, 2) := by decide +kernel
theorem d_Mod_init_55 : decode c_Mod_init 55 = .ok (.newarray .int, 2) := by decide +kernel
theorem d_Mod_init_57 : decode c_Mod_init 57 = .ok (.putfield 30, 3) := by decide +kernel
theorem d_Mod_init_60 : decode c_Mod_init 60 = .ok (.aload_n 0, 1) := by decide +kernel
theorem d_Mod_init_61 : decode c_Mod_init 61 = .ok (.bipush 12, 2) := by decide +kernel
theorem d_Mod_init_63 : decode c_Mod_init 63 = .ok (.newarray .long, 2) := by decide +kernel
theorem d_Mod_init_65 : decode c_Mod_init 65 = .ok (.putfield 33, 3) := by decide +kernel
theorem d_Mod_init_68 : decode c_Mod_init 68 = .ok (.aload_n 0, 1) := by decide +kernel
theorem d_Mod_init_69 : decode c_Mod_init 69 = .ok (.bipush 96, 2) := by decide +kernel
theorem d_Mod_init_71 : decode c_Mod_init 71 = .ok (.newarray .boolean, 2) := by decide +kernel
theorem d_Mod_init_73 : decode c_Mod_init 73 = .ok (.putfield 36, 3) := by decide +kernel
theorem d_Mod_init_76 : decode c_Mod_init 76 = .ok (.aload_n 0, 1) := by decide +kernel
theorem d_Mod_init_77 : decode c_Mod_init 77 = .ok (.bipush 12, 2) := by decide +kernel
theorem d_Mod_init_79 : decode c_Mod_init 79 = .ok (.newarray .boolean, 2) := by decide +kernel
theorem d_Mod_init_81 : decode c_Mod_init 81 = .ok (.putfield 39, 3) := by decide +kernel
theorem d_Mod_init_84 : decode c_Mod_init 84 = .ok (.aload_n 0, 1) := by decide +kernel
theorem d_Mod_init_85 : decode c_Mod_init 85 = .ok (.bipush 12, 2) := by decide +kernel
theorem d_Mod_init_87 : decode c_Mod_init 87 = .ok (.newarray .boolean, 2) := by decide +kernel
theorem d_Mod_init_89 : decode c_Mod_init 89 = .ok (.putfield 42, 3) := by decide +kernel
theorem d_Mod_init_92 : decode c_Mod_init 92 = .ok (.aload_n 0, 1) := by decide +kernel
theorem d_Mod_init_93 : decode c_Mod_init 93 = .ok (.bipush 8, 2) := by decide +kernel
theorem d_Mod_init_95 : decode c_Mod_init 95 = .ok (.newarray .int, 2) := by decide +kernel
theorem d_Mod_init_97 : decode c_Mod_init 97 = .ok (.putfield 45, 3) := by decide +kernel
theorem d_Mod_init_100 : decode c_Mod_init 100 = .ok (.aload_n 0, 1) := by decide +kernel
theorem d_Mod_init_101 : decode c_Mod_init 101 = .ok (.bipush 48, 2) := by decide +kernel
theorem d_Mod_init_103 : decode c_Mod_init 103 = .ok (.newarray .long, 2) := by decide +kernel
theorem d_Mod_init_105 : decode c_Mod_init 105 = .ok (.putfield 48, 3) := by decide +kernel
theorem d_Mod_init_108 : decode c_Mod_init 108 = .ok (.aload_n 0, 1) := by decide +kernel
theorem d_Mod_init_109 : decode c_Mod_init 109 = .ok (.bipush 48, 2) := by decide +kernel
theorem d_Mod_init_111 : decode c_Mod_init 111 = .ok (.newarray .long, 2) := by decide +kernel
theorem d_Mod_init_113 : decode c_Mod_init 113 = .ok (.putfield 51, 3) := by decide +kernel
theorem d_Mod_init_116 : decode c_Mod_init 116 = .ok (.aload_n 0, 1) := by decide +kernel
theorem d_Mod_init_117 : decode c_Mod_init 117 = .ok (.bipush 48, 2) := by decide +kernel
theorem d_Mod_init_119 : decode c_Mod_init 119 = .ok (.newarray .long, 2) := by decide +kernel
theorem d_Mod_init_121 : decode c_Mod_init 121 = .ok (.putfield 54, 3) := by decide +kernel
theorem d_Mod_init_124 : decode c_Mod_init 124 = .ok (.aload_n 0, 1) := by decide +kernel
theorem d_Mod_init_125 : decode c_Mod_init 125 = .ok (.bipush 60, 2) := by decide +kernel
theorem d_Mod_init_127 : decode c_Mod_init 127 = .ok (.newarray .boolean, 2) := by decide +kernel
theorem d_Mod_init_129 : decode c_Mod_init 129 = .ok (.putfield 57, 3) := by decide +kernel
theorem d_Mod_init_132 : decode c_Mod_init 132 = .ok (.aload_n 0, 1) := by decide +kernel
theorem d_Mod_init_133 : decode c_Mod_init 133 = .ok (.bipush 60, 2) := by decide +kernel
theorem d_Mod_init_135 : decode c_Mod_init 135 = .ok (.newarray .long, 2) := by decide +kernel
theorem d_Mod_init_137 : decode c_Mod_init 137 = .ok (.putfield 60, 3) := by decide +kernel
theorem d_Mod_init_140 : decode c_Mod_init 140 = .ok (.aload_n 0, 1) := by decide +kernel
theorem d_Mod_init_141 : decode c_Mod_init 141 = .ok (.bipush 60, 2) := by decide +kernel
theorem d_Mod_init_143 : decode c_Mod_init 143 = .ok (.newarray .long, 2) := by decide +kernel
theorem d_Mod_init_145 : decode c_Mod_init 145 = .ok (.putfield 63, 3) := by decide +kernel
theorem d_Mod_init_148 : decode c_Mod_init 148 = .ok (.aload_n 0, 1) := by decide +kernel
theorem d_Mod_init_149 : decode c_Mod_init 149 = .ok (.bipush 20, 2) := by decide +kernel
theorem d_Mod_init_151 : decode c_Mod_init 151 = .ok (.newarray .int, 2) := by decide +kernel
theorem d_Mod_init_153 : decode c_Mod_init 153 = .ok (.putfield 66, 3) := by decide +kernel
theorem d_Mod_init_156 : decode c_Mod_init 156 = .ok (.aload_n 0, 1) := by decide +kernel
theorem d_Mod_init_157 : decode c_Mod_init 157 = .ok (.bipush 20, 2) := by decide +kernel
theorem d_Mod_init_159 : decode c_Mod_init 159 = .ok (.newarray .int, 2) := by decide +kernel
theorem d_Mod_init_161 : decode c_Mod_init 161 = .ok (.putfield 69, 3) := by decide +kernel
theorem d_Mod_init_164 : decode c_Mod_init 164 = .ok (.aload_n 0, 1) := by decide +kernel
theorem d_Mod_init_165 : decode c_Mod_init 165 = .ok (.bipush 12, 2) := by decide +kernel
theorem d_Mod_init_167 : decode c_Mod_init 167 = .ok (.newarray .boolean, 2) := by decide +kernel
theorem d_Mod_init_169 : decode c_Mod_init 169 = .ok (.putfield 72, 3) := by decide +kernel
theorem d_Mod_init_172 : decode c_Mod_init 172 = .ok (.return_, 1) := by decide +kernel
theorem d_Mod_lot_0 : decode c_Mod_lot 0 = .ok (.aload_n 0, 1) := by decide +kernel
theorem d_Mod_lot_1 : decode c_Mod_lot 1 = .ok (.getfield 75, 3) := by decide +kernel
theorem d_Mod_lot_4 : decode c_Mod_lot 4 = .ok (.bipush 8, 2) := by decide +kernel
theorem d_Mod_lot_6 : decode c_Mod_lot 6 = .ok (.if_icmp .eq 17, 3) := by decide +kernel
theorem d_Mod_lot_9 : decode c_Mod_lot 9 = .ok (.lload_n 1, 1) := by decide +kernel
theorem d_Mod_lot_10 : decode c_Mod_lot 10 = .ok (.lconst 1, 1) := by decide +kernel
theorem d_Mod_lot_11 : decode c_Mod_lot 11 = .ok (.lcmp, 1) := by decide +kernel
theorem d_Mod_lot_12 : decode c_Mod_lot 12 = .ok (.ifCond .lt 11, 3) := by decide +kernel
theorem d_Mod_lot_15 : decode c_Mod_lot 15 = .ok (.lload_n 1, 1) := by decide +kernel
theorem d_Mod_lot_16 : decode c_Mod_lot 16 = .ok (.ldc2_w 85, 3) := by decide +kernel
theorem d_Mod_lot_19 : decode c_Mod_lot 19 = .ok (.lcmp, 1) := by decide +kernel
theorem d_Mod_lot_20 : decode c_Mod_lot 20 = .ok (.ifCond .le 5, 3) := by decide +kernel
theorem d_Mod_lot_23 : decode c_Mod_lot 23 = .ok (.iconst (-1), 1) := by decide +kernel
theorem d_Mod_lot_24 : decode c_Mod_lot 24 = .ok (.ireturn, 1) := by decide +kernel
theorem d_Mod_lot_25 : decode c_Mod_lot 25 = .ok (.aload_n 0, 1) := by decide +kernel
theorem d_Mod_lot_26 : decode c_Mod_lot 26 = .ok (.dup, 1) := by decide +kernel
theorem d_Mod_lot_27 : decode c_Mod_lot 27 = .ok (.getfield 75, 3) := by decide +kernel
theorem d_Mod_lot_30 : decode c_Mod_lot 30 = .ok (.iconst 1, 1) := by decide +kernel
theorem d_Mod_lot_31 : decode c_Mod_lot 31 = .ok (.iadd, 1) := by decide +kernel
theorem d_Mod_lot_32 : decode c_Mod_lot 32 = .ok (.putfield 75, 3) := by decide +kernel
theorem d_Mod_lot_35 : decode c_Mod_lot 35 = .ok (.aload_n 0, 1) := by decide +kernel
theorem d_Mod_lot_36 : decode c_Mod_lot 36 = .ok (.iconst 0, 1) := by decide +kernel
theorem d_Mod_lot_37 : decode c_Mod_lot 37 = .ok (.putfield 87, 3) := by decide +kernel
theorem d_Mod_lot_40 : decode c_Mod_lot 40 = .ok (.aload_n 0, 1) := by decide +kernel
theorem d_Mod_lot_41 : decode c_Mod_lot 41 = .ok (.getfield 75, 3) := by decide +kernel
theorem d_Mod_lot_44 : decode c_Mod_lot 44 = .ok (.iconst 1, 1) := by decide +kernel
theorem d_Mod_lot_45 : decode c_Mod_lot 45 = .ok (.isub, 1) := by decide +kernel
theorem d_Mod_lot_46 : decode c_Mod_lot 46 = .ok (.ireturn, 1) := by decide +kernel
theorem d_Mod_bidder_0 : decode c_Mod_bidder 0 = .ok (.aload_n 0, 1) := by decide +kernel
theorem d_Mod_bidder_1 : decode c_Mod_bidder 1 = .ok (.getfield 79, 3) := by decide +kernel
theorem d_Mod_bidder_4 : decode c_Mod_bidder 4 = .ok (.bipush 6, 2) := by decide +kernel
theorem d_Mod_bidder_6 : decode c_Mod_bidder 6 = .ok (.if_icmp .ne 5, 3) := by decide +kernel
theorem d_Mod_bidder_9 : decode c_Mod_bidder 9 = .ok (.iconst (-1), 1) := by decide +kernel
theorem d_Mod_bidder_10 : decode c_Mod_bidder 10 = .ok (.ireturn, 1) := by decide +kernel
theorem d_Mod_bidder_11 : decode c_Mod_bidder 11 = .ok (.aload_n 0, 1) := by decide +kernel
theorem d_Mod_bidder_12 : decode c_Mod_bidder 12 = .ok (.getfield 7, 3) := by decide +kernel
theorem d_Mod_bidder_15 : decode c_Mod_bidder 15 = .ok (.aload_n 0, 1) := by decide +kernel
theorem d_Mod_bidder_16 : decode c_Mod_bidder 16 = .ok (.getfield 79, 3) := by decide +kernel
theorem d_Mod_bidder_19 : decode c_Mod_bidder 19 = .ok (.iload_n 1, 1) := by decide +kernel
theorem d_Mod_bidder_20 : decode c_Mod_bidder 20 = .ok (.bastore, 1) := by decide +kernel
theorem d_Mod_bidder_21 : decode c_Mod_bidder 21 = .ok (.aload_n 0, 1) := by decide +kernel
theorem d_Mod_bidder_22 : decode c_Mod_bidder 22 = .ok (.getfield 20, 3) := by decide +kernel
theorem d_Mod_bidder_25 : decode c_Mod_bidder 25 = .ok (.aload_n 0, 1) := by decide +kernel
theorem d_Mod_bidder_26 : decode c_Mod_bidder 26 = .ok (.getfield 79, 3) := by decide +kernel
theorem d_Mod_bidder_29 : decode c_Mod_bidder 29 = .ok (.bipush 8, 2) := by decide +kernel
theorem d_Mod_bidder_31 : decode c_Mod_bidder 31 = .ok (.iastore, 1) := by decide +kernel
theorem d_Mod_bidder_32 : decode c_Mod_bidder 32 = .ok (.aload_n 0, 1) := by decide +kernel
theorem d_Mod_bidder_33 : decode c_Mod_bidder 33 = .ok (.dup, 1) := by decide +kernel
theorem d_Mod_bidder_34 : decode c_Mod_bidder 34 = .ok (.getfield 79, 3) := by decide +kernel
theorem d_Mod_bidder_37 : decode c_Mod_bidder 37 = .ok (.iconst 1, 1) := by decide +kernel
theorem d_Mod_bidder_38 : decode c_Mod_bidder 38 = .ok (.iadd, 1) := by decide +kernel
theorem d_Mod_bidder_39 : decode c_Mod_bidder 39 = .ok (.putfield 79, 3) := by decide +kernel
theorem d_Mod_bidder_42 : decode c_Mod_bidder 42 = .ok (.aload_n 0, 1) := by decide +kernel
theorem d_Mod_bidder_43 : decode c_Mod_bidder 43 = .ok (.iconst 0, 1) := by decide +kernel
theorem d_Mod_bidder_44 : decode c_Mod_bidder 44 = .ok (.putfield 87, 3) := by decide +kernel
theorem d_Mod_bidder_47 : decode c_Mod_bidder 47 = .ok (.aload_n 0, 1) := by decide +kernel
theorem d_Mod_bidder_48 : decode c_Mod_bidder 48 = .ok (.getfield 79, 3) := by decide +kernel
theorem d_Mod_bidder_51 : decode c_Mod_bidder 51 = .ok (.iconst 1, 1) := by decide +kernel
theorem d_Mod_bidder_52 : decode c_Mod_bidder 52 = .ok (.isub, 1) := by decide +kernel
theorem d_Mod_bidder_53 : decode c_Mod_bidder 53 = .ok (.ireturn, 1) := by decide +kernel
theorem d_Mod_time_0 : decode c_Mod_time 0 = .ok (.aload_n 0, 1) := by decide +kernel
theorem d_Mod_time_1 : decode c_Mod_time 1 = .ok (.iload_n 1, 1) := by decide +kernel
theorem d_Mod_time_2 : decode c_Mod_time 2 = .ok (.invokevirtual 91, 3) := by decide +kernel
theorem d_Mod_time_5 : decode c_Mod_time 5 = .ok (.ifCond .eq 26, 3) := by decide +kernel
theorem d_Mod_time_8 : decode c_Mod_time 8 = .ok (.aload_n 0, 1) := by decide +kernel
theorem d_Mod_time_9 : decode c_Mod_time 9 = .ok (.getfield 13, 3) := by decide +kernel
theorem d_Mod_time_12 : decode c_Mod_time 12 = .ok (.iload_n 1, 1) := by decide +kernel
theorem d_Mod_time_13 : decode c_Mod_time 13 = .ok (.baload, 1) := by decide +kernel
theorem d_Mod_time_14 : decode c_Mod_time 14 = .ok (.ifCond .ne 17, 3) := by decide +kernel
theorem d_Mod_time_17 : decode c_Mod_time 17 = .ok (.lload_n 2, 1) := by decide +kernel
theorem d_Mod_time_18 : decode c_Mod_time 18 = .ok (.lconst 0, 1) := by decide +kernel
theorem d_Mod_time_19 : decode c_Mod_time 19 = .ok (.lcmp, 1) := by decide +kernel
theorem d_Mod_time_20 : decode c_Mod_time 20 = .ok (.ifCond .lt 11, 3) := by decide +kernel
theorem d_Mod_time_23 : decode c_Mod_time 23 = .ok (.lload_n 2, 1) := by decide +kernel
theorem d_Mod_time_24 : decode c_Mod_time 24 = .ok (.ldc2_w 85, 3) := by decide +kernel
theorem d_Mod_time_27 : decode c_Mod_time 27 = .ok (.lcmp, 1) := by decide +kernel
theorem d_Mod_time_28 : decode c_Mod_time 28 = .ok (.ifCond .le 5, 3) := by decide +kernel
theorem d_Mod_time_31 : decode c_Mod_time 31 = .ok (.iconst 0, 1) := by decide +kernel
theorem d_Mod_time_32 : decode c_Mod_time 32 = .ok (.ireturn, 1) := by decide +kernel
theorem d_Mod_time_33 : decode c_Mod_time 33 = .ok (.aload_n 0, 1) := by decide +kernel
theorem d_Mod_time_34 : decode c_Mod_time 34 = .ok (.getfield 16, 3) := by decide +kernel
theorem d_Mod_time_37 : decode c_Mod_time 37 = .ok (.iload_n 1, 1) := by decide +kernel
theorem d_Mod_time_38 : decode c_Mod_time 38 = .ok (.lload_n 2, 1) := by decide +kernel
theorem d_Mod_time_39 : decode c_Mod_time 39 = .ok (.lastore, 1) := by decide +kernel
theorem d_Mod_time_40 : decode c_Mod_time 40 = .ok (.aload_n 0, 1) := by decide +kernel
theorem d_Mod_time_41 : decode c_Mod_time 41 = .ok (.iconst 0, 1) := by decide +kernel
theorem d_Mod_time_42 : decode c_Mod_time 42 = .ok (.putfield 87, 3) := by decide +kernel
theorem d_Mod_time_45 : decode c_Mod_time 45 = .ok (.iconst 1, 1) := by decide +kernel
theorem d_Mod_time_46 : decode c_Mod_time 46 = .ok (.ireturn, 1) := by decide +kernel
theorem d_Mod_isBidder_0 : decode c_Mod_isBidder 0 = .ok (.iload_n 1, 1) := by decide +kernel
theorem d_Mod_isBidder_1 : decode c_Mod_isBidder 1 = .ok (.ifCond .lt 15, 3) := by decide +kernel
theorem d_Mod_isBidder_4 : decode c_Mod_isBidder 4 = .ok (.iload_n 1, 1) := by decide +kernel
theorem d_Mod_isBidder_5 : decode c_Mod_isBidder 5 = .ok (.aload_n 0, 1) := by decide +kernel
theorem d_Mod_isBidder_6 : decode c_Mod_isBidder 6 = .ok (.getfield 79, 3) := by decide +kernel
theorem d_Mod_isBidder_9 : decode c_Mod_isBidder 9 = .ok (.if_icmp .ge 7, 3) := by decide +kernel
theorem d_Mod_isBidder_12 : decode c_Mod_isBidder 12 = .ok (.iconst 1, 1) := by decide +kernel
theorem d_Mod_isBidder_13 : decode c_Mod_isBidder 13 = .ok (.goto 4, 3) := by decide +kernel
theorem d_Mod_isBidder_16 : decode c_Mod_isBidder 16 = .ok (.iconst 0, 1) := by decide +kernel
theorem d_Mod_isBidder_17 : decode c_Mod_isBidder 17 = .ok (.ireturn, 1) := by decide +kernel
theorem d_Mod_most_0 : decode c_Mod_most 0 = .ok (.aload_n 0, 1) := by decide +kernel
theorem d_Mod_most_1 : decode c_Mod_most 1 = .ok (.iload_n 1, 1) := by decide +kernel
theorem d_Mod_most_2 : decode c_Mod_most 2 = .ok (.invokevirtual 91, 3) := by decide +kernel
theorem d_Mod_most_5 : decode c_Mod_most 5 = .ok (.ifCond .eq 22, 3) := by decide +kernel
theorem d_Mod_most_8 : decode c_Mod_most 8 = .ok (.aload_n 0, 1) := by decide +kernel
theorem d_Mod_most_9 : decode c_Mod_most 9 = .ok (.getfield 13, 3) := by decide +kernel
theorem d_Mod_most_12 : decode c_Mod_most 12 = .ok (.iload_n 1, 1) := by decide +kernel
theorem d_Mod_most_13 : decode c_Mod_most 13 = .ok (.baload, 1) := by decide +kernel
theorem d_Mod_most_14 : decode c_Mod_most 14 = .ok (.ifCond .ne 13, 3) := by decide +kernel
theorem d_Mod_most_17 : decode c_Mod_most 17 = .ok (.iload_n 2, 1) := by decide +kernel
theorem d_Mod_most_18 : decode c_Mod_most 18 = .ok (.ifCond .lt 9, 3) := by decide +kernel
theorem d_Mod_most_21 : decode c_Mod_most 21 = .ok (.iload_n 2, 1) := by decide +kernel
theorem d_Mod_most_22 : decode c_Mod_most 22 = .ok (.bipush 8, 2) := by decide +kernel
theorem d_Mod_most_24 : decode c_Mod_most 24 = .ok (.if_icmp .le 5, 3) := by decide +kernel
theorem d_Mod_most_27 : decode c_Mod_most 27 = .ok (.iconst 0, 1) := by decide +kernel
theorem d_Mod_most_28 : decode c_Mod_most 28 = .ok (.ireturn, 1) := by decide +kernel
theorem d_Mod_most_29 : decode c_Mod_most 29 = .ok (.aload_n 0, 1) := by decide +kernel
theorem d_Mod_most_30 : decode c_Mod_most 30 = .ok (.getfield 20, 3) := by decide +kernel
theorem d_Mod_most_33 : decode c_Mod_most 33 = .ok (.iload_n 1, 1) := by decide +kernel
theorem d_Mod_most_34 : decode c_Mod_most 34 = .ok (.iload_n 2, 1) := by decide +kernel
theorem d_Mod_most_35 : decode c_Mod_most 35 = .ok (.iastore, 1) := by decide +kernel
theorem d_Mod_most_36 : decode c_Mod_most 36 = .ok (.aload_n 0, 1) := by decide +kernel
theorem d_Mod_most_37 : decode c_Mod_most 37 = .ok (.iconst 0, 1) := by decide +kernel
theorem d_Mod_most_38 : decode c_Mod_most 38 = .ok (.putfield 87, 3) := by decide +kernel
theorem d_Mod_most_41 : decode c_Mod_most 41 = .ok (.iconst 1, 1) := by decide +kernel
theorem d_Mod_most_42 : decode c_Mod_most 42 = .ok (.ireturn, 1) := by decide +kernel
theorem d_Mod_bid_0 : decode c_Mod_bid 0 = .ok (.aload_n 0, 1) := by decide +kernel
theorem d_Mod_bid_1 : decode c_Mod_bid 1 = .ok (.getfield 82, 3) := by decide +kernel
theorem d_Mod_bid_4 : decode c_Mod_bid 4 = .ok (.bipush 12, 2) := by decide +kernel
theorem d_Mod_bid_6 : decode c_Mod_bid 6 = .ok (.if_icmp .eq 34, 3) := by decide +kernel
theorem d_Mod_bid_9 : decode c_Mod_bid 9 = .ok (.aload_n 0, 1) := by decide +kernel
theorem d_Mod_bid_10 : decode c_Mod_bid 10 = .ok (.iload_n 1, 1) := by decide +kernel
theorem d_Mod_bid_11 : decode c_Mod_bid 11 = .ok (.invokevirtual 91, 3) := by decide +kernel
theorem d_Mod_bid_14 : decode c_Mod_bid 14 = .ok (.ifCond .eq 26, 3) := by decide +kernel
theorem d_Mod_bid_17 : decode c_Mod_bid 17 = .ok (.aload_n 0, 1) := by decide +kernel
theorem d_Mod_bid_18 : decode c_Mod_bid 18 = .ok (.getfield 13, 3) := by decide +kernel
theorem d_Mod_bid_21 : decode c_Mod_bid 21 = .ok (.iload_n 1, 1) := by decide +kernel
theorem d_Mod_bid_22 : decode c_Mod_bid 22 = .ok (.baload, 1) := by decide +kernel
theorem d_Mod_bid_23 : decode c_Mod_bid 23 = .ok (.ifCond .ne 17, 3) := by decide +kernel
theorem d_Mod_bid_26 : decode c_Mod_bid 26 = .ok (.lload_n 2, 1) := by decide +kernel
theorem d_Mod_bid_27 : decode c_Mod_bid 27 = .ok (.lconst 0, 1) := by decide +kernel
theorem d_Mod_bid_28 : decode c_Mod_bid 28 = .ok (.lcmp, 1) := by decide +kernel
theorem d_Mod_bid_29 : decode c_Mod_bid 29 = .ok (.ifCond .lt 11, 3) := by decide +kernel
theorem d_Mod_bid_32 : decode c_Mod_bid 32 = .ok (.lload_n 2, 1) := by decide +kernel
theorem d_Mod_bid_33 : decode c_Mod_bid 33 = .ok (.ldc2_w 95, 3) := by decide +kernel
theorem d_Mod_bid_36 : decode c_Mod_bid 36 = .ok (.lcmp, 1) := by decide +kernel
theorem d_Mod_bid_37 : decode c_Mod_bid 37 = .ok (.ifCond .le 5, 3) := by decide +kernel
theorem d_Mod_bid_40 : decode c_Mod_bid 40 = .ok (.iconst (-1), 1) := by decide +kernel
theorem d_Mod_bid_41 : decode c_Mod_bid 41 = .ok (.ireturn, 1) := by decide +kernel
theorem d_Mod_bid_42 : decode c_Mod_bid 42 = .ok (.aload_n 0, 1) := by decide +kernel
theorem d_Mod_bid_43 : decode c_Mod_bid 43 = .ok (.getfield 30, 3) := by decide +kernel
theorem d_Mod_bid_46 : decode c_Mod_bid 46 = .ok (.aload_n 0, 1) := by decide +kernel
theorem d_Mod_bid_47 : decode c_Mod_bid 47 = .ok (.getfield 82, 3) := by decide +kernel
theorem d_Mod_bid_50 : decode c_Mod_bid 50 = .ok (.iload_n 1, 1) := by decide +kernel
theorem d_Mod_bid_51 : decode c_Mod_bid 51 = .ok (.iastore, 1) := by decide +kernel
theorem d_Mod_bid_52 : decode c_Mod_bid 52 = .ok (.aload_n 0, 1) := by decide +kernel
theorem d_Mod_bid_53 : decode c_Mod_bid 53 = .ok (.getfield 33, 3) := by decide +kernel
theorem d_Mod_bid_56 : decode c_Mod_bid 56 = .ok (.aload_n 0, 1) := by decide +kernel
theorem d_Mod_bid_57 : decode c_Mod_bid 57 = .ok (.getfield 82, 3) := by decide +kernel
theorem d_Mod_bid_60 : decode c_Mod_bid 60 = .ok (.lload_n 2, 1) := by decide +kernel
theorem d_Mod_bid_61 : decode c_Mod_bid 61 = .ok (.lastore, 1) := by decide +kernel
theorem d_Mod_bid_62 : decode c_Mod_bid 62 = .ok (.aload_n 0, 1) := by decide +kernel
theorem d_Mod_bid_63 : decode c_Mod_bid 63 = .ok (.dup, 1) := by decide +kernel
theorem d_Mod_bid_64 : decode c_Mod_bid 64 = .ok (.getfield 82, 3) := by decide +kernel
theorem d_Mod_bid_67 : decode c_Mod_bid 67 = .ok (.iconst 1, 1) := by decide +kernel
theorem d_Mod_bid_68 : decode c_Mod_bid 68 = .ok (.iadd, 1) := by decide +kernel
theorem d_Mod_bid_69 : decode c_Mod_bid 69 = .ok (.putfield 82, 3) := by decide +kernel
theorem d_Mod_bid_72 : decode c_Mod_bid 72 = .ok (.aload_n 0, 1) := by decide +kernel
theorem d_Mod_bid_73 : decode c_Mod_bid 73 = .ok (.iconst 0, 1) := by decide +kernel
theorem d_Mod_bid_74 : decode c_Mod_bid 74 = .ok (.putfield 87, 3) := by decide +kernel
theorem d_Mod_bid_77 : decode c_Mod_bid 77 = .ok (.aload_n 0, 1) := by decide +kernel
theorem d_Mod_bid_78 : decode c_Mod_bid 78 = .ok (.getfield 82, 3) := by decide +kernel
theorem d_Mod_bid_81 : decode c_Mod_bid 81 = .ok (.iconst 1, 1) := by decide +kernel
theorem d_Mod_bid_82 : decode c_Mod_bid 82 = .ok (.isub, 1) := by decide +kernel
theorem d_Mod_bid_83 : decode c_Mod_bid 83 = .ok (.ireturn, 1) := by decide +kernel
theorem d_Mod_on_0 : decode c_Mod_on 0 = .ok (.aload_n 0, 1) := by decide +kernel
theorem d_Mod_on_1 : decode c_Mod_on 1 = .ok (.iload_n 1, 1) := by decide +kernel
theorem d_Mod_on_2 : decode c_Mod_on 2 = .ok (.invokevirtual 97, 3) := by decide +kernel
theorem d_Mod_on_5 : decode c_Mod_on 5 = .ok (.ifCond .eq 39, 3) := by decide +kernel
theorem d_Mod_on_8 : decode c_Mod_on 8 = .ok (.aload_n 0, 1) := by decide +kernel
theorem d_Mod_on_9 : decode c_Mod_on 9 = .ok (.iload_n 2, 1) := by decide +kernel
theorem d_Mod_on_10 : decode c_Mod_on 10 = .ok (.invokevirtual 100, 3) := by decide +kernel
theorem d_Mod_on_13 : decode c_Mod_on 13 = .ok (.ifCond .eq 31, 3) := by decide +kernel
theorem d_Mod_on_16 : decode c_Mod_on 16 = .ok (.aload_n 0, 1) := by decide +kernel
theorem d_Mod_on_17 : decode c_Mod_on 17 = .ok (.getfield 13, 3) := by decide +kernel
theorem d_Mod_on_20 : decode c_Mod_on 20 = .ok (.aload_n 0, 1) := by decide +kernel
theorem d_Mod_on_21 : decode c_Mod_on 21 = .ok (.getfield 30, 3) := by decide +kernel
theorem d_Mod_on_24 : decode c_Mod_on 24 = .ok (.iload_n 1, 1) := by decide +kernel
theorem d_Mod_on_25 : decode c_Mod_on 25 = .ok (.iaload, 1) := by decide +kernel
theorem d_Mod_on_26 : decode c_Mod_on 26 = .ok (.baload, 1) := by decide +kernel
theorem d_Mod_on_27 : decode c_Mod_on 27 = .ok (.ifCond .ne 17, 3) := by decide +kernel
theorem d_Mod_on_30 : decode c_Mod_on 30 = .ok (.aload_n 0, 1) := by decide +kernel
theorem d_Mod_on_31 : decode c_Mod_on 31 = .ok (.getfield 36, 3) := by decide +kernel
theorem d_Mod_on_34 : decode c_Mod_on 34 = .ok (.bipush 8, 2) := by decide +kernel
theorem d_Mod_on_36 : decode c_Mod_on 36 = .ok (.iload_n 1, 1) := by decide +kernel
theorem d_Mod_on_37 : decode c_Mod_on 37 = .ok (.imul, 1) := by decide +kernel
theorem d_Mod_on_38 : decode c_Mod_on 38 = .ok (.iload_n 2, 1) := by decide +kernel
theorem d_Mod_on_39 : decode c_Mod_on 39 = .ok (.iadd, 1) := by decide +kernel
theorem d_Mod_on_40 : decode c_Mod_on 40 = .ok (.baload, 1) := by decide +kernel
theorem d_Mod_on_41 : decode c_Mod_on 41 = .ok (.ifCond .eq 5, 3) := by decide +kernel
theorem d_Mod_on_44 : decode c_Mod_on 44 = .ok (.iconst 0, 1) := by decide +kernel
theorem d_Mod_on_45 : decode c_Mod_on 45 = .ok (.ireturn, 1) := by decide +kernel
theorem d_Mod_on_46 : decode c_Mod_on 46 = .ok (.aload_n 0, 1) := by decide +kernel
theorem d_Mod_on_47 : decode c_Mod_on 47 = .ok (.getfield 36, 3) := by decide +kernel
theorem d_Mod_on_50 : decode c_Mod_on 50 = .ok (.bipush 8, 2) := by decide +kernel
theorem d_Mod_on_52 : decode c_Mod_on 52 = .ok (.iload_n 1, 1) := by decide +kernel
theorem d_Mod_on_53 : decode c_Mod_on 53 = .ok (.imul, 1) := by decide +kernel
theorem d_Mod_on_54 : decode c_Mod_on 54 = .ok (.iload_n 2, 1) := by decide +kernel
theorem d_Mod_on_55 : decode c_Mod_on 55 = .ok (.iadd, 1) := by decide +kernel
theorem d_Mod_on_56 : decode c_Mod_on 56 = .ok (.iconst 1, 1) := by decide +kernel
theorem d_Mod_on_57 : decode c_Mod_on 57 = .ok (.bastore, 1) := by decide +kernel
theorem d_Mod_on_58 : decode c_Mod_on 58 = .ok (.aload_n 0, 1) := by decide +kernel
theorem d_Mod_on_59 : decode c_Mod_on 59 = .ok (.iconst 0, 1) := by decide +kernel
theorem d_Mod_on_60 : decode c_Mod_on 60 = .ok (.putfield 87, 3) := by decide +kernel
theorem d_Mod_on_63 : decode c_Mod_on 63 = .ok (.iconst 1, 1) := by decide +kernel
theorem d_Mod_on_64 : decode c_Mod_on 64 = .ok (.ireturn, 1) := by decide +kernel
theorem d_Mod_isBid_0 : decode c_Mod_isBid 0 = .ok (.iload_n 1, 1) := by decide +kernel
theorem d_Mod_isBid_1 : decode c_Mod_isBid 1 = .ok (.ifCond .lt 15, 3) := by decide +kernel
theorem d_Mod_isBid_4 : decode c_Mod_isBid 4 = .ok (.iload_n 1, 1) := by decide +kernel
theorem d_Mod_isBid_5 : decode c_Mod_isBid 5 = .ok (.aload_n 0, 1) := by decide +kernel
theorem d_Mod_isBid_6 : decode c_Mod_isBid 6 = .ok (.getfield 82, 3) := by decide +kernel
theorem d_Mod_isBid_9 : decode c_Mod_isBid 9 = .ok (.if_icmp .ge 7, 3) := by decide +kernel
theorem d_Mod_isBid_12 : decode c_Mod_isBid 12 = .ok (.iconst 1, 1) := by decide +kernel
theorem d_Mod_isBid_13 : decode c_Mod_isBid 13 = .ok (.goto 4, 3) := by decide +kernel
theorem d_Mod_isBid_16 : decode c_Mod_isBid 16 = .ok (.iconst 0, 1) := by decide +kernel
theorem d_Mod_isBid_17 : decode c_Mod_isBid 17 = .ok (.ireturn, 1) := by decide +kernel
theorem d_Mod_isLot_0 : decode c_Mod_isLot 0 = .ok (.iload_n 1, 1) := by decide +kernel
theorem d_Mod_isLot_1 : decode c_Mod_isLot 1 = .ok (.ifCond .lt 15, 3) := by decide +kernel
theorem d_Mod_isLot_4 : decode c_Mod_isLot 4 = .ok (.iload_n 1, 1) := by decide +kernel
theorem d_Mod_isLot_5 : decode c_Mod_isLot 5 = .ok (.aload_n 0, 1) := by decide +kernel
theorem d_Mod_isLot_6 : decode c_Mod_isLot 6 = .ok (.getfield 75, 3) := by decide +kernel
theorem d_Mod_isLot_9 : decode c_Mod_isLot 9 = .ok (.if_icmp .ge 7, 3) := by decide +kernel
theorem d_Mod_isLot_12 : decode c_Mod_isLot 12 = .ok (.iconst 1, 1) := by decide +kernel
theorem d_Mod_isLot_13 : decode c_Mod_isLot 13 = .ok (.goto 4, 3) := by decide +kernel
theorem d_Mod_isLot_16 : decode c_Mod_isLot 16 = .ok (.iconst 0, 1) := by decide +kernel
theorem d_Mod_isLot_17 : decode c_Mod_isLot 17 = .ok (.ireturn, 1) := by decide +kernel
theorem d_Mod_seal_0 : decode c_Mod_seal 0 = .ok (.aload_n 0, 1) := by decide +kernel
theorem d_Mod_seal_1 : decode c_Mod_seal 1 = .ok (.iload_n 1, 1) := by decide +kernel
theorem d_Mod_seal_2 : decode c_Mod_seal 2 = .ok (.invokevirtual 91, 3) := by decide +kernel
theorem d_Mod_seal_5 : decode c_Mod_seal 5 = .ok (.ifCond .eq 47, 3) := by decide +kernel
theorem d_Mod_seal_8 : decode c_Mod_seal 8 = .ok (.aload_n 0, 1) := by decide +kernel
theorem d_Mod_seal_9 : decode c_Mod_seal 9 = .ok (.getfield 13, 3) := by decide +kernel
theorem d_Mod_seal_12 : decode c_Mod_seal 12 = .ok (.iload_n 1, 1) := by decide +kernel
theorem d_Mod_seal_13 : decode c_Mod_seal 13 = .ok (.baload, 1) := by decide +kernel
theorem d_Mod_seal_14 : decode c_Mod_seal 14 = .ok (.ifCond .ne 38, 3) := by decide +kernel
theorem d_Mod_seal_17 : decode c_Mod_seal 17 = .ok (.iload_n 2, 1) := by decide +kernel
theorem d_Mod_seal_18 : decode c_Mod_seal 18 = .ok (.ifCond .lt 34, 3) := by decide +kernel
theorem d_Mod_seal_21 : decode c_Mod_seal 21 = .ok (.iload_n 2, 1) := by decide +kernel
theorem d_Mod_seal_22 : decode c_Mod_seal 22 = .ok (.bipush 8, 2) := by decide +kernel
theorem d_Mod_seal_24 : decode c_Mod_seal 24 = .ok (.if_icmp .ge 28, 3) := by decide +kernel
theorem d_Mod_seal_27 : decode c_Mod_seal 27 = .ok (.iload_n 3, 1) := by decide +kernel
theorem d_Mod_seal_28 : decode c_Mod_seal 28 = .ok (.ifCond .lt 24, 3) := by decide +kernel
theorem d_Mod_seal_31 : decode c_Mod_seal 31 = .ok (.iload_n 3, 1) := by decide +kernel
theorem d_Mod_seal_32 : decode c_Mod_seal 32 = .ok (.sipush 255, 3) := by decide +kernel
theorem d_Mod_seal_35 : decode c_Mod_seal 35 = .ok (.if_icmp .gt 17, 3) := by decide +kernel
theorem d_Mod_seal_38 : decode c_Mod_seal 38 = .ok (.aload_n 0, 1) := by decide +kernel
theorem d_Mod_seal_39 : decode c_Mod_seal 39 = .ok (.getfield 27, 3) := by decide +kernel
theorem d_Mod_seal_42 : decode c_Mod_seal 42 = .ok (.bipush 8, 2) := by decide +kernel
theorem d_Mod_seal_44 : decode c_Mod_seal 44 = .ok (.iload_n 1, 1) := by decide +kernel
theorem d_Mod_seal_45 : decode c_Mod_seal 45 = .ok (.imul, 1) := by decide +kernel
theorem d_Mod_seal_46 : decode c_Mod_seal 46 = .ok (.iload_n 2, 1) := by decide +kernel
theorem d_Mod_seal_47 : decode c_Mod_seal 47 = .ok (.iadd, 1) := by decide +kernel
theorem d_Mod_seal_48 : decode c_Mod_seal 48 = .ok (.baload, 1) := by decide +kernel
theorem d_Mod_seal_49 : decode c_Mod_seal 49 = .ok (.ifCond .eq 5, 3) := by decide +kernel
theorem d_Mod_seal_52 : decode c_Mod_seal 52 = .ok (.iconst (-1), 1) := by decide +kernel
theorem d_Mod_seal_53 : decode c_Mod_seal 53 = .ok (.ireturn, 1) := by decide +kernel
theorem d_Mod_seal_54 : decode c_Mod_seal 54 = .ok (.aload_n 0, 1) := by decide +kernel
theorem d_Mod_seal_55 : decode c_Mod_seal 55 = .ok (.getfield 24, 3) := by decide +kernel
theorem d_Mod_seal_58 : decode c_Mod_seal 58 = .ok (.bipush 8, 2) := by decide +kernel
theorem d_Mod_seal_60 : decode c_Mod_seal 60 = .ok (.iload_n 1, 1) := by decide +kernel
theorem d_Mod_seal_61 : decode c_Mod_seal 61 = .ok (.imul, 1) := by decide +kernel
theorem d_Mod_seal_62 : decode c_Mod_seal 62 = .ok (.iload_n 2, 1) := by decide +kernel
theorem d_Mod_seal_63 : decode c_Mod_seal 63 = .ok (.iadd, 1) := by decide +kernel
theorem d_Mod_seal_64 : decode c_Mod_seal 64 = .ok (.iload_n 3, 1) := by decide +kernel
theorem d_Mod_seal_65 : decode c_Mod_seal 65 = .ok (.iastore, 1) := by decide +kernel
theorem d_Mod_seal_66 : decode c_Mod_seal 66 = .ok (.aload_n 0, 1) := by decide +kernel
theorem d_Mod_seal_67 : decode c_Mod_seal 67 = .ok (.getfield 27, 3) := by decide +kernel
theorem d_Mod_seal_70 : decode c_Mod_seal 70 = .ok (.bipush 8, 2) := by decide +kernel
theorem d_Mod_seal_72 : decode c_Mod_seal 72 = .ok (.iload_n 1, 1) := by decide +kernel
theorem d_Mod_seal_73 : decode c_Mod_seal 73 = .ok (.imul, 1) := by decide +kernel
theorem d_Mod_seal_74 : decode c_Mod_seal 74 = .ok (.iload_n 2, 1) := by decide +kernel
theorem d_Mod_seal_75 : decode c_Mod_seal 75 = .ok (.iadd, 1) := by decide +kernel
theorem d_Mod_seal_76 : decode c_Mod_seal 76 = .ok (.iconst 1, 1) := by decide +kernel
theorem d_Mod_seal_77 : decode c_Mod_seal 77 = .ok (.bastore, 1) := by decide +kernel
theorem d_Mod_seal_78 : decode c_Mod_seal 78 = .ok (.aload_n 0, 1) := by decide +kernel
theorem d_Mod_seal_79 : decode c_Mod_seal 79 = .ok (.iconst 0, 1) := by decide +kernel
theorem d_Mod_seal_80 : decode c_Mod_seal 80 = .ok (.putfield 87, 3) := by decide +kernel
theorem d_Mod_seal_83 : decode c_Mod_seal 83 = .ok (.aload_n 0, 1) := by decide +kernel
theorem d_Mod_seal_84 : decode c_Mod_seal 84 = .ok (.iload_n 1, 1) := by decide +kernel
theorem d_Mod_seal_85 : decode c_Mod_seal 85 = .ok (.invokevirtual 103, 3) := by decide +kernel
theorem d_Mod_seal_88 : decode c_Mod_seal 88 = .ok (.ireturn, 1) := by decide +kernel
theorem d_Mod_told_0 : decode c_Mod_told 0 = .ok (.iconst 0, 1) := by decide +kernel
theorem d_Mod_told_1 : decode c_Mod_told 1 = .ok (.istore_n 2, 1) := by decide +kernel
theorem d_Mod_told_2 : decode c_Mod_told 2 = .ok (.iconst 0, 1) := by decide +kernel
theorem d_Mod_told_3 : decode c_Mod_told 3 = .ok (.istore_n 3, 1) := by decide +kernel
theorem d_Mod_told_4 : decode c_Mod_told 4 = .ok (.iload_n 3, 1) := by decide +kernel
theorem d_Mod_told_5 : decode c_Mod_told 5 = .ok (.bipush 8, 2) := by decide +kernel
theorem d_Mod_told_7 : decode c_Mod_told 7 = .ok (.if_icmp .ge 31, 3) := by decide +kernel
theorem d_Mod_told_10 : decode c_Mod_told 10 = .ok (.iload_n 2, 1) := by decide +kernel
theorem d_Mod_told_11 : decode c_Mod_told 11 = .ok (.aload_n 0, 1) := by decide +kernel
theorem d_Mod_told_12 : decode c_Mod_told 12 = .ok (.getfield 27, 3) := by decide +kernel
theorem d_Mod_told_15 : decode c_Mod_told 15 = .ok (.bipush 8, 2) := by decide +kernel
theorem d_Mod_told_17 : decode c_Mod_told 17 = .ok (.iload_n 1, 1) := by decide +kernel
theorem d_Mod_told_18 : decode c_Mod_told 18 = .ok (.imul, 1) := by decide +kernel
theorem d_Mod_told_19 : decode c_Mod_told 19 = .ok (.iload_n 3, 1) := by decide +kernel
theorem d_Mod_told_20 : decode c_Mod_told 20 = .ok (.iadd, 1) := by decide +kernel
theorem d_Mod_told_21 : decode c_Mod_told 21 = .ok (.baload, 1) := by decide +kernel
theorem d_Mod_told_22 : decode c_Mod_told 22 = .ok (.ifCond .eq 7, 3) := by decide +kernel
theorem d_Mod_told_25 : decode c_Mod_told 25 = .ok (.iconst 1, 1) := by decide +kernel
theorem d_Mod_told_26 : decode c_Mod_told 26 = .ok (.goto 4, 3) := by decide +kernel
theorem d_Mod_told_29 : decode c_Mod_told 29 = .ok (.iconst 0, 1) := by decide +kernel
theorem d_Mod_told_30 : decode c_Mod_told 30 = .ok (.iadd, 1) := by decide +kernel
theorem d_Mod_told_31 : decode c_Mod_told 31 = .ok (.istore_n 2, 1) := by decide +kernel
theorem d_Mod_told_32 : decode c_Mod_told 32 = .ok (.iinc 3 1, 3) := by decide +kernel
theorem d_Mod_told_35 : decode c_Mod_told 35 = .ok (.goto (-31), 3) := by decide +kernel
theorem d_Mod_told_38 : decode c_Mod_told 38 = .ok (.iload_n 2, 1) := by decide +kernel
theorem d_Mod_told_39 : decode c_Mod_told 39 = .ok (.ireturn, 1) := by decide +kernel
theorem d_Mod_digest_0 : decode c_Mod_digest 0 = .ok (.aload_n 0, 1) := by decide +kernel
theorem d_Mod_digest_1 : decode c_Mod_digest 1 = .ok (.iload_n 1, 1) := by decide +kernel
theorem d_Mod_digest_2 : decode c_Mod_digest 2 = .ok (.invokevirtual 91, 3) := by decide +kernel
theorem d_Mod_digest_5 : decode c_Mod_digest 5 = .ok (.ifCond .eq 15, 3) := by decide +kernel
theorem d_Mod_digest_8 : decode c_Mod_digest 8 = .ok (.iload 4, 2) := by decide +kernel
theorem d_Mod_digest_10 : decode c_Mod_digest 10 = .ok (.ifCond .lt 10, 3) := by decide +kernel
theorem d_Mod_digest_13 : decode c_Mod_digest 13 = .ok (.iload 4, 2) := by decide +kernel
theorem d_Mod_digest_15 : decode c_Mod_digest 15 = .ok (.bipush 8, 2) := by decide +kernel
theorem d_Mod_digest_17 : decode c_Mod_digest 17 = .ok (.if_icmp .lt 5, 3) := by decide +kernel
theorem d_Mod_digest_20 : decode c_Mod_digest 20 = .ok (.iconst (-1), 1) := by decide +kernel
theorem d_Mod_digest_21 : decode c_Mod_digest 21 = .ok (.ireturn, 1) := by decide +kernel
theorem d_Mod_digest_22 : decode c_Mod_digest 22 = .ok (.lload_n 2, 1) := by decide +kernel
theorem d_Mod_digest_23 : decode c_Mod_digest 23 = .ok (.lstore 5, 2) := by decide +kernel
theorem d_Mod_digest_25 : decode c_Mod_digest 25 = .ok (.iconst 0, 1) := by decide +kernel
theorem d_Mod_digest_26 : decode c_Mod_digest 26 = .ok (.istore 7, 2) := by decide +kernel
theorem d_Mod_digest_28 : decode c_Mod_digest 28 = .ok (.iload 7, 2) := by decide +kernel
theorem d_Mod_digest_30 : decode c_Mod_digest 30 = .ok (.aload_n 0, 1) := by decide +kernel
theorem d_Mod_digest_31 : decode c_Mod_digest 31 = .ok (.getfield 82, 3) := by decide +kernel
theorem d_Mod_digest_34 : decode c_Mod_digest 34 = .ok (.if_icmp .ge 83, 3) := by decide +kernel
theorem d_Mod_digest_37 : decode c_Mod_digest 37 = .ok (.aload_n 0, 1) := by decide +kernel
theorem d_Mod_digest_38 : decode c_Mod_digest 38 = .ok (.getfield 30, 3) := by decide +kernel
theorem d_Mod_digest_41 : decode c_Mod_digest 41 = .ok (.iload 7, 2) := by decide +kernel
theorem d_Mod_digest_43 : decode c_Mod_digest 43 = .ok (.iaload, 1) := by decide +kernel
theorem d_Mod_digest_44 : decode c_Mod_digest 44 = .ok (.iload_n 1, 1) := by decide +kernel
theorem d_Mod_digest_45 : decode c_Mod_digest 45 = .ok (.if_icmp .ne 66, 3) := by decide +kernel
theorem d_Mod_digest_48 : decode c_Mod_digest 48 = .ok (.lload 5, 2) := by decide +kernel
theorem d_Mod_digest_50 : decode c_Mod_digest 50 = .ok (.aload_n 0, 1) := by decide +kernel
theorem d_Mod_digest_51 : decode c_Mod_digest 51 = .ok (.getfield 33, 3) := by decide +kernel
theorem d_Mod_digest_54 : decode c_Mod_digest 54 = .ok (.iload 7, 2) := by decide +kernel
theorem d_Mod_digest_56 : decode c_Mod_digest 56 = .ok (.laload, 1) := by decide +kernel
theorem d_Mod_digest_57 : decode c_Mod_digest 57 = .ok (.ladd, 1) := by decide +kernel
theorem d_Mod_digest_58 : decode c_Mod_digest 58 = .ok (.lconst 1, 1) := by decide +kernel
theorem d_Mod_digest_59 : decode c_Mod_digest 59 = .ok (.ladd, 1) := by decide +kernel
theorem d_Mod_digest_60 : decode c_Mod_digest 60 = .ok (.lstore 5, 2) := by decide +kernel
theorem d_Mod_digest_62 : decode c_Mod_digest 62 = .ok (.lload 5, 2) := by decide +kernel
theorem d_Mod_digest_64 : decode c_Mod_digest 64 = .ok (.ldc2_w 109, 3) := by decide +kernel
theorem d_Mod_digest_67 : decode c_Mod_digest 67 = .ok (.lmul, 1) := by decide +kernel
theorem d_Mod_digest_68 : decode c_Mod_digest 68 = .ok (.lstore 5, 2) := by decide +kernel
theorem d_Mod_digest_70 : decode c_Mod_digest 70 = .ok (.lload 5, 2) := by decide +kernel
theorem d_Mod_digest_72 : decode c_Mod_digest 72 = .ok (.lload 5, 2) := by decide +kernel
theorem d_Mod_digest_74 : decode c_Mod_digest 74 = .ok (.bipush 29, 2) := by decide +kernel
theorem d_Mod_digest_76 : decode c_Mod_digest 76 = .ok (.lushr, 1) := by decide +kernel
theorem d_Mod_digest_77 : decode c_Mod_digest 77 = .ok (.lxor, 1) := by decide +kernel
theorem d_Mod_digest_78 : decode c_Mod_digest 78 = .ok (.lstore 5, 2) := by decide +kernel
theorem d_Mod_digest_80 : decode c_Mod_digest 80 = .ok (.lload 5, 2) := by decide +kernel
theorem d_Mod_digest_82 : decode c_Mod_digest 82 = .ok (.aload_n 0, 1) := by decide +kernel
theorem d_Mod_digest_83 : decode c_Mod_digest 83 = .ok (.iload 7, 2) := by decide +kernel
theorem d_Mod_digest_85 : decode c_Mod_digest 85 = .ok (.invokevirtual 111, 3) := by decide +kernel
theorem d_Mod_digest_88 : decode c_Mod_digest 88 = .ok (.ladd, 1) := by decide +kernel
theorem d_Mod_digest_89 : decode c_Mod_digest 89 = .ok (.lconst 1, 1) := by decide +kernel
theorem d_Mod_digest_90 : decode c_Mod_digest 90 = .ok (.ladd, 1) := by decide +kernel
theorem d_Mod_digest_91 : decode c_Mod_digest 91 = .ok (.lstore 5, 2) := by decide +kernel
theorem d_Mod_digest_93 : decode c_Mod_digest 93 = .ok (.lload 5, 2) := by decide +kernel
theorem d_Mod_digest_95 : decode c_Mod_digest 95 = .ok (.ldc2_w 115, 3) := by decide +kernel
theorem d_Mod_digest_98 : decode c_Mod_digest 98 = .ok (.lmul, 1) := by decide +kernel
theorem d_Mod_digest_99 : decode c_Mod_digest 99 = .ok (.lstore 5, 2) := by decide +kernel
theorem d_Mod_digest_101 : decode c_Mod_digest 101 = .ok (.lload 5, 2) := by decide +kernel
theorem d_Mod_digest_103 : decode c_Mod_digest 103 = .ok (.lload 5, 2) := by decide +kernel
theorem d_Mod_digest_105 : decode c_Mod_digest 105 = .ok (.bipush 31, 2) := by decide +kernel
theorem d_Mod_digest_107 : decode c_Mod_digest 107 = .ok (.lushr, 1) := by decide +kernel
theorem d_Mod_digest_108 : decode c_Mod_digest 108 = .ok (.lxor, 1) := by decide +kernel
theorem d_Mod_digest_109 : decode c_Mod_digest 109 = .ok (.lstore 5, 2) := by decide +kernel
theorem d_Mod_digest_111 : decode c_Mod_digest 111 = .ok (.iinc 7 1, 3) := by decide +kernel
theorem d_Mod_digest_114 : decode c_Mod_digest 114 = .ok (.goto (-86), 3) := by decide +kernel
theorem d_Mod_digest_117 : decode c_Mod_digest 117 = .ok (.lload 5, 2) := by decide +kernel
theorem d_Mod_digest_119 : decode c_Mod_digest 119 = .ok (.bipush 56, 2) := by decide +kernel
theorem d_Mod_digest_121 : decode c_Mod_digest 121 = .ok (.bipush 8, 2) := by decide +kernel
theorem d_Mod_digest_123 : decode c_Mod_digest 123 = .ok (.iload 4, 2) := by decide +kernel
theorem d_Mod_digest_125 : decode c_Mod_digest 125 = .ok (.imul, 1) := by decide +kernel
theorem d_Mod_digest_126 : decode c_Mod_digest 126 = .ok (.isub, 1) := by decide +kernel
theorem d_Mod_digest_127 : decode c_Mod_digest 127 = .ok (.lushr, 1) := by decide +kernel
theorem d_Mod_digest_128 : decode c_Mod_digest 128 = .ok (.ldc2_w 117, 3) := by decide +kernel
theorem d_Mod_digest_131 : decode c_Mod_digest 131 = .ok (.land, 1) := by decide +kernel
theorem d_Mod_digest_132 : decode c_Mod_digest 132 = .ok (.l2i, 1) := by decide +kernel
theorem d_Mod_digest_133 : decode c_Mod_digest 133 = .ok (.ireturn, 1) := by decide +kernel
theorem d_Mod_setOf_0 : decode c_Mod_setOf 0 = .ok (.lconst 0, 1) := by decide +kernel
theorem d_Mod_setOf_1 : decode c_Mod_setOf 1 = .ok (.lstore_n 2, 1) := by decide +kernel
theorem d_Mod_setOf_2 : decode c_Mod_setOf 2 = .ok (.bipush 7, 2) := by decide +kernel
theorem d_Mod_setOf_4 : decode c_Mod_setOf 4 = .ok (.istore 4, 2) := by decide +kernel
theorem d_Mod_setOf_6 : decode c_Mod_setOf 6 = .ok (.iload 4, 2) := by decide +kernel
theorem d_Mod_setOf_8 : decode c_Mod_setOf 8 = .ok (.ifCond .lt 36, 3) := by decide +kernel
theorem d_Mod_setOf_11 : decode c_Mod_setOf 11 = .ok (.ldc2_w 107, 3) := by decide +kernel
theorem d_Mod_setOf_14 : decode c_Mod_setOf 14 = .ok (.lload_n 2, 1) := by decide +kernel
theorem d_Mod_setOf_15 : decode c_Mod_setOf 15 = .ok (.lmul, 1) := by decide +kernel
theorem d_Mod_setOf_16 : decode c_Mod_setOf 16 = .ok (.aload_n 0, 1) := by decide +kernel
theorem d_Mod_setOf_17 : decode c_Mod_setOf 17 = .ok (.getfield 36, 3) := by decide +kernel
theorem d_Mod_setOf_20 : decode c_Mod_setOf 20 = .ok (.bipush 8, 2) := by decide +kernel
theorem d_Mod_setOf_22 : decode c_Mod_setOf 22 = .ok (.iload_n 1, 1) := by decide +kernel
theorem d_Mod_setOf_23 : decode c_Mod_setOf 23 = .ok (.imul, 1) := by decide +kernel
theorem d_Mod_setOf_24 : decode c_Mod_setOf 24 = .ok (.iload 4, 2) := by decide +kernel
theorem d_Mod_setOf_26 : decode c_Mod_setOf 26 = .ok (.iadd, 1) := by decide +kernel
theorem d_Mod_setOf_27 : decode c_Mod_setOf 27 = .ok (.baload, 1) := by decide +kernel
theorem d_Mod_setOf_28 : decode c_Mod_setOf 28 = .ok (.ifCond .eq 7, 3) := by decide +kernel
theorem d_Mod_setOf_31 : decode c_Mod_setOf 31 = .ok (.lconst 1, 1) := by decide +kernel
theorem d_Mod_setOf_32 : decode c_Mod_setOf 32 = .ok (.goto 4, 3) := by decide +kernel
theorem d_Mod_setOf_35 : decode c_Mod_setOf 35 = .ok (.lconst 0, 1) := by decide +kernel
theorem d_Mod_setOf_36 : decode c_Mod_setOf 36 = .ok (.ladd, 1) := by decide +kernel
theorem d_Mod_setOf_37 : decode c_Mod_setOf 37 = .ok (.lstore_n 2, 1) := by decide +kernel
theorem d_Mod_setOf_38 : decode c_Mod_setOf 38 = .ok (.iinc 4 (-1), 3) := by decide +kernel
theorem d_Mod_setOf_41 : decode c_Mod_setOf 41 = .ok (.goto (-35), 3) := by decide +kernel
theorem d_Mod_setOf_44 : decode c_Mod_setOf 44 = .ok (.lload_n 2, 1) := by decide +kernel
theorem d_Mod_setOf_45 : decode c_Mod_setOf 45 = .ok (.lreturn, 1) := by decide +kernel
theorem d_Mod_open_0 : decode c_Mod_open 0 = .ok (.aload_n 0, 1) := by decide +kernel
theorem d_Mod_open_1 : decode c_Mod_open 1 = .ok (.iload_n 1, 1) := by decide +kernel
theorem d_Mod_open_2 : decode c_Mod_open 2 = .ok (.invokevirtual 91, 3) := by decide +kernel
theorem d_Mod_open_5 : decode c_Mod_open 5 = .ok (.ifCond .eq 22, 3) := by decide +kernel
theorem d_Mod_open_8 : decode c_Mod_open 8 = .ok (.aload_n 0, 1) := by decide +kernel
theorem d_Mod_open_9 : decode c_Mod_open 9 = .ok (.getfield 13, 3) := by decide +kernel
theorem d_Mod_open_12 : decode c_Mod_open 12 = .ok (.iload_n 1, 1) := by decide +kernel
theorem d_Mod_open_13 : decode c_Mod_open 13 = .ok (.baload, 1) := by decide +kernel
theorem d_Mod_open_14 : decode c_Mod_open 14 = .ok (.ifCond .ne 13, 3) := by decide +kernel
theorem d_Mod_open_17 : decode c_Mod_open 17 = .ok (.aload_n 0, 1) := by decide +kernel
theorem d_Mod_open_18 : decode c_Mod_open 18 = .ok (.iload_n 1, 1) := by decide +kernel
theorem d_Mod_open_19 : decode c_Mod_open 19 = .ok (.invokevirtual 103, 3) := by decide +kernel
theorem d_Mod_open_22 : decode c_Mod_open 22 = .ok (.bipush 8, 2) := by decide +kernel
theorem d_Mod_open_24 : decode c_Mod_open 24 = .ok (.if_icmp .ge 5, 3) := by decide +kernel
theorem d_Mod_open_27 : decode c_Mod_open 27 = .ok (.iconst (-1), 1) := by decide +kernel
theorem d_Mod_open_28 : decode c_Mod_open 28 = .ok (.ireturn, 1) := by decide +kernel
theorem d_Mod_open_29 : decode c_Mod_open 29 = .ok (.iconst 0, 1) := by decide +kernel
theorem d_Mod_open_30 : decode c_Mod_open 30 = .ok (.istore 4, 2) := by decide +kernel
theorem d_Mod_open_32 : decode c_Mod_open 32 = .ok (.iload 4, 2) := by decide +kernel
theorem d_Mod_open_34 : decode c_Mod_open 34 = .ok (.bipush 8, 2) := by decide +kernel
theorem d_Mod_open_36 : decode c_Mod_open 36 = .ok (.if_icmp .ge 34, 3) := by decide +kernel
theorem d_Mod_open_39 : decode c_Mod_open 39 = .ok (.aload_n 0, 1) := by decide +kernel
theorem d_Mod_open_40 : decode c_Mod_open 40 = .ok (.getfield 24, 3) := by decide +kernel
theorem d_Mod_open_43 : decode c_Mod_open 43 = .ok (.bipush 8, 2) := by decide +kernel
theorem d_Mod_open_45 : decode c_Mod_open 45 = .ok (.iload_n 1, 1) := by decide +kernel
theorem d_Mod_open_46 : decode c_Mod_open 46 = .ok (.imul, 1) := by decide +kernel
theorem d_Mod_open_47 : decode c_Mod_open 47 = .ok (.iload 4, 2) := by decide +kernel
theorem d_Mod_open_49 : decode c_Mod_open 49 = .ok (.iadd, 1) := by decide +kernel
theorem d_Mod_open_50 : decode c_Mod_open 50 = .ok (.iaload, 1) := by decide +kernel
theorem d_Mod_open_51 : decode c_Mod_open 51 = .ok (.aload_n 0, 1) := by decide +kernel
theorem d_Mod_open_52 : decode c_Mod_open 52 = .ok (.iload_n 1, 1) := by decide +kernel
theorem d_Mod_open_53 : decode c_Mod_open 53 = .ok (.lload_n 2, 1) := by decide +kernel
theorem d_Mod_open_54 : decode c_Mod_open 54 = .ok (.iload 4, 2) := by decide +kernel
theorem d_Mod_open_56 : decode c_Mod_open 56 = .ok (.invokevirtual 119, 3) := by decide +kernel
theorem d_Mod_open_59 : decode c_Mod_open 59 = .ok (.if_icmp .eq 5, 3) := by decide +kernel
theorem d_Mod_open_62 : decode c_Mod_open 62 = .ok (.iconst (-1), 1) := by decide +kernel
theorem d_Mod_open_63 : decode c_Mod_open 63 = .ok (.ireturn, 1) := by decide +kernel
theorem d_Mod_open_64 : decode c_Mod_open 64 = .ok (.iinc 4 1, 3) := by decide +kernel
theorem d_Mod_open_67 : decode c_Mod_open 67 = .ok (.goto (-35), 3) := by decide +kernel
theorem d_Mod_open_70 : decode c_Mod_open 70 = .ok (.aload_n 0, 1) := by decide +kernel
theorem d_Mod_open_71 : decode c_Mod_open 71 = .ok (.getfield 13, 3) := by decide +kernel
theorem d_Mod_open_74 : decode c_Mod_open 74 = .ok (.iload_n 1, 1) := by decide +kernel
theorem d_Mod_open_75 : decode c_Mod_open 75 = .ok (.iconst 1, 1) := by decide +kernel
theorem d_Mod_open_76 : decode c_Mod_open 76 = .ok (.bastore, 1) := by decide +kernel
theorem d_Mod_open_77 : decode c_Mod_open 77 = .ok (.aload_n 0, 1) := by decide +kernel
theorem d_Mod_open_78 : decode c_Mod_open 78 = .ok (.iconst 0, 1) := by decide +kernel
theorem d_Mod_open_79 : decode c_Mod_open 79 = .ok (.putfield 87, 3) := by decide +kernel
theorem d_Mod_open_82 : decode c_Mod_open 82 = .ok (.iconst 0, 1) := by decide +kernel
theorem d_Mod_open_83 : decode c_Mod_open 83 = .ok (.istore 4, 2) := by decide +kernel
theorem d_Mod_open_85 : decode c_Mod_open 85 = .ok (.iconst 0, 1) := by decide +kernel
theorem d_Mod_open_86 : decode c_Mod_open 86 = .ok (.istore 5, 2) := by decide +kernel
theorem d_Mod_open_88 : decode c_Mod_open 88 = .ok (.iload 5, 2) := by decide +kernel
theorem d_Mod_open_90 : decode c_Mod_open 90 = .ok (.aload_n 0, 1) := by decide +kernel
theorem d_Mod_open_91 : decode c_Mod_open 91 = .ok (.getfield 82, 3) := by decide +kernel
theorem d_Mod_open_94 : decode c_Mod_open 94 = .ok (.if_icmp .ge 30, 3) := by decide +kernel
theorem d_Mod_open_97 : decode c_Mod_open 97 = .ok (.iload 4, 2) := by decide +kernel
theorem d_Mod_open_99 : decode c_Mod_open 99 = .ok (.aload_n 0, 1) := by decide +kernel
theorem d_Mod_open_100 : decode c_Mod_open 100 = .ok (.getfield 30, 3) := by decide +kernel
theorem d_Mod_open_103 : decode c_Mod_open 103 = .ok (.iload 5, 2) := by decide +kernel
theorem d_Mod_open_105 : decode c_Mod_open 105 = .ok (.iaload, 1) := by decide +kernel
theorem d_Mod_open_106 : decode c_Mod_open 106 = .ok (.iload_n 1, 1) := by decide +kernel
theorem d_Mod_open_107 : decode c_Mod_open 107 = .ok (.if_icmp .ne 7, 3) := by decide +kernel
theorem d_Mod_open_110 : decode c_Mod_open 110 = .ok (.iconst 1, 1) := by decide +kernel
theorem d_Mod_open_111 : decode c_Mod_open 111 = .ok (.goto 4, 3) := by decide +kernel
theorem d_Mod_open_114 : decode c_Mod_open 114 = .ok (.iconst 0, 1) := by decide +kernel
theorem d_Mod_open_115 : decode c_Mod_open 115 = .ok (.iadd, 1) := by decide +kernel
theorem d_Mod_open_116 : decode c_Mod_open 116 = .ok (.istore 4, 2) := by decide +kernel
theorem d_Mod_open_118 : decode c_Mod_open 118 = .ok (.iinc 5 1, 3) := by decide +kernel
theorem d_Mod_open_121 : decode c_Mod_open 121 = .ok (.goto (-33), 3) := by decide +kernel
theorem d_Mod_open_124 : decode c_Mod_open 124 = .ok (.iload 4, 2) := by decide +kernel
theorem d_Mod_open_126 : decode c_Mod_open 126 = .ok (.ireturn, 1) := by decide +kernel
theorem d_Mod_run_0 : decode c_Mod_run 0 = .ok (.iconst 0, 1) := by decide +kernel
theorem d_Mod_run_1 : decode c_Mod_run 1 = .ok (.istore_n 3, 1) := by decide +kernel
theorem d_Mod_run_2 : decode c_Mod_run 2 = .ok (.iconst 0, 1) := by decide +kernel
theorem d_Mod_run_3 : decode c_Mod_run 3 = .ok (.istore 4, 2) := by decide +kernel
theorem d_Mod_run_5 : decode c_Mod_run 5 = .ok (.iload 4, 2) := by decide +kernel
theorem d_Mod_run_7 : decode c_Mod_run 7 = .ok (.aload_n 0, 1) := by decide +kernel
theorem d_Mod_run_8 : decode c_Mod_run 8 = .ok (.getfield 82, 3) := by decide +kernel
theorem d_Mod_run_11 : decode c_Mod_run 11 = .ok (.if_icmp .ge 26, 3) := by decide +kernel
theorem d_Mod_run_14 : decode c_Mod_run 14 = .ok (.iload_n 3, 1) := by decide +kernel
theorem d_Mod_run_15 : decode c_Mod_run 15 = .ok (.aload_n 0, 1) := by decide +kernel
theorem d_Mod_run_16 : decode c_Mod_run 16 = .ok (.iload 4, 2) := by decide +kernel
theorem d_Mod_run_18 : decode c_Mod_run 18 = .ok (.invokevirtual 130, 3) := by decide +kernel
theorem d_Mod_run_21 : decode c_Mod_run 21 = .ok (.ifCond .eq 7, 3) := by decide +kernel
theorem d_Mod_run_24 : decode c_Mod_run 24 = .ok (.iconst 1, 1) := by decide +kernel
theorem d_Mod_run_25 : decode c_Mod_run 25 = .ok (.goto 4, 3) := by decide +kernel
theorem d_Mod_run_28 : decode c_Mod_run 28 = .ok (.iconst 0, 1) := by decide +kernel
theorem d_Mod_run_29 : decode c_Mod_run 29 = .ok (.iadd, 1) := by decide +kernel
theorem d_Mod_run_30 : decode c_Mod_run 30 = .ok (.istore_n 3, 1) := by decide +kernel
theorem d_Mod_run_31 : decode c_Mod_run 31 = .ok (.iinc 4 1, 3) := by decide +kernel
theorem d_Mod_run_34 : decode c_Mod_run 34 = .ok (.goto (-29), 3) := by decide +kernel
theorem d_Mod_run_37 : decode c_Mod_run 37 = .ok (.lconst 1, 1) := by decide +kernel
theorem d_Mod_run_38 : decode c_Mod_run 38 = .ok (.iload_n 3, 1) := by decide +kernel
theorem d_Mod_run_39 : decode c_Mod_run 39 = .ok (.lshl, 1) := by decide +kernel
theorem d_Mod_run_40 : decode c_Mod_run 40 = .ok (.lload_n 1, 1) := by decide +kernel
theorem d_Mod_run_41 : decode c_Mod_run 41 = .ok (.lcmp, 1) := by decide +kernel
theorem d_Mod_run_42 : decode c_Mod_run 42 = .ok (.ifCond .le 5, 3) := by decide +kernel
theorem d_Mod_run_45 : decode c_Mod_run 45 = .ok (.iconst (-1), 1) := by decide +kernel
theorem d_Mod_run_46 : decode c_Mod_run 46 = .ok (.ireturn, 1) := by decide +kernel
theorem d_Mod_run_47 : decode c_Mod_run 47 = .ok (.iconst 0, 1) := by decide +kernel
theorem d_Mod_run_48 : decode c_Mod_run 48 = .ok (.istore 4, 2) := by decide +kernel
theorem d_Mod_run_50 : decode c_Mod_run 50 = .ok (.iload 4, 2) := by decide +kernel
theorem d_Mod_run_52 : decode c_Mod_run 52 = .ok (.bipush 12, 2) := by decide +kernel
theorem d_Mod_run_54 : decode c_Mod_run 54 = .ok (.if_icmp .ge 47, 3) := by decide +kernel
theorem d_Mod_run_57 : decode c_Mod_run 57 = .ok (.aload_n 0, 1) := by decide +kernel
theorem d_Mod_run_58 : decode c_Mod_run 58 = .ok (.getfield 39, 3) := by decide +kernel
theorem d_Mod_run_61 : decode c_Mod_run 61 = .ok (.iload 4, 2) := by decide +kernel
theorem d_Mod_run_63 : decode c_Mod_run 63 = .ok (.iload 4, 2) := by decide +kernel
theorem d_Mod_run_65 : decode c_Mod_run 65 = .ok (.aload_n 0, 1) := by decide +kernel
theorem d_Mod_run_66 : decode c_Mod_run 66 = .ok (.getfield 82, 3) := by decide +kernel
theorem d_Mod_run_69 : decode c_Mod_run 69 = .ok (.if_icmp .ge 16, 3) := by decide +kernel
theorem d_Mod_run_72 : decode c_Mod_run 72 = .ok (.aload_n 0, 1) := by decide +kernel
theorem d_Mod_run_73 : decode c_Mod_run 73 = .ok (.iload 4, 2) := by decide +kernel
theorem d_Mod_run_75 : decode c_Mod_run 75 = .ok (.invokevirtual 130, 3) := by decide +kernel
theorem d_Mod_run_78 : decode c_Mod_run 78 = .ok (.ifCond .eq 7, 3) := by decide +kernel
theorem d_Mod_run_81 : decode c_Mod_run 81 = .ok (.iconst 1, 1) := by decide +kernel
theorem d_Mod_run_82 : decode c_Mod_run 82 = .ok (.goto 4, 3) := by decide +kernel
theorem d_Mod_run_85 : decode c_Mod_run 85 = .ok (.iconst 0, 1) := by decide +kernel
theorem d_Mod_run_86 : decode c_Mod_run 86 = .ok (.bastore, 1) := by decide +kernel
theorem d_Mod_run_87 : decode c_Mod_run 87 = .ok (.aload_n 0, 1) := by decide +kernel
theorem d_Mod_run_88 : decode c_Mod_run 88 = .ok (.getfield 42, 3) := by decide +kernel
theorem d_Mod_run_91 : decode c_Mod_run 91 = .ok (.iload 4, 2) := by decide +kernel
theorem d_Mod_run_93 : decode c_Mod_run 93 = .ok (.iconst 0, 1) := by decide +kernel
theorem d_Mod_run_94 : decode c_Mod_run 94 = .ok (.bastore, 1) := by decide +kernel
theorem d_Mod_run_95 : decode c_Mod_run 95 = .ok (.iinc 4 1, 3) := by decide +kernel
theorem d_Mod_run_98 : decode c_Mod_run 98 = .ok (.goto (-48), 3) := by decide +kernel
theorem d_Mod_run_101 : decode c_Mod_run 101 = .ok (.aload_n 0, 1) := by decide +kernel
theorem d_Mod_run_102 : decode c_Mod_run 102 = .ok (.iconst 1, 1) := by decide +kernel
theorem d_Mod_run_103 : decode c_Mod_run 103 = .ok (.putfield 133, 3) := by decide +kernel
theorem d_Mod_run_106 : decode c_Mod_run 106 = .ok (.aload_n 0, 1) := by decide +kernel
theorem d_Mod_run_107 : decode c_Mod_run 107 = .ok (.iconst 1, 1) := by decide +kernel
theorem d_Mod_run_108 : decode c_Mod_run 108 = .ok (.putfield 87, 3) := by decide +kernel
theorem d_Mod_run_111 : decode c_Mod_run 111 = .ok (.aload_n 0, 1) := by decide +kernel
theorem d_Mod_run_112 : decode c_Mod_run 112 = .ok (.lconst 0, 1) := by decide +kernel
theorem d_Mod_run_113 : decode c_Mod_run 113 = .ok (.putfield 136, 3) := by decide +kernel
theorem d_Mod_run_116 : decode c_Mod_run 116 = .ok (.iconst 0, 1) := by decide +kernel
theorem d_Mod_run_117 : decode c_Mod_run 117 = .ok (.istore 4, 2) := by decide +kernel
theorem d_Mod_run_119 : decode c_Mod_run 119 = .ok (.iload 4, 2) := by decide +kernel
theorem d_Mod_run_121 : decode c_Mod_run 121 = .ok (.iconst 1, 1) := by decide +kernel
theorem d_Mod_run_122 : decode c_Mod_run 122 = .ok (.aload_n 0, 1) := by decide +kernel
theorem d_Mod_run_123 : decode c_Mod_run 123 = .ok (.getfield 82, 3) := by decide +kernel
theorem d_Mod_run_126 : decode c_Mod_run 126 = .ok (.ishl, 1) := by decide +kernel
theorem d_Mod_run_127 : decode c_Mod_run 127 = .ok (.if_icmp .ge 91, 3) := by decide +kernel
theorem d_Mod_run_130 : decode c_Mod_run 130 = .ok (.aload_n 0, 1) := by decide +kernel
theorem d_Mod_run_131 : decode c_Mod_run 131 = .ok (.iload 4, 2) := by decide +kernel
theorem d_Mod_run_133 : decode c_Mod_run 133 = .ok (.invokevirtual 140, 3) := by decide +kernel
theorem d_Mod_run_136 : decode c_Mod_run 136 = .ok (.aload_n 0, 1) := by decide +kernel
theorem d_Mod_run_137 : decode c_Mod_run 137 = .ok (.invokevirtual 144, 3) := by decide +kernel
theorem d_Mod_run_140 : decode c_Mod_run 140 = .ok (.ifCond .eq 72, 3) := by decide +kernel
theorem d_Mod_run_143 : decode c_Mod_run 143 = .ok (.aload_n 0, 1) := by decide +kernel
theorem d_Mod_run_144 : decode c_Mod_run 144 = .ok (.invokevirtual 148, 3) := by decide +kernel
theorem d_Mod_run_147 : decode c_Mod_run 147 = .ok (.aload_n 0, 1) := by decide +kernel
theorem d_Mod_run_148 : decode c_Mod_run 148 = .ok (.getfield 136, 3) := by decide +kernel
theorem d_Mod_run_151 : decode c_Mod_run 151 = .ok (.lcmp, 1) := by decide +kernel
theorem d_Mod_run_152 : decode c_Mod_run 152 = .ok (.ifCond .gt 22, 3) := by decide +kernel
theorem d_Mod_run_155 : decode c_Mod_run 155 = .ok (.aload_n 0, 1) := by decide +kernel
theorem d_Mod_run_156 : decode c_Mod_run 156 = .ok (.invokevirtual 148, 3) := by decide +kernel
theorem d_Mod_run_159 : decode c_Mod_run 159 = .ok (.aload_n 0, 1) := by decide +kernel
theorem d_Mod_run_160 : decode c_Mod_run 160 = .ok (.getfield 136, 3) := by decide +kernel
theorem d_Mod_run_163 : decode c_Mod_run 163 = .ok (.lcmp, 1) := by decide +kernel
theorem d_Mod_run_164 : decode c_Mod_run 164 = .ok (.ifCond .ne 48, 3) := by decide +kernel
theorem d_Mod_run_167 : decode c_Mod_run 167 = .ok (.aload_n 0, 1) := by decide +kernel
theorem d_Mod_run_168 : decode c_Mod_run 168 = .ok (.invokevirtual 152, 3) := by decide +kernel
theorem d_Mod_run_171 : decode c_Mod_run 171 = .ok (.ifCond .eq 41, 3) := by decide +kernel
theorem d_Mod_run_174 : decode c_Mod_run 174 = .ok (.aload_n 0, 1) := by decide +kernel
theorem d_Mod_run_175 : decode c_Mod_run 175 = .ok (.aload_n 0, 1) := by decide +kernel
theorem d_Mod_run_176 : decode c_Mod_run 176 = .ok (.invokevirtual 148, 3) := by decide +kernel
theorem d_Mod_run_179 : decode c_Mod_run 179 = .ok (.putfield 136, 3) := by decide +kernel
theorem d_Mod_run_182 : decode c_Mod_run 182 = .ok (.iconst 0, 1) := by decide +kernel
theorem d_Mod_run_183 : decode c_Mod_run 183 = .ok (.istore 5, 2) := by decide +kernel
theorem d_Mod_run_185 : decode c_Mod_run 185 = .ok (.iload 5, 2) := by decide +kernel
theorem d_Mod_run_187 : decode c_Mod_run 187 = .ok (.bipush 12, 2) := by decide +kernel
theorem d_Mod_run_189 : decode c_Mod_run 189 = .ok (.if_icmp .ge 23, 3) := by decide +kernel
theorem d_Mod_run_192 : decode c_Mod_run 192 = .ok (.aload_n 0, 1) := by decide +kernel
theorem d_Mod_run_193 : decode c_Mod_run 193 = .ok (.getfield 42, 3) := by decide +kernel
theorem d_Mod_run_196 : decode c_Mod_run 196 = .ok (.iload 5, 2) := by decide +kernel
theorem d_Mod_run_198 : decode c_Mod_run 198 = .ok (.aload_n 0, 1) := by decide +kernel
theorem d_Mod_run_199 : decode c_Mod_run 199 = .ok (.getfield 72, 3) := by decide +kernel
theorem d_Mod_run_202 : decode c_Mod_run 202 = .ok (.iload 5, 2) := by decide +kernel
theorem d_Mod_run_204 : decode c_Mod_run 204 = .ok (.baload, 1) := by decide +kernel
theorem d_Mod_run_205 : decode c_Mod_run 205 = .ok (.bastore, 1) := by decide +kernel
theorem d_Mod_run_206 : decode c_Mod_run 206 = .ok (.iinc 5 1, 3) := by decide +kernel
theorem d_Mod_run_209 : decode c_Mod_run 209 = .ok (.goto (-24), 3) := by decide +kernel
theorem d_Mod_run_212 : decode c_Mod_run 212 = .ok (.iinc 4 1, 3) := by decide +kernel
theorem d_Mod_run_215 : decode c_Mod_run 215 = .ok (.goto (-96), 3) := by decide +kernel
theorem d_Mod_run_218 : decode c_Mod_run 218 = .ok (.iconst 0, 1) := by decide +kernel
theorem d_Mod_run_219 : decode c_Mod_run 219 = .ok (.istore 4, 2) := by decide +kernel
theorem d_Mod_run_221 : decode c_Mod_run 221 = .ok (.iconst 0, 1) := by decide +kernel
theorem d_Mod_run_222 : decode c_Mod_run 222 = .ok (.istore 5, 2) := by decide +kernel
theorem d_Mod_run_224 : decode c_Mod_run 224 = .ok (.iload 5, 2) := by decide +kernel
theorem d_Mod_run_226 : decode c_Mod_run 226 = .ok (.aload_n 0, 1) := by decide +kernel
theorem d_Mod_run_227 : decode c_Mod_run 227 = .ok (.getfield 82, 3) := by decide +kernel
theorem d_Mod_run_230 : decode c_Mod_run 230 = .ok (.if_icmp .ge 29, 3) := by decide +kernel
theorem d_Mod_run_233 : decode c_Mod_run 233 = .ok (.iload 4, 2) := by decide +kernel
theorem d_Mod_run_235 : decode c_Mod_run 235 = .ok (.aload_n 0, 1) := by decide +kernel
theorem d_Mod_run_236 : decode c_Mod_run 236 = .ok (.getfield 42, 3) := by decide +kernel
theorem d_Mod_run_239 : decode c_Mod_run 239 = .ok (.iload 5, 2) := by decide +kernel
theorem d_Mod_run_241 : decode c_Mod_run 241 = .ok (.baload, 1) := by decide +kernel
theorem d_Mod_run_242 : decode c_Mod_run 242 = .ok (.ifCond .eq 7, 3) := by decide +kernel
theorem d_Mod_run_245 : decode c_Mod_run 245 = .ok (.iconst 1, 1) := by decide +kernel
theorem d_Mod_run_246 : decode c_Mod_run 246 = .ok (.goto 4, 3) := by decide +kernel
theorem d_Mod_run_249 : decode c_Mod_run 249 = .ok (.iconst 0, 1) := by decide +kernel
theorem d_Mod_run_250 : decode c_Mod_run 250 = .ok (.iadd, 1) := by decide +kernel
theorem d_Mod_run_251 : decode c_Mod_run 251 = .ok (.istore 4, 2) := by decide +kernel
theorem d_Mod_run_253 : decode c_Mod_run 253 = .ok (.iinc 5 1, 3) := by decide +kernel
theorem d_Mod_run_256 : decode c_Mod_run 256 = .ok (.goto (-32), 3) := by decide +kernel
theorem d_Mod_run_259 : decode c_Mod_run 259 = .ok (.iload 4, 2) := by decide +kernel
theorem d_Mod_run_261 : decode c_Mod_run 261 = .ok (.ireturn, 1) := by decide +kernel
theorem d_Mod_isInPlay_0 : decode c_Mod_isInPlay 0 = .ok (.aload_n 0, 1) := by decide +kernel
theorem d_Mod_isInPlay_1 : decode c_Mod_isInPlay 1 = .ok (.getfield 7, 3) := by decide +kernel
theorem d_Mod_isInPlay_4 : decode c_Mod_isInPlay 4 = .ok (.aload_n 0, 1) := by decide +kernel
theorem d_Mod_isInPlay_5 : decode c_Mod_isInPlay 5 = .ok (.getfield 30, 3) := by decide +kernel
theorem d_Mod_isInPlay_8 : decode c_Mod_isInPlay 8 = .ok (.iload_n 1, 1) := by decide +kernel
theorem d_Mod_isInPlay_9 : decode c_Mod_isInPlay 9 = .ok (.iaload, 1) := by decide +kernel
theorem d_Mod_isInPlay_10 : decode c_Mod_isInPlay 10 = .ok (.baload, 1) := by decide +kernel
theorem d_Mod_isInPlay_11 : decode c_Mod_isInPlay 11 = .ok (.ifCond .eq 29, 3) := by decide +kernel
theorem d_Mod_isInPlay_14 : decode c_Mod_isInPlay 14 = .ok (.aload_n 0, 1) := by decide +kernel
theorem d_Mod_isInPlay_15 : decode c_Mod_isInPlay 15 = .ok (.getfield 13, 3) := by decide +kernel
theorem d_Mod_isInPlay_18 : decode c_Mod_isInPlay 18 = .ok (.aload_n 0, 1) := by decide +kernel
theorem d_Mod_isInPlay_19 : decode c_Mod_isInPlay 19 = .ok (.getfield 30, 3) := by decide +kernel
theorem d_Mod_isInPlay_22 : decode c_Mod_isInPlay 22 = .ok (.iload_n 1, 1) := by decide +kernel
theorem d_Mod_isInPlay_23 : decode c_Mod_isInPlay 23 = .ok (.iaload, 1) := by decide +kernel
theorem d_Mod_isInPlay_24 : decode c_Mod_isInPlay 24 = .ok (.baload, 1) := by decide +kernel
theorem d_Mod_isInPlay_25 : decode c_Mod_isInPlay 25 = .ok (.ifCond .eq 15, 3) := by decide +kernel
theorem d_Mod_isInPlay_28 : decode c_Mod_isInPlay 28 = .ok (.aload_n 0, 1) := by decide +kernel
theorem d_Mod_isInPlay_29 : decode c_Mod_isInPlay 29 = .ok (.iload_n 1, 1) := by decide +kernel
theorem d_Mod_isInPlay_30 : decode c_Mod_isInPlay 30 = .ok (.invokevirtual 123, 3) := by decide +kernel
theorem d_Mod_isInPlay_33 : decode c_Mod_isInPlay 33 = .ok (.ifCond .le 7, 3) := by decide +kernel
theorem d_Mod_isInPlay_36 : decode c_Mod_isInPlay 36 = .ok (.iconst 1, 1) := by decide +kernel
theorem d_Mod_isInPlay_37 : decode c_Mod_isInPlay 37 = .ok (.goto 4, 3) := by decide +kernel
theorem d_Mod_isInPlay_40 : decode c_Mod_isInPlay 40 = .ok (.iconst 0, 1) := by decide +kernel
theorem d_Mod_isInPlay_41 : decode c_Mod_isInPlay 41 = .ok (.ireturn, 1) := by decide +kernel
theorem d_Mod_lotsOf_0 : decode c_Mod_lotsOf 0 = .ok (.iconst 0, 1) := by decide +kernel
theorem d_Mod_lotsOf_1 : decode c_Mod_lotsOf 1 = .ok (.istore_n 2, 1) := by decide +kernel
theorem d_Mod_lotsOf_2 : decode c_Mod_lotsOf 2 = .ok (.iconst 0, 1) := by decide +kernel
theorem d_Mod_lotsOf_3 : decode c_Mod_lotsOf 3 = .ok (.istore_n 3, 1) := by decide +kernel
theorem d_Mod_lotsOf_4 : decode c_Mod_lotsOf 4 = .ok (.iload_n 3, 1) := by decide +kernel
theorem d_Mod_lotsOf_5 : decode c_Mod_lotsOf 5 = .ok (.bipush 8, 2) := by decide +kernel
theorem d_Mod_lotsOf_7 : decode c_Mod_lotsOf 7 = .ok (.if_icmp .ge 31, 3) := by decide +kernel
theorem d_Mod_lotsOf_10 : decode c_Mod_lotsOf 10 = .ok (.iload_n 2, 1) := by decide +kernel
theorem d_Mod_lotsOf_11 : decode c_Mod_lotsOf 11 = .ok (.aload_n 0, 1) := by decide +kernel
theorem d_Mod_lotsOf_12 : decode c_Mod_lotsOf 12 = .ok (.getfield 36, 3) := by decide +kernel
theorem d_Mod_lotsOf_15 : decode c_Mod_lotsOf 15 = .ok (.bipush 8, 2) := by decide +kernel
theorem d_Mod_lotsOf_17 : decode c_Mod_lotsOf 17 = .ok (.iload_n 1, 1) := by decide +kernel
theorem d_Mod_lotsOf_18 : decode c_Mod_lotsOf 18 = .ok (.imul, 1) := by decide +kernel
theorem d_Mod_lotsOf_19 : decode c_Mod_lotsOf 19 = .ok (.iload_n 3, 1) := by decide +kernel
theorem d_Mod_lotsOf_20 : decode c_Mod_lotsOf 20 = .ok (.iadd, 1) := by decide +kernel
theorem d_Mod_lotsOf_21 : decode c_Mod_lotsOf 21 = .ok (.baload, 1) := by decide +kernel
theorem d_Mod_lotsOf_22 : decode c_Mod_lotsOf 22 = .ok (.ifCond .eq 7, 3) := by decide +kernel
theorem d_Mod_lotsOf_25 : decode c_Mod_lotsOf 25 = .ok (.iconst 1, 1) := by decide +kernel
theorem d_Mod_lotsOf_26 : decode c_Mod_lotsOf 26 = .ok (.goto 4, 3) := by decide +kernel
theorem d_Mod_lotsOf_29 : decode c_Mod_lotsOf 29 = .ok (.iconst 0, 1) := by decide +kernel
theorem d_Mod_lotsOf_30 : decode c_Mod_lotsOf 30 = .ok (.iadd, 1) := by decide +kernel
theorem d_Mod_lotsOf_31 : decode c_Mod_lotsOf 31 = .ok (.istore_n 2, 1) := by decide +kernel
theorem d_Mod_lotsOf_32 : decode c_Mod_lotsOf 32 = .ok (.iinc 3 1, 3) := by decide +kernel
theorem d_Mod_lotsOf_35 : decode c_Mod_lotsOf 35 = .ok (.goto (-31), 3) := by decide +kernel
theorem d_Mod_lotsOf_38 : decode c_Mod_lotsOf 38 = .ok (.iload_n 2, 1) := by decide +kernel
theorem d_Mod_lotsOf_39 : decode c_Mod_lotsOf 39 = .ok (.ireturn, 1) := by decide +kernel
theorem d_Mod_take_0 : decode c_Mod_take 0 = .ok (.iconst 0, 1) := by decide +kernel
theorem d_Mod_take_1 : decode c_Mod_take 1 = .ok (.istore_n 2, 1) := by decide +kernel
theorem d_Mod_take_2 : decode c_Mod_take 2 = .ok (.iload_n 2, 1) := by decide +kernel
theorem d_Mod_take_3 : decode c_Mod_take 3 = .ok (.bipush 12, 2) := by decide +kernel
theorem d_Mod_take_5 : decode c_Mod_take 5 = .ok (.if_icmp .ge 29, 3) := by decide +kernel
theorem d_Mod_take_8 : decode c_Mod_take 8 = .ok (.aload_n 0, 1) := by decide +kernel
theorem d_Mod_take_9 : decode c_Mod_take 9 = .ok (.getfield 72, 3) := by decide +kernel
theorem d_Mod_take_12 : decode c_Mod_take 12 = .ok (.iload_n 2, 1) := by decide +kernel
theorem d_Mod_take_13 : decode c_Mod_take 13 = .ok (.iload_n 1, 1) := by decide +kernel
theorem d_Mod_take_14 : decode c_Mod_take 14 = .ok (.iload_n 2, 1) := by decide +kernel
theorem d_Mod_take_15 : decode c_Mod_take 15 = .ok (.ishr, 1) := by decide +kernel
theorem d_Mod_take_16 : decode c_Mod_take 16 = .ok (.iconst 1, 1) := by decide +kernel
theorem d_Mod_take_17 : decode c_Mod_take 17 = .ok (.iand, 1) := by decide +kernel
theorem d_Mod_take_18 : decode c_Mod_take 18 = .ok (.iconst 1, 1) := by decide +kernel
theorem d_Mod_take_19 : decode c_Mod_take 19 = .ok (.if_icmp .ne 7, 3) := by decide +kernel
theorem d_Mod_take_22 : decode c_Mod_take 22 = .ok (.iconst 1, 1) := by decide +kernel
theorem d_Mod_take_23 : decode c_Mod_take 23 = .ok (.goto 4, 3) := by decide +kernel
theorem d_Mod_take_26 : decode c_Mod_take 26 = .ok (.iconst 0, 1) := by decide +kernel
theorem d_Mod_take_27 : decode c_Mod_take 27 = .ok (.bastore, 1) := by decide +kernel
theorem d_Mod_take_28 : decode c_Mod_take 28 = .ok (.iinc 2 1, 3) := by decide +kernel
theorem d_Mod_take_31 : decode c_Mod_take 31 = .ok (.goto (-29), 3) := by decide +kernel
theorem d_Mod_take_34 : decode c_Mod_take 34 = .ok (.return_, 1) := by decide +kernel
theorem d_Mod_isSale_0 : decode c_Mod_isSale 0 = .ok (.iconst 0, 1) := by decide +kernel
theorem d_Mod_isSale_1 : decode c_Mod_isSale 1 = .ok (.istore_n 1, 1) := by decide +kernel
theorem d_Mod_isSale_2 : decode c_Mod_isSale 2 = .ok (.iload_n 1, 1) := by decide +kernel
theorem d_Mod_isSale_3 : decode c_Mod_isSale 3 = .ok (.aload_n 0, 1) := by decide +kernel
theorem d_Mod_isSale_4 : decode c_Mod_isSale 4 = .ok (.getfield 82, 3) := by decide +kernel
theorem d_Mod_isSale_7 : decode c_Mod_isSale 7 = .ok (.if_icmp .ge 29, 3) := by decide +kernel
theorem d_Mod_isSale_10 : decode c_Mod_isSale 10 = .ok (.aload_n 0, 1) := by decide +kernel
theorem d_Mod_isSale_11 : decode c_Mod_isSale 11 = .ok (.getfield 72, 3) := by decide +kernel
theorem d_Mod_isSale_14 : decode c_Mod_isSale 14 = .ok (.iload_n 1, 1) := by decide +kernel
theorem d_Mod_isSale_15 : decode c_Mod_isSale 15 = .ok (.baload, 1) := by decide +kernel
theorem d_Mod_isSale_16 : decode c_Mod_isSale 16 = .ok (.ifCond .eq 14, 3) := by decide +kernel
theorem d_Mod_isSale_19 : decode c_Mod_isSale 19 = .ok (.aload_n 0, 1) := by decide +kernel
theorem d_Mod_isSale_20 : decode c_Mod_isSale 20 = .ok (.getfield 39, 3) := by decide +kernel
theorem d_Mod_isSale_23 : decode c_Mod_isSale 23 = .ok (.iload_n 1, 1) := by decide +kernel
theorem d_Mod_isSale_24 : decode c_Mod_isSale 24 = .ok (.baload, 1) := by decide +kernel
theorem d_Mod_isSale_25 : decode c_Mod_isSale 25 = .ok (.ifCond .ne 5, 3) := by decide +kernel
theorem d_Mod_isSale_28 : decode c_Mod_isSale 28 = .ok (.iconst 0, 1) := by decide +kernel
theorem d_Mod_isSale_29 : decode c_Mod_isSale 29 = .ok (.ireturn, 1) := by decide +kernel
theorem d_Mod_isSale_30 : decode c_Mod_isSale 30 = .ok (.iinc 1 1, 3) := by decide +kernel
theorem d_Mod_isSale_33 : decode c_Mod_isSale 33 = .ok (.goto (-31), 3) := by decide +kernel
theorem d_Mod_isSale_36 : decode c_Mod_isSale 36 = .ok (.iconst 0, 1) := by decide +kernel
theorem d_Mod_isSale_37 : decode c_Mod_isSale 37 = .ok (.istore_n 1, 1) := by decide +kernel
theorem d_Mod_isSale_38 : decode c_Mod_isSale 38 = .ok (.iload_n 1, 1) := by decide +kernel
theorem d_Mod_isSale_39 : decode c_Mod_isSale 39 = .ok (.aload_n 0, 1) := by decide +kernel
theorem d_Mod_isSale_40 : decode c_Mod_isSale 40 = .ok (.getfield 75, 3) := by decide +kernel
theorem d_Mod_isSale_43 : decode c_Mod_isSale 43 = .ok (.if_icmp .ge 65, 3) := by decide +kernel
theorem d_Mod_isSale_46 : decode c_Mod_isSale 46 = .ok (.iconst 0, 1) := by decide +kernel
theorem d_Mod_isSale_47 : decode c_Mod_isSale 47 = .ok (.istore_n 2, 1) := by decide +kernel
theorem d_Mod_isSale_48 : decode c_Mod_isSale 48 = .ok (.iconst 0, 1) := by decide +kernel
theorem d_Mod_isSale_49 : decode c_Mod_isSale 49 = .ok (.istore_n 3, 1) := by decide +kernel
theorem d_Mod_isSale_50 : decode c_Mod_isSale 50 = .ok (.iload_n 3, 1) := by decide +kernel
theorem d_Mod_isSale_51 : decode c_Mod_isSale 51 = .ok (.aload_n 0, 1) := by decide +kernel
theorem d_Mod_isSale_52 : decode c_Mod_isSale 52 = .ok (.getfield 82, 3) := by decide +kernel
theorem d_Mod_isSale_55 : decode c_Mod_isSale 55 = .ok (.if_icmp .ge 40, 3) := by decide +kernel
theorem d_Mod_isSale_58 : decode c_Mod_isSale 58 = .ok (.iload_n 2, 1) := by decide +kernel
theorem d_Mod_isSale_59 : decode c_Mod_isSale 59 = .ok (.aload_n 0, 1) := by decide +kernel
theorem d_Mod_isSale_60 : decode c_Mod_isSale 60 = .ok (.getfield 72, 3) := by decide +kernel
theorem d_Mod_isSale_63 : decode c_Mod_isSale 63 = .ok (.iload_n 3, 1) := by decide +kernel
theorem d_Mod_isSale_64 : decode c_Mod_isSale 64 = .ok (.baload, 1) := by decide +kernel
theorem d_Mod_isSale_65 : decode c_Mod_isSale 65 = .ok (.ifCond .eq 21, 3) := by decide +kernel
theorem d_Mod_isSale_68 : decode c_Mod_isSale 68 = .ok (.aload_n 0, 1) := by decide +kernel
theorem d_Mod_isSale_69 : decode c_Mod_isSale 69 = .ok (.getfield 36, 3) := by decide +kernel
theorem d_Mod_isSale_72 : decode c_Mod_isSale 72 = .ok (.bipush 8, 2) := by decide +kernel
theorem d_Mod_isSale_74 : decode c_Mod_isSale 74 = .ok (.iload_n 3, 1) := by decide +kernel
theorem d_Mod_isSale_75 : decode c_Mod_isSale 75 = .ok (.imul, 1) := by decide +kernel
theorem d_Mod_isSale_76 : decode c_Mod_isSale 76 = .ok (.iload_n 1, 1) := by decide +kernel
theorem d_Mod_isSale_77 : decode c_Mod_isSale 77 = .ok (.iadd, 1) := by decide +kernel
theorem d_Mod_isSale_78 : decode c_Mod_isSale 78 = .ok (.baload, 1) := by decide +kernel
theorem d_Mod_isSale_79 : decode c_Mod_isSale 79 = .ok (.ifCond .eq 7, 3) := by decide +kernel
theorem d_Mod_isSale_82 : decode c_Mod_isSale 82 = .ok (.iconst 1, 1) := by decide +kernel
theorem d_Mod_isSale_83 : decode c_Mod_isSale 83 = .ok (.goto 4, 3) := by decide +kernel
theorem d_Mod_isSale_86 : decode c_Mod_isSale 86 = .ok (.iconst 0, 1) := by decide +kernel
theorem d_Mod_isSale_87 : decode c_Mod_isSale 87 = .ok (.iadd, 1) := by decide +kernel
theorem d_Mod_isSale_88 : decode c_Mod_isSale 88 = .ok (.istore_n 2, 1) := by decide +kernel
theorem d_Mod_isSale_89 : decode c_Mod_isSale 89 = .ok (.iinc 3 1, 3) := by decide +kernel
theorem d_Mod_isSale_92 : decode c_Mod_isSale 92 = .ok (.goto (-42), 3) := by decide +kernel
theorem d_Mod_isSale_95 : decode c_Mod_isSale 95 = .ok (.iload_n 2, 1) := by decide +kernel
theorem d_Mod_isSale_96 : decode c_Mod_isSale 96 = .ok (.iconst 1, 1) := by decide +kernel
theorem d_Mod_isSale_97 : decode c_Mod_isSale 97 = .ok (.if_icmp .le 5, 3) := by decide +kernel
theorem d_Mod_isSale_100 : decode c_Mod_isSale 100 = .ok (.iconst 0, 1) := by decide +kernel
theorem d_Mod_isSale_101 : decode c_Mod_isSale 101 = .ok (.ireturn, 1) := by decide +kernel
theorem d_Mod_isSale_102 : decode c_Mod_isSale 102 = .ok (.iinc 1 1, 3) := by decide +kernel
theorem d_Mod_isSale_105 : decode c_Mod_isSale 105 = .ok (.goto (-67), 3) := by decide +kernel
theorem d_Mod_isSale_108 : decode c_Mod_isSale 108 = .ok (.iconst 0, 1) := by decide +kernel
theorem d_Mod_isSale_109 : decode c_Mod_isSale 109 = .ok (.istore_n 1, 1) := by decide +kernel
theorem d_Mod_isSale_110 : decode c_Mod_isSale 110 = .ok (.iload_n 1, 1) := by decide +kernel
theorem d_Mod_isSale_111 : decode c_Mod_isSale 111 = .ok (.aload_n 0, 1) := by decide +kernel
theorem d_Mod_isSale_112 : decode c_Mod_isSale 112 = .ok (.getfield 79, 3) := by decide +kernel
theorem d_Mod_isSale_115 : decode c_Mod_isSale 115 = .ok (.if_icmp .ge 70, 3) := by decide +kernel
theorem d_Mod_isSale_118 : decode c_Mod_isSale 118 = .ok (.iconst 0, 1) := by decide +kernel
theorem d_Mod_isSale_119 : decode c_Mod_isSale 119 = .ok (.istore_n 2, 1) := by decide +kernel
theorem d_Mod_isSale_120 : decode c_Mod_isSale 120 = .ok (.iconst 0, 1) := by decide +kernel
theorem d_Mod_isSale_121 : decode c_Mod_isSale 121 = .ok (.istore_n 3, 1) := by decide +kernel
theorem d_Mod_isSale_122 : decode c_Mod_isSale 122 = .ok (.iload_n 3, 1) := by decide +kernel
theorem d_Mod_isSale_123 : decode c_Mod_isSale 123 = .ok (.aload_n 0, 1) := by decide +kernel
theorem d_Mod_isSale_124 : decode c_Mod_isSale 124 = .ok (.getfield 82, 3) := by decide +kernel
theorem d_Mod_isSale_127 : decode c_Mod_isSale 127 = .ok (.if_icmp .ge 40, 3) := by decide +kernel
theorem d_Mod_isSale_130 : decode c_Mod_isSale 130 = .ok (.iload_n 2, 1) := by decide +kernel
theorem d_Mod_isSale_131 : decode c_Mod_isSale 131 = .ok (.aload_n 0, 1) := by decide +kernel
theorem d_Mod_isSale_132 : decode c_Mod_isSale 132 = .ok (.getfield 72, 3) := by decide +kernel
theorem d_Mod_isSale_135 : decode c_Mod_isSale 135 = .ok (.iload_n 3, 1) := by decide +kernel
theorem d_Mod_isSale_136 : decode c_Mod_isSale 136 = .ok (.baload, 1) := by decide +kernel
theorem d_Mod_isSale_137 : decode c_Mod_isSale 137 = .ok (.ifCond .eq 21, 3) := by decide +kernel
theorem d_Mod_isSale_140 : decode c_Mod_isSale 140 = .ok (.aload_n 0, 1) := by decide +kernel
theorem d_Mod_isSale_141 : decode c_Mod_isSale 141 = .ok (.getfield 30, 3) := by decide +kernel
theorem d_Mod_isSale_144 : decode c_Mod_isSale 144 = .ok (.iload_n 3, 1) := by decide +kernel
theorem d_Mod_isSale_145 : decode c_Mod_isSale 145 = .ok (.iaload, 1) := by decide +kernel
theorem d_Mod_isSale_146 : decode c_Mod_isSale 146 = .ok (.iload_n 1, 1) := by decide +kernel
theorem d_Mod_isSale_147 : decode c_Mod_isSale 147 = .ok (.if_icmp .ne 11, 3) := by decide +kernel
theorem d_Mod_isSale_150 : decode c_Mod_isSale 150 = .ok (.aload_n 0, 1) := by decide +kernel
theorem d_Mod_isSale_151 : decode c_Mod_isSale 151 = .ok (.iload_n 3, 1) := by decide +kernel
theorem d_Mod_isSale_152 : decode c_Mod_isSale 152 = .ok (.invokevirtual 123, 3) := by decide +kernel
theorem d_Mod_isSale_155 : decode c_Mod_isSale 155 = .ok (.goto 4, 3) := by decide +kernel
theorem d_Mod_isSale_158 : decode c_Mod_isSale 158 = .ok (.iconst 0, 1) := by decide +kernel
theorem d_Mod_isSale_159 : decode c_Mod_isSale 159 = .ok (.iadd, 1) := by decide +kernel
theorem d_Mod_isSale_160 : decode c_Mod_isSale 160 = .ok (.istore_n 2, 1) := by decide +kernel
theorem d_Mod_isSale_161 : decode c_Mod_isSale 161 = .ok (.iinc 3 1, 3) := by decide +kernel
theorem d_Mod_isSale_164 : decode c_Mod_isSale 164 = .ok (.goto (-42), 3) := by decide +kernel
theorem d_Mod_isSale_167 : decode c_Mod_isSale 167 = .ok (.iload_n 2, 1) := by decide +kernel
theorem d_Mod_isSale_168 : decode c_Mod_isSale 168 = .ok (.aload_n 0, 1) := by decide +kernel
theorem d_Mod_isSale_169 : decode c_Mod_isSale 169 = .ok (.getfield 20, 3) := by decide +kernel
theorem d_Mod_isSale_172 : decode c_Mod_isSale 172 = .ok (.iload_n 1, 1) := by decide +kernel
theorem d_Mod_isSale_173 : decode c_Mod_isSale 173 = .ok (.iaload, 1) := by decide +kernel
theorem d_Mod_isSale_174 : decode c_Mod_isSale 174 = .ok (.if_icmp .le 5, 3) := by decide +kernel
theorem d_Mod_isSale_177 : decode c_Mod_isSale 177 = .ok (.iconst 0, 1) := by decide +kernel
theorem d_Mod_isSale_178 : decode c_Mod_isSale 178 = .ok (.ireturn, 1) := by decide +kernel
theorem d_Mod_isSale_179 : decode c_Mod_isSale 179 = .ok (.iinc 1 1, 3) := by decide +kernel
theorem d_Mod_isSale_182 : decode c_Mod_isSale 182 = .ok (.goto (-72), 3) := by decide +kernel
theorem d_Mod_isSale_185 : decode c_Mod_isSale 185 = .ok (.iconst 1, 1) := by decide +kernel
theorem d_Mod_isSale_186 : decode c_Mod_isSale 186 = .ok (.ireturn, 1) := by decide +kernel
theorem d_Mod_takenSum_0 : decode c_Mod_takenSum 0 = .ok (.lconst 0, 1) := by decide +kernel
theorem d_Mod_takenSum_1 : decode c_Mod_takenSum 1 = .ok (.lstore_n 1, 1) := by decide +kernel
theorem d_Mod_takenSum_2 : decode c_Mod_takenSum 2 = .ok (.iconst 0, 1) := by decide +kernel
theorem d_Mod_takenSum_3 : decode c_Mod_takenSum 3 = .ok (.istore_n 3, 1) := by decide +kernel
theorem d_Mod_takenSum_4 : decode c_Mod_takenSum 4 = .ok (.iload_n 3, 1) := by decide +kernel
theorem d_Mod_takenSum_5 : decode c_Mod_takenSum 5 = .ok (.aload_n 0, 1) := by decide +kernel
theorem d_Mod_takenSum_6 : decode c_Mod_takenSum 6 = .ok (.getfield 82, 3) := by decide +kernel
theorem d_Mod_takenSum_9 : decode c_Mod_takenSum 9 = .ok (.if_icmp .ge 31, 3) := by decide +kernel
theorem d_Mod_takenSum_12 : decode c_Mod_takenSum 12 = .ok (.lload_n 1, 1) := by decide +kernel
theorem d_Mod_takenSum_13 : decode c_Mod_takenSum 13 = .ok (.aload_n 0, 1) := by decide +kernel
theorem d_Mod_takenSum_14 : decode c_Mod_takenSum 14 = .ok (.getfield 72, 3) := by decide +kernel
theorem d_Mod_takenSum_17 : decode c_Mod_takenSum 17 = .ok (.iload_n 3, 1) := by decide +kernel
theorem d_Mod_takenSum_18 : decode c_Mod_takenSum 18 = .ok (.baload, 1) := by decide +kernel
theorem d_Mod_takenSum_19 : decode c_Mod_takenSum 19 = .ok (.ifCond .eq 12, 3) := by decide +kernel
theorem d_Mod_takenSum_22 : decode c_Mod_takenSum 22 = .ok (.aload_n 0, 1) := by decide +kernel
theorem d_Mod_takenSum_23 : decode c_Mod_takenSum 23 = .ok (.getfield 33, 3) := by decide +kernel
theorem d_Mod_takenSum_26 : decode c_Mod_takenSum 26 = .ok (.iload_n 3, 1) := by decide +kernel
theorem d_Mod_takenSum_27 : decode c_Mod_takenSum 27 = .ok (.laload, 1) := by decide +kernel
theorem d_Mod_takenSum_28 : decode c_Mod_takenSum 28 = .ok (.goto 4, 3) := by decide +kernel
theorem d_Mod_takenSum_31 : decode c_Mod_takenSum 31 = .ok (.lconst 0, 1) := by decide +kernel
theorem d_Mod_takenSum_32 : decode c_Mod_takenSum 32 = .ok (.ladd, 1) := by decide +kernel
theorem d_Mod_takenSum_33 : decode c_Mod_takenSum 33 = .ok (.lstore_n 1, 1) := by decide +kernel
theorem d_Mod_takenSum_34 : decode c_Mod_takenSum 34 = .ok (.iinc 3 1, 3) := by decide +kernel
theorem d_Mod_takenSum_37 : decode c_Mod_takenSum 37 = .ok (.goto (-33), 3) := by decide +kernel
theorem d_Mod_takenSum_40 : decode c_Mod_takenSum 40 = .ok (.lload_n 1, 1) := by decide +kernel
theorem d_Mod_takenSum_41 : decode c_Mod_takenSum 41 = .ok (.lreturn, 1) := by decide +kernel
theorem d_Mod_isFirst_0 : decode c_Mod_isFirst 0 = .ok (.iconst (-1), 1) := by decide +kernel
theorem d_Mod_isFirst_1 : decode c_Mod_isFirst 1 = .ok (.istore_n 1, 1) := by decide +kernel
theorem d_Mod_isFirst_2 : decode c_Mod_isFirst 2 = .ok (.iconst 0, 1) := by decide +kernel
theorem d_Mod_isFirst_3 : decode c_Mod_isFirst 3 = .ok (.istore_n 2, 1) := by decide +kernel
theorem d_Mod_isFirst_4 : decode c_Mod_isFirst 4 = .ok (.iload_n 2, 1) := by decide +kernel
theorem d_Mod_isFirst_5 : decode c_Mod_isFirst 5 = .ok (.aload_n 0, 1) := by decide +kernel
theorem d_Mod_isFirst_6 : decode c_Mod_isFirst 6 = .ok (.getfield 82, 3) := by decide +kernel
theorem d_Mod_isFirst_9 : decode c_Mod_isFirst 9 = .ok (.if_icmp .ge 39, 3) := by decide +kernel
theorem d_Mod_isFirst_12 : decode c_Mod_isFirst 12 = .ok (.aload_n 0, 1) := by decide +kernel
theorem d_Mod_isFirst_13 : decode c_Mod_isFirst 13 = .ok (.getfield 72, 3) := by decide +kernel
theorem d_Mod_isFirst_16 : decode c_Mod_isFirst 16 = .ok (.iload_n 2, 1) := by decide +kernel
theorem d_Mod_isFirst_17 : decode c_Mod_isFirst 17 = .ok (.baload, 1) := by decide +kernel
theorem d_Mod_isFirst_18 : decode c_Mod_isFirst 18 = .ok (.aload_n 0, 1) := by decide +kernel
theorem d_Mod_isFirst_19 : decode c_Mod_isFirst 19 = .ok (.getfield 42, 3) := by decide +kernel
theorem d_Mod_isFirst_22 : decode c_Mod_isFirst 22 = .ok (.iload_n 2, 1) := by decide +kernel
theorem d_Mod_isFirst_23 : decode c_Mod_isFirst 23 = .ok (.baload, 1) := by decide +kernel
theorem d_Mod_isFirst_24 : decode c_Mod_isFirst 24 = .ok (.if_icmp .eq 18, 3) := by decide +kernel
theorem d_Mod_isFirst_27 : decode c_Mod_isFirst 27 = .ok (.iload_n 1, 1) := by decide +kernel
theorem d_Mod_isFirst_28 : decode c_Mod_isFirst 28 = .ok (.ifCond .lt 12, 3) := by decide +kernel
theorem d_Mod_isFirst_31 : decode c_Mod_isFirst 31 = .ok (.aload_n 0, 1) := by decide +kernel
theorem d_Mod_isFirst_32 : decode c_Mod_isFirst 32 = .ok (.iload_n 2, 1) := by decide +kernel
theorem d_Mod_isFirst_33 : decode c_Mod_isFirst 33 = .ok (.iload_n 1, 1) := by decide +kernel
theorem d_Mod_isFirst_34 : decode c_Mod_isFirst 34 = .ok (.invokevirtual 126, 3) := by decide +kernel
theorem d_Mod_isFirst_37 : decode c_Mod_isFirst 37 = .ok (.ifCond .eq 5, 3) := by decide +kernel
theorem d_Mod_isFirst_40 : decode c_Mod_isFirst 40 = .ok (.iload_n 2, 1) := by decide +kernel
theorem d_Mod_isFirst_41 : decode c_Mod_isFirst 41 = .ok (.istore_n 1, 1) := by decide +kernel
theorem d_Mod_isFirst_42 : decode c_Mod_isFirst 42 = .ok (.iinc 2 1, 3) := by decide +kernel
theorem d_Mod_isFirst_45 : decode c_Mod_isFirst 45 = .ok (.goto (-41), 3) := by decide +kernel
theorem d_Mod_isFirst_48 : decode c_Mod_isFirst 48 = .ok (.iload_n 1, 1) := by decide +kernel
theorem d_Mod_isFirst_49 : decode c_Mod_isFirst 49 = .ok (.ifCond .lt 16, 3) := by decide +kernel
theorem d_Mod_isFirst_52 : decode c_Mod_isFirst 52 = .ok (.aload_n 0, 1) := by decide +kernel
theorem d_Mod_isFirst_53 : decode c_Mod_isFirst 53 = .ok (.getfield 72, 3) := by decide +kernel
theorem d_Mod_isFirst_56 : decode c_Mod_isFirst 56 = .ok (.iload_n 1, 1) := by decide +kernel
theorem d_Mod_isFirst_57 : decode c_Mod_isFirst 57 = .ok (.baload, 1) := by decide +kernel
theorem d_Mod_isFirst_58 : decode c_Mod_isFirst 58 = .ok (.ifCond .eq 7, 3) := by decide +kernel
theorem d_Mod_isFirst_61 : decode c_Mod_isFirst 61 = .ok (.iconst 1, 1) := by decide +kernel
theorem d_Mod_isFirst_62 : decode c_Mod_isFirst 62 = .ok (.goto 4, 3) := by decide +kernel
theorem d_Mod_isFirst_65 : decode c_Mod_isFirst 65 = .ok (.iconst 0, 1) := by decide +kernel
theorem d_Mod_isFirst_66 : decode c_Mod_isFirst 66 = .ok (.ireturn, 1) := by decide +kernel
theorem d_Mod_isBefore_0 : decode c_Mod_isBefore 0 = .ok (.aload_n 0, 1) := by decide +kernel
theorem d_Mod_isBefore_1 : decode c_Mod_isBefore 1 = .ok (.getfield 16, 3) := by decide +kernel
theorem d_Mod_isBefore_4 : decode c_Mod_isBefore 4 = .ok (.aload_n 0, 1) := by decide +kernel
theorem d_Mod_isBefore_5 : decode c_Mod_isBefore 5 = .ok (.getfield 30, 3) := by decide +kernel
theorem d_Mod_isBefore_8 : decode c_Mod_isBefore 8 = .ok (.iload_n 1, 1) := by decide +kernel
theorem d_Mod_isBefore_9 : decode c_Mod_isBefore 9 = .ok (.iaload, 1) := by decide +kernel
theorem d_Mod_isBefore_10 : decode c_Mod_isBefore 10 = .ok (.laload, 1) := by decide +kernel
theorem d_Mod_isBefore_11 : decode c_Mod_isBefore 11 = .ok (.lstore_n 3, 1) := by decide +kernel
theorem d_Mod_isBefore_12 : decode c_Mod_isBefore 12 = .ok (.aload_n 0, 1) := by decide +kernel
theorem d_Mod_isBefore_13 : decode c_Mod_isBefore 13 = .ok (.getfield 16, 3) := by decide +kernel
theorem d_Mod_isBefore_16 : decode c_Mod_isBefore 16 = .ok (.aload_n 0, 1) := by decide +kernel
theorem d_Mod_isBefore_17 : decode c_Mod_isBefore 17 = .ok (.getfield 30, 3) := by decide +kernel
theorem d_Mod_isBefore_20 : decode c_Mod_isBefore 20 = .ok (.iload_n 2, 1) := by decide +kernel
theorem d_Mod_isBefore_21 : decode c_Mod_isBefore 21 = .ok (.iaload, 1) := by decide +kernel
theorem d_Mod_isBefore_22 : decode c_Mod_isBefore 22 = .ok (.laload, 1) := by decide +kernel
theorem d_Mod_isBefore_23 : decode c_Mod_isBefore 23 = .ok (.lstore 5, 2) := by decide +kernel
theorem d_Mod_isBefore_25 : decode c_Mod_isBefore 25 = .ok (.lload_n 3, 1) := by decide +kernel
theorem d_Mod_isBefore_26 : decode c_Mod_isBefore 26 = .ok (.lload 5, 2) := by decide +kernel
theorem d_Mod_isBefore_28 : decode c_Mod_isBefore 28 = .ok (.lcmp, 1) := by decide +kernel
theorem d_Mod_isBefore_29 : decode c_Mod_isBefore 29 = .ok (.ifCond .lt 15, 3) := by decide +kernel
theorem d_Mod_isBefore_32 : decode c_Mod_isBefore 32 = .ok (.lload_n 3, 1) := by decide +kernel
theorem d_Mod_isBefore_33 : decode c_Mod_isBefore 33 = .ok (.lload 5, 2) := by decide +kernel
theorem d_Mod_isBefore_35 : decode c_Mod_isBefore 35 = .ok (.lcmp, 1) := by decide +kernel
theorem d_Mod_isBefore_36 : decode c_Mod_isBefore 36 = .ok (.ifCond .ne 12, 3) := by decide +kernel
theorem d_Mod_isBefore_39 : decode c_Mod_isBefore 39 = .ok (.iload_n 1, 1) := by decide +kernel
theorem d_Mod_isBefore_40 : decode c_Mod_isBefore 40 = .ok (.iload_n 2, 1) := by decide +kernel
theorem d_Mod_isBefore_41 : decode c_Mod_isBefore 41 = .ok (.if_icmp .ge 7, 3) := by decide +kernel
theorem d_Mod_isBefore_44 : decode c_Mod_isBefore 44 = .ok (.iconst 1, 1) := by decide +kernel
theorem d_Mod_isBefore_45 : decode c_Mod_isBefore 45 = .ok (.goto 4, 3) := by decide +kernel
theorem d_Mod_isBefore_48 : decode c_Mod_isBefore 48 = .ok (.iconst 0, 1) := by decide +kernel
theorem d_Mod_isBefore_49 : decode c_Mod_isBefore 49 = .ok (.ireturn, 1) := by decide +kernel
theorem d_Mod_wins_0 : decode c_Mod_wins 0 = .ok (.aload_n 0, 1) := by decide +kernel
theorem d_Mod_wins_1 : decode c_Mod_wins 1 = .ok (.iload_n 1, 1) := by decide +kernel
theorem d_Mod_wins_2 : decode c_Mod_wins 2 = .ok (.invokevirtual 97, 3) := by decide +kernel
theorem d_Mod_wins_5 : decode c_Mod_wins 5 = .ok (.ifCond .eq 16, 3) := by decide +kernel
theorem d_Mod_wins_8 : decode c_Mod_wins 8 = .ok (.aload_n 0, 1) := by decide +kernel
theorem d_Mod_wins_9 : decode c_Mod_wins 9 = .ok (.getfield 42, 3) := by decide +kernel
theorem d_Mod_wins_12 : decode c_Mod_wins 12 = .ok (.iload_n 1, 1) := by decide +kernel
theorem d_Mod_wins_13 : decode c_Mod_wins 13 = .ok (.baload, 1) := by decide +kernel
theorem d_Mod_wins_14 : decode c_Mod_wins 14 = .ok (.ifCond .eq 7, 3) := by decide +kernel
theorem d_Mod_wins_17 : decode c_Mod_wins 17 = .ok (.iconst 1, 1) := by decide +kernel
theorem d_Mod_wins_18 : decode c_Mod_wins 18 = .ok (.goto 4, 3) := by decide +kernel
theorem d_Mod_wins_21 : decode c_Mod_wins 21 = .ok (.iconst 0, 1) := by decide +kernel
theorem d_Mod_wins_22 : decode c_Mod_wins 22 = .ok (.ireturn, 1) := by decide +kernel
theorem d_Mod_sum_0 : decode c_Mod_sum 0 = .ok (.aload_n 0, 1) := by decide +kernel
theorem d_Mod_sum_1 : decode c_Mod_sum 1 = .ok (.getfield 133, 3) := by decide +kernel
theorem d_Mod_sum_4 : decode c_Mod_sum 4 = .ok (.ifCond .eq 10, 3) := by decide +kernel
theorem d_Mod_sum_7 : decode c_Mod_sum 7 = .ok (.aload_n 0, 1) := by decide +kernel
theorem d_Mod_sum_8 : decode c_Mod_sum 8 = .ok (.getfield 136, 3) := by decide +kernel
theorem d_Mod_sum_11 : decode c_Mod_sum 11 = .ok (.goto 6, 3) := by decide +kernel
theorem d_Mod_sum_14 : decode c_Mod_sum 14 = .ok (.ldc2_w 155, 3) := by decide +kernel
theorem d_Mod_sum_17 : decode c_Mod_sum 17 = .ok (.lreturn, 1) := by decide +kernel
theorem d_Mod_bound_0 : decode c_Mod_bound 0 = .ok (.lconst 0, 1) := by decide +kernel
theorem d_Mod_bound_1 : decode c_Mod_bound 1 = .ok (.lstore_n 1, 1) := by decide +kernel
theorem d_Mod_bound_2 : decode c_Mod_bound 2 = .ok (.iconst 0, 1) := by decide +kernel
theorem d_Mod_bound_3 : decode c_Mod_bound 3 = .ok (.istore_n 3, 1) := by decide +kernel
theorem d_Mod_bound_4 : decode c_Mod_bound 4 = .ok (.iload_n 3, 1) := by decide +kernel
theorem d_Mod_bound_5 : decode c_Mod_bound 5 = .ok (.aload_n 0, 1) := by decide +kernel
theorem d_Mod_bound_6 : decode c_Mod_bound 6 = .ok (.getfield 75, 3) := by decide +kernel
theorem d_Mod_bound_9 : decode c_Mod_bound 9 = .ok (.if_icmp .ge 98, 3) := by decide +kernel
theorem d_Mod_bound_12 : decode c_Mod_bound 12 = .ok (.lconst 0, 1) := by decide +kernel
theorem d_Mod_bound_13 : decode c_Mod_bound 13 = .ok (.lstore 4, 2) := by decide +kernel
theorem d_Mod_bound_15 : decode c_Mod_bound 15 = .ok (.iconst 0, 1) := by decide +kernel
theorem d_Mod_bound_16 : decode c_Mod_bound 16 = .ok (.istore 6, 2) := by decide +kernel
theorem d_Mod_bound_18 : decode c_Mod_bound 18 = .ok (.iload 6, 2) := by decide +kernel
theorem d_Mod_bound_20 : decode c_Mod_bound 20 = .ok (.aload_n 0, 1) := by decide +kernel
theorem d_Mod_bound_21 : decode c_Mod_bound 21 = .ok (.getfield 82, 3) := by decide +kernel
theorem d_Mod_bound_24 : decode c_Mod_bound 24 = .ok (.if_icmp .ge 72, 3) := by decide +kernel
theorem d_Mod_bound_27 : decode c_Mod_bound 27 = .ok (.aload_n 0, 1) := by decide +kernel
theorem d_Mod_bound_28 : decode c_Mod_bound 28 = .ok (.iload 6, 2) := by decide +kernel
theorem d_Mod_bound_30 : decode c_Mod_bound 30 = .ok (.invokevirtual 130, 3) := by decide +kernel
theorem d_Mod_bound_33 : decode c_Mod_bound 33 = .ok (.ifCond .eq 22, 3) := by decide +kernel
theorem d_Mod_bound_36 : decode c_Mod_bound 36 = .ok (.aload_n 0, 1) := by decide +kernel
theorem d_Mod_bound_37 : decode c_Mod_bound 37 = .ok (.getfield 36, 3) := by decide +kernel
theorem d_Mod_bound_40 : decode c_Mod_bound 40 = .ok (.bipush 8, 2) := by decide +kernel
theorem d_Mod_bound_42 : decode c_Mod_bound 42 = .ok (.iload 6, 2) := by decide +kernel
theorem d_Mod_bound_44 : decode c_Mod_bound 44 = .ok (.imul, 1) := by decide +kernel
theorem d_Mod_bound_45 : decode c_Mod_bound 45 = .ok (.iload_n 3, 1) := by decide +kernel
theorem d_Mod_bound_46 : decode c_Mod_bound 46 = .ok (.iadd, 1) := by decide +kernel
theorem d_Mod_bound_47 : decode c_Mod_bound 47 = .ok (.baload, 1) := by decide +kernel
theorem d_Mod_bound_48 : decode c_Mod_bound 48 = .ok (.ifCond .eq 7, 3) := by decide +kernel
theorem d_Mod_bound_51 : decode c_Mod_bound 51 = .ok (.iconst 1, 1) := by decide +kernel
theorem d_Mod_bound_52 : decode c_Mod_bound 52 = .ok (.goto 4, 3) := by decide +kernel
theorem d_Mod_bound_55 : decode c_Mod_bound 55 = .ok (.iconst 0, 1) := by decide +kernel
theorem d_Mod_bound_56 : decode c_Mod_bound 56 = .ok (.istore 7, 2) := by decide +kernel
theorem d_Mod_bound_58 : decode c_Mod_bound 58 = .ok (.iload 7, 2) := by decide +kernel
theorem d_Mod_bound_60 : decode c_Mod_bound 60 = .ok (.ifCond .eq 26, 3) := by decide +kernel
theorem d_Mod_bound_63 : decode c_Mod_bound 63 = .ok (.aload_n 0, 1) := by decide +kernel
theorem d_Mod_bound_64 : decode c_Mod_bound 64 = .ok (.getfield 33, 3) := by decide +kernel
theorem d_Mod_bound_67 : decode c_Mod_bound 67 = .ok (.iload 6, 2) := by decide +kernel
theorem d_Mod_bound_69 : decode c_Mod_bound 69 = .ok (.laload, 1) := by decide +kernel
theorem d_Mod_bound_70 : decode c_Mod_bound 70 = .ok (.lload 4, 2) := by decide +kernel
theorem d_Mod_bound_72 : decode c_Mod_bound 72 = .ok (.lcmp, 1) := by decide +kernel
theorem d_Mod_bound_73 : decode c_Mod_bound 73 = .ok (.ifCond .le 13, 3) := by decide +kernel
theorem d_Mod_bound_76 : decode c_Mod_bound 76 = .ok (.aload_n 0, 1) := by decide +kernel
theorem d_Mod_bound_77 : decode c_Mod_bound 77 = .ok (.getfield 33, 3) := by decide +kernel
theorem d_Mod_bound_80 : decode c_Mod_bound 80 = .ok (.iload 6, 2) := by decide +kernel
theorem d_Mod_bound_82 : decode c_Mod_bound 82 = .ok (.laload, 1) := by decide +kernel
theorem d_Mod_bound_83 : decode c_Mod_bound 83 = .ok (.goto 5, 3) := by decide +kernel
theorem d_Mod_bound_86 : decode c_Mod_bound 86 = .ok (.lload 4, 2) := by decide +kernel
theorem d_Mod_bound_88 : decode c_Mod_bound 88 = .ok (.lstore 4, 2) := by decide +kernel
theorem d_Mod_bound_90 : decode c_Mod_bound 90 = .ok (.iinc 6 1, 3) := by decide +kernel
theorem d_Mod_bound_93 : decode c_Mod_bound 93 = .ok (.goto (-75), 3) := by decide +kernel
theorem d_Mod_bound_96 : decode c_Mod_bound 96 = .ok (.lload_n 1, 1) := by decide +kernel
theorem d_Mod_bound_97 : decode c_Mod_bound 97 = .ok (.lload 4, 2) := by decide +kernel
theorem d_Mod_bound_99 : decode c_Mod_bound 99 = .ok (.ladd, 1) := by decide +kernel
theorem d_Mod_bound_100 : decode c_Mod_bound 100 = .ok (.lstore_n 1, 1) := by decide +kernel
theorem d_Mod_bound_101 : decode c_Mod_bound 101 = .ok (.iinc 3 1, 3) := by decide +kernel
theorem d_Mod_bound_104 : decode c_Mod_bound 104 = .ok (.goto (-100), 3) := by decide +kernel
theorem d_Mod_bound_107 : decode c_Mod_bound 107 = .ok (.lload_n 1, 1) := by decide +kernel
theorem d_Mod_bound_108 : decode c_Mod_bound 108 = .ok (.lreturn, 1) := by decide +kernel
theorem d_Mod_proved_0 : decode c_Mod_proved 0 = .ok (.aload_n 0, 1) := by decide +kernel
theorem d_Mod_proved_1 : decode c_Mod_proved 1 = .ok (.getfield 87, 3) := by decide +kernel
theorem d_Mod_proved_4 : decode c_Mod_proved 4 = .ok (.ireturn, 1) := by decide +kernel
theorem d_Mod_second_0 : decode c_Mod_second 0 = .ok (.aload_n 0, 1) := by decide +kernel
theorem d_Mod_second_1 : decode c_Mod_second 1 = .ok (.iload_n 1, 1) := by decide +kernel
theorem d_Mod_second_2 : decode c_Mod_second 2 = .ok (.invokevirtual 157, 3) := by decide +kernel
theorem d_Mod_second_5 : decode c_Mod_second 5 = .ok (.ifCond .ne 7, 3) := by decide +kernel
theorem d_Mod_second_8 : decode c_Mod_second 8 = .ok (.ldc2_w 155, 3) := by decide +kernel
theorem d_Mod_second_11 : decode c_Mod_second 11 = .ok (.lreturn, 1) := by decide +kernel
theorem d_Mod_second_12 : decode c_Mod_second 12 = .ok (.lconst 0, 1) := by decide +kernel
theorem d_Mod_second_13 : decode c_Mod_second 13 = .ok (.lstore_n 2, 1) := by decide +kernel
theorem d_Mod_second_14 : decode c_Mod_second 14 = .ok (.iconst 0, 1) := by decide +kernel
theorem d_Mod_second_15 : decode c_Mod_second 15 = .ok (.istore 4, 2) := by decide +kernel
theorem d_Mod_second_17 : decode c_Mod_second 17 = .ok (.iload 4, 2) := by decide +kernel
theorem d_Mod_second_19 : decode c_Mod_second 19 = .ok (.iconst 1, 1) := by decide +kernel
theorem d_Mod_second_20 : decode c_Mod_second 20 = .ok (.aload_n 0, 1) := by decide +kernel
theorem d_Mod_second_21 : decode c_Mod_second 21 = .ok (.getfield 82, 3) := by decide +kernel
theorem d_Mod_second_24 : decode c_Mod_second 24 = .ok (.ishl, 1) := by decide +kernel
theorem d_Mod_second_25 : decode c_Mod_second 25 = .ok (.if_icmp .ge 45, 3) := by decide +kernel
theorem d_Mod_second_28 : decode c_Mod_second 28 = .ok (.aload_n 0, 1) := by decide +kernel
theorem d_Mod_second_29 : decode c_Mod_second 29 = .ok (.iload 4, 2) := by decide +kernel
theorem d_Mod_second_31 : decode c_Mod_second 31 = .ok (.invokevirtual 140, 3) := by decide +kernel
theorem d_Mod_second_34 : decode c_Mod_second 34 = .ok (.aload_n 0, 1) := by decide +kernel
theorem d_Mod_second_35 : decode c_Mod_second 35 = .ok (.getfield 72, 3) := by decide +kernel
theorem d_Mod_second_38 : decode c_Mod_second 38 = .ok (.iload_n 1, 1) := by decide +kernel
theorem d_Mod_second_39 : decode c_Mod_second 39 = .ok (.baload, 1) := by decide +kernel
theorem d_Mod_second_40 : decode c_Mod_second 40 = .ok (.ifCond .ne 24, 3) := by decide +kernel
theorem d_Mod_second_43 : decode c_Mod_second 43 = .ok (.aload_n 0, 1) := by decide +kernel
theorem d_Mod_second_44 : decode c_Mod_second 44 = .ok (.invokevirtual 144, 3) := by decide +kernel
theorem d_Mod_second_47 : decode c_Mod_second 47 = .ok (.ifCond .eq 17, 3) := by decide +kernel
theorem d_Mod_second_50 : decode c_Mod_second 50 = .ok (.aload_n 0, 1) := by decide +kernel
theorem d_Mod_second_51 : decode c_Mod_second 51 = .ok (.invokevirtual 148, 3) := by decide +kernel
theorem d_Mod_second_54 : decode c_Mod_second 54 = .ok (.lload_n 2, 1) := by decide +kernel
theorem d_Mod_second_55 : decode c_Mod_second 55 = .ok (.lcmp, 1) := by decide +kernel
theorem d_Mod_second_56 : decode c_Mod_second 56 = .ok (.ifCond .le 8, 3) := by decide +kernel
theorem d_Mod_second_59 : decode c_Mod_second 59 = .ok (.aload_n 0, 1) := by decide +kernel
theorem d_Mod_second_60 : decode c_Mod_second 60 = .ok (.invokevirtual 148, 3) := by decide +kernel
theorem d_Mod_second_63 : decode c_Mod_second 63 = .ok (.lstore_n 2, 1) := by decide +kernel
theorem d_Mod_second_64 : decode c_Mod_second 64 = .ok (.iinc 4 1, 3) := by decide +kernel
theorem d_Mod_second_67 : decode c_Mod_second 67 = .ok (.goto (-50), 3) := by decide +kernel
theorem d_Mod_second_70 : decode c_Mod_second 70 = .ok (.aload_n 0, 1) := by decide +kernel
theorem d_Mod_second_71 : decode c_Mod_second 71 = .ok (.getfield 33, 3) := by decide +kernel
theorem d_Mod_second_74 : decode c_Mod_second 74 = .ok (.iload_n 1, 1) := by decide +kernel
theorem d_Mod_second_75 : decode c_Mod_second 75 = .ok (.laload, 1) := by decide +kernel
theorem d_Mod_second_76 : decode c_Mod_second 76 = .ok (.aload_n 0, 1) := by decide +kernel
theorem d_Mod_second_77 : decode c_Mod_second 77 = .ok (.getfield 136, 3) := by decide +kernel
theorem d_Mod_second_80 : decode c_Mod_second 80 = .ok (.lsub, 1) := by decide +kernel
theorem d_Mod_second_81 : decode c_Mod_second 81 = .ok (.lload_n 2, 1) := by decide +kernel
theorem d_Mod_second_82 : decode c_Mod_second 82 = .ok (.ladd, 1) := by decide +kernel
theorem d_Mod_second_83 : decode c_Mod_second 83 = .ok (.lreturn, 1) := by decide +kernel
theorem d_Mod_tie_0 : decode c_Mod_tie 0 = .ok (.iconst 0, 1) := by decide +kernel
theorem d_Mod_tie_1 : decode c_Mod_tie 1 = .ok (.istore_n 3, 1) := by decide +kernel
theorem d_Mod_tie_2 : decode c_Mod_tie 2 = .ok (.iconst 0, 1) := by decide +kernel
theorem d_Mod_tie_3 : decode c_Mod_tie 3 = .ok (.istore 4, 2) := by decide +kernel
theorem d_Mod_tie_5 : decode c_Mod_tie 5 = .ok (.iload 4, 2) := by decide +kernel
theorem d_Mod_tie_7 : decode c_Mod_tie 7 = .ok (.aload_n 0, 1) := by decide +kernel
theorem d_Mod_tie_8 : decode c_Mod_tie 8 = .ok (.getfield 82, 3) := by decide +kernel
theorem d_Mod_tie_11 : decode c_Mod_tie 11 = .ok (.if_icmp .ge 79, 3) := by decide +kernel
theorem d_Mod_tie_14 : decode c_Mod_tie 14 = .ok (.aload_n 0, 1) := by decide +kernel
theorem d_Mod_tie_15 : decode c_Mod_tie 15 = .ok (.getfield 133, 3) := by decide +kernel
theorem d_Mod_tie_18 : decode c_Mod_tie 18 = .ok (.ifCond .eq 72, 3) := by decide +kernel
theorem d_Mod_tie_21 : decode c_Mod_tie 21 = .ok (.aload_n 0, 1) := by decide +kernel
theorem d_Mod_tie_22 : decode c_Mod_tie 22 = .ok (.getfield 42, 3) := by decide +kernel
theorem d_Mod_tie_25 : decode c_Mod_tie 25 = .ok (.iload 4, 2) := by decide +kernel
theorem d_Mod_tie_27 : decode c_Mod_tie 27 = .ok (.baload, 1) := by decide +kernel
theorem d_Mod_tie_28 : decode c_Mod_tie 28 = .ok (.ifCond .ne 56, 3) := by decide +kernel
theorem d_Mod_tie_31 : decode c_Mod_tie 31 = .ok (.aload_n 0, 1) := by decide +kernel
theorem d_Mod_tie_32 : decode c_Mod_tie 32 = .ok (.getfield 39, 3) := by decide +kernel
theorem d_Mod_tie_35 : decode c_Mod_tie 35 = .ok (.iload 4, 2) := by decide +kernel
theorem d_Mod_tie_37 : decode c_Mod_tie 37 = .ok (.baload, 1) := by decide +kernel
theorem d_Mod_tie_38 : decode c_Mod_tie 38 = .ok (.ifCond .eq 46, 3) := by decide +kernel
theorem d_Mod_tie_41 : decode c_Mod_tie 41 = .ok (.aload_n 0, 1) := by decide +kernel
theorem d_Mod_tie_42 : decode c_Mod_tie 42 = .ok (.iload 4, 2) := by decide +kernel
theorem d_Mod_tie_44 : decode c_Mod_tie 44 = .ok (.invokevirtual 160, 3) := by decide +kernel
theorem d_Mod_tie_47 : decode c_Mod_tie 47 = .ok (.ifCond .eq 37, 3) := by decide +kernel
theorem d_Mod_tie_50 : decode c_Mod_tie 50 = .ok (.iload_n 3, 1) := by decide +kernel
theorem d_Mod_tie_51 : decode c_Mod_tie 51 = .ok (.iload_n 1, 1) := by decide +kernel
theorem d_Mod_tie_52 : decode c_Mod_tie 52 = .ok (.if_icmp .ne 29, 3) := by decide +kernel
theorem d_Mod_tie_55 : decode c_Mod_tie 55 = .ok (.iload_n 2, 1) := by decide +kernel
theorem d_Mod_tie_56 : decode c_Mod_tie 56 = .ok (.ifCond .ne 8, 3) := by decide +kernel
theorem d_Mod_tie_59 : decode c_Mod_tie 59 = .ok (.iload 4, 2) := by decide +kernel
theorem d_Mod_tie_61 : decode c_Mod_tie 61 = .ok (.goto 19, 3) := by decide +kernel
theorem d_Mod_tie_64 : decode c_Mod_tie 64 = .ok (.iload_n 2, 1) := by decide +kernel
theorem d_Mod_tie_65 : decode c_Mod_tie 65 = .ok (.iconst 1, 1) := by decide +kernel
theorem d_Mod_tie_66 : decode c_Mod_tie 66 = .ok (.if_icmp .ne 13, 3) := by decide +kernel
theorem d_Mod_tie_69 : decode c_Mod_tie 69 = .ok (.aload_n 0, 1) := by decide +kernel
theorem d_Mod_tie_70 : decode c_Mod_tie 70 = .ok (.getfield 30, 3) := by decide +kernel
theorem d_Mod_tie_73 : decode c_Mod_tie 73 = .ok (.iload 4, 2) := by decide +kernel
theorem d_Mod_tie_75 : decode c_Mod_tie 75 = .ok (.iaload, 1) := by decide +kernel
theorem d_Mod_tie_76 : decode c_Mod_tie 76 = .ok (.goto 4, 3) := by decide +kernel
theorem d_Mod_tie_79 : decode c_Mod_tie 79 = .ok (.iconst (-1), 1) := by decide +kernel
theorem d_Mod_tie_80 : decode c_Mod_tie 80 = .ok (.ireturn, 1) := by decide +kernel
theorem d_Mod_tie_81 : decode c_Mod_tie 81 = .ok (.iinc 3 1, 3) := by decide +kernel
theorem d_Mod_tie_84 : decode c_Mod_tie 84 = .ok (.iinc 4 1, 3) := by decide +kernel
theorem d_Mod_tie_87 : decode c_Mod_tie 87 = .ok (.goto (-82), 3) := by decide +kernel
theorem d_Mod_tie_90 : decode c_Mod_tie 90 = .ok (.iconst (-1), 1) := by decide +kernel
theorem d_Mod_tie_91 : decode c_Mod_tie 91 = .ok (.ireturn, 1) := by decide +kernel
theorem d_Mod_isTied_0 : decode c_Mod_isTied 0 = .ok (.iconst 0, 1) := by decide +kernel
theorem d_Mod_isTied_1 : decode c_Mod_isTied 1 = .ok (.istore_n 2, 1) := by decide +kernel
theorem d_Mod_isTied_2 : decode c_Mod_isTied 2 = .ok (.iload_n 2, 1) := by decide +kernel
theorem d_Mod_isTied_3 : decode c_Mod_isTied 3 = .ok (.iconst 1, 1) := by decide +kernel
theorem d_Mod_isTied_4 : decode c_Mod_isTied 4 = .ok (.aload_n 0, 1) := by decide +kernel
theorem d_Mod_isTied_5 : decode c_Mod_isTied 5 = .ok (.getfield 82, 3) := by decide +kernel
theorem d_Mod_isTied_8 : decode c_Mod_isTied 8 = .ok (.ishl, 1) := by decide +kernel
theorem d_Mod_isTied_9 : decode c_Mod_isTied 9 = .ok (.if_icmp .ge 44, 3) := by decide +kernel
theorem d_Mod_isTied_12 : decode c_Mod_isTied 12 = .ok (.aload_n 0, 1) := by decide +kernel
theorem d_Mod_isTied_13 : decode c_Mod_isTied 13 = .ok (.iload_n 2, 1) := by decide +kernel
theorem d_Mod_isTied_14 : decode c_Mod_isTied 14 = .ok (.invokevirtual 140, 3) := by decide +kernel
theorem d_Mod_isTied_17 : decode c_Mod_isTied 17 = .ok (.aload_n 0, 1) := by decide +kernel
theorem d_Mod_isTied_18 : decode c_Mod_isTied 18 = .ok (.getfield 72, 3) := by decide +kernel
theorem d_Mod_isTied_21 : decode c_Mod_isTied 21 = .ok (.iload_n 1, 1) := by decide +kernel
theorem d_Mod_isTied_22 : decode c_Mod_isTied 22 = .ok (.baload, 1) := by decide +kernel
theorem d_Mod_isTied_23 : decode c_Mod_isTied 23 = .ok (.ifCond .eq 24, 3) := by decide +kernel
theorem d_Mod_isTied_26 : decode c_Mod_isTied 26 = .ok (.aload_n 0, 1) := by decide +kernel
theorem d_Mod_isTied_27 : decode c_Mod_isTied 27 = .ok (.invokevirtual 144, 3) := by decide +kernel
theorem d_Mod_isTied_30 : decode c_Mod_isTied 30 = .ok (.ifCond .eq 17, 3) := by decide +kernel
theorem d_Mod_isTied_33 : decode c_Mod_isTied 33 = .ok (.aload_n 0, 1) := by decide +kernel
theorem d_Mod_isTied_34 : decode c_Mod_isTied 34 = .ok (.invokevirtual 148, 3) := by decide +kernel
theorem d_Mod_isTied_37 : decode c_Mod_isTied 37 = .ok (.aload_n 0, 1) := by decide +kernel
theorem d_Mod_isTied_38 : decode c_Mod_isTied 38 = .ok (.getfield 136, 3) := by decide +kernel
theorem d_Mod_isTied_41 : decode c_Mod_isTied 41 = .ok (.lcmp, 1) := by decide +kernel
theorem d_Mod_isTied_42 : decode c_Mod_isTied 42 = .ok (.ifCond .ne 5, 3) := by decide +kernel
theorem d_Mod_isTied_45 : decode c_Mod_isTied 45 = .ok (.iconst 1, 1) := by decide +kernel
theorem d_Mod_isTied_46 : decode c_Mod_isTied 46 = .ok (.ireturn, 1) := by decide +kernel
theorem d_Mod_isTied_47 : decode c_Mod_isTied 47 = .ok (.iinc 2 1, 3) := by decide +kernel
theorem d_Mod_isTied_50 : decode c_Mod_isTied 50 = .ok (.goto (-48), 3) := by decide +kernel
theorem d_Mod_isTied_53 : decode c_Mod_isTied 53 = .ok (.iconst 0, 1) := by decide +kernel
theorem d_Mod_isTied_54 : decode c_Mod_isTied 54 = .ok (.ireturn, 1) := by decide +kernel
theorem d_Mod_step_0 : decode c_Mod_step 0 = .ok (.aload_n 0, 1) := by decide +kernel
theorem d_Mod_step_1 : decode c_Mod_step 1 = .ok (.iload_n 1, 1) := by decide +kernel
theorem d_Mod_step_2 : decode c_Mod_step 2 = .ok (.invokevirtual 100, 3) := by decide +kernel
theorem d_Mod_step_5 : decode c_Mod_step 5 = .ok (.ifCond .eq 41, 3) := by decide +kernel
theorem d_Mod_step_8 : decode c_Mod_step 8 = .ok (.lload_n 2, 1) := by decide +kernel
theorem d_Mod_step_9 : decode c_Mod_step 9 = .ok (.lload 4, 2) := by decide +kernel
theorem d_Mod_step_11 : decode c_Mod_step 11 = .ok (.invokestatic 165, 3) := by decide +kernel
theorem d_Mod_step_14 : decode c_Mod_step 14 = .ok (.ifCond .eq 32, 3) := by decide +kernel
theorem d_Mod_step_17 : decode c_Mod_step 17 = .ok (.lload 6, 2) := by decide +kernel
theorem d_Mod_step_19 : decode c_Mod_step 19 = .ok (.ldc2_w 169, 3) := by decide +kernel
theorem d_Mod_step_22 : decode c_Mod_step 22 = .ok (.lcmp, 1) := by decide +kernel
theorem d_Mod_step_23 : decode c_Mod_step 23 = .ok (.ifCond .lt 23, 3) := by decide +kernel
theorem d_Mod_step_26 : decode c_Mod_step 26 = .ok (.lload 6, 2) := by decide +kernel
theorem d_Mod_step_28 : decode c_Mod_step 28 = .ok (.ldc2_w 171, 3) := by decide +kernel
theorem d_Mod_step_31 : decode c_Mod_step 31 = .ok (.lcmp, 1) := by decide +kernel
theorem d_Mod_step_32 : decode c_Mod_step 32 = .ok (.ifCond .gt 14, 3) := by decide +kernel
theorem d_Mod_step_35 : decode c_Mod_step 35 = .ok (.aload_n 0, 1) := by decide +kernel
theorem d_Mod_step_36 : decode c_Mod_step 36 = .ok (.getfield 45, 3) := by decide +kernel
theorem d_Mod_step_39 : decode c_Mod_step 39 = .ok (.iload_n 1, 1) := by decide +kernel
theorem d_Mod_step_40 : decode c_Mod_step 40 = .ok (.iaload, 1) := by decide +kernel
theorem d_Mod_step_41 : decode c_Mod_step 41 = .ok (.bipush 6, 2) := by decide +kernel
theorem d_Mod_step_43 : decode c_Mod_step 43 = .ok (.if_icmp .ne 5, 3) := by decide +kernel
theorem d_Mod_step_46 : decode c_Mod_step 46 = .ok (.iconst 0, 1) := by decide +kernel
theorem d_Mod_step_47 : decode c_Mod_step 47 = .ok (.ireturn, 1) := by decide +kernel
theorem d_Mod_step_48 : decode c_Mod_step 48 = .ok (.bipush 6, 2) := by decide +kernel
theorem d_Mod_step_50 : decode c_Mod_step 50 = .ok (.iload_n 1, 1) := by decide +kernel
theorem d_Mod_step_51 : decode c_Mod_step 51 = .ok (.imul, 1) := by decide +kernel
theorem d_Mod_step_52 : decode c_Mod_step 52 = .ok (.aload_n 0, 1) := by decide +kernel
theorem d_Mod_step_53 : decode c_Mod_step 53 = .ok (.getfield 45, 3) := by decide +kernel
theorem d_Mod_step_56 : decode c_Mod_step 56 = .ok (.iload_n 1, 1) := by decide +kernel
theorem d_Mod_step_57 : decode c_Mod_step 57 = .ok (.iaload, 1) := by decide +kernel
theorem d_Mod_step_58 : decode c_Mod_step 58 = .ok (.iadd, 1) := by decide +kernel
theorem d_Mod_step_59 : decode c_Mod_step 59 = .ok (.istore 8, 2) := by decide +kernel
theorem d_Mod_step_61 : decode c_Mod_step 61 = .ok (.aload_n 0, 1) := by decide +kernel
theorem d_Mod_step_62 : decode c_Mod_step 62 = .ok (.getfield 45, 3) := by decide +kernel
theorem d_Mod_step_65 : decode c_Mod_step 65 = .ok (.iload_n 1, 1) := by decide +kernel
theorem d_Mod_step_66 : decode c_Mod_step 66 = .ok (.iaload, 1) := by decide +kernel
theorem d_Mod_step_67 : decode c_Mod_step 67 = .ok (.ifCond .le 32, 3) := by decide +kernel
theorem d_Mod_step_70 : decode c_Mod_step 70 = .ok (.lload_n 2, 1) := by decide +kernel
theorem d_Mod_step_71 : decode c_Mod_step 71 = .ok (.aload_n 0, 1) := by decide +kernel
theorem d_Mod_step_72 : decode c_Mod_step 72 = .ok (.getfield 51, 3) := by decide +kernel
theorem d_Mod_step_75 : decode c_Mod_step 75 = .ok (.iload 8, 2) := by decide +kernel
theorem d_Mod_step_77 : decode c_Mod_step 77 = .ok (.iconst 1, 1) := by decide +kernel
theorem d_Mod_step_78 : decode c_Mod_step 78 = .ok (.isub, 1) := by decide +kernel
theorem d_Mod_step_79 : decode c_Mod_step 79 = .ok (.laload, 1) := by decide +kernel
theorem d_Mod_step_80 : decode c_Mod_step 80 = .ok (.lmul, 1) := by decide +kernel
theorem d_Mod_step_81 : decode c_Mod_step 81 = .ok (.aload_n 0, 1) := by decide +kernel
theorem d_Mod_step_82 : decode c_Mod_step 82 = .ok (.getfield 48, 3) := by decide +kernel
theorem d_Mod_step_85 : decode c_Mod_step 85 = .ok (.iload 8, 2) := by decide +kernel
theorem d_Mod_step_87 : decode c_Mod_step 87 = .ok (.iconst 1, 1) := by decide +kernel
theorem d_Mod_step_88 : decode c_Mod_step 88 = .ok (.isub, 1) := by decide +kernel
theorem d_Mod_step_89 : decode c_Mod_step 89 = .ok (.laload, 1) := by decide +kernel
theorem d_Mod_step_90 : decode c_Mod_step 90 = .ok (.lload 4, 2) := by decide +kernel
theorem d_Mod_step_92 : decode c_Mod_step 92 = .ok (.lmul, 1) := by decide +kernel
theorem d_Mod_step_93 : decode c_Mod_step 93 = .ok (.lcmp, 1) := by decide +kernel
theorem d_Mod_step_94 : decode c_Mod_step 94 = .ok (.ifCond .gt 5, 3) := by decide +kernel
theorem d_Mod_step_97 : decode c_Mod_step 97 = .ok (.iconst 0, 1) := by decide +kernel
theorem d_Mod_step_98 : decode c_Mod_step 98 = .ok (.ireturn, 1) := by decide +kernel
theorem d_Mod_step_99 : decode c_Mod_step 99 = .ok (.aload_n 0, 1) := by decide +kernel
theorem d_Mod_step_100 : decode c_Mod_step 100 = .ok (.getfield 48, 3) := by decide +kernel
theorem d_Mod_step_103 : decode c_Mod_step 103 = .ok (.iload 8, 2) := by decide +kernel
theorem d_Mod_step_105 : decode c_Mod_step 105 = .ok (.lload_n 2, 1) := by decide +kernel
theorem d_Mod_step_106 : decode c_Mod_step 106 = .ok (.lastore, 1) := by decide +kernel
theorem d_Mod_step_107 : decode c_Mod_step 107 = .ok (.aload_n 0, 1) := by decide +kernel
theorem d_Mod_step_108 : decode c_Mod_step 108 = .ok (.getfield 51, 3) := by decide +kernel
theorem d_Mod_step_111 : decode c_Mod_step 111 = .ok (.iload 8, 2) := by decide +kernel
theorem d_Mod_step_113 : decode c_Mod_step 113 = .ok (.lload 4, 2) := by decide +kernel
theorem d_Mod_step_115 : decode c_Mod_step 115 = .ok (.lastore, 1) := by decide +kernel
theorem d_Mod_step_116 : decode c_Mod_step 116 = .ok (.aload_n 0, 1) := by decide +kernel
theorem d_Mod_step_117 : decode c_Mod_step 117 = .ok (.getfield 54, 3) := by decide +kernel
theorem d_Mod_step_120 : decode c_Mod_step 120 = .ok (.iload 8, 2) := by decide +kernel
theorem d_Mod_step_122 : decode c_Mod_step 122 = .ok (.lload 6, 2) := by decide +kernel
theorem d_Mod_step_124 : decode c_Mod_step 124 = .ok (.lastore, 1) := by decide +kernel
theorem d_Mod_step_125 : decode c_Mod_step 125 = .ok (.aload_n 0, 1) := by decide +kernel
theorem d_Mod_step_126 : decode c_Mod_step 126 = .ok (.getfield 45, 3) := by decide +kernel
theorem d_Mod_step_129 : decode c_Mod_step 129 = .ok (.iload_n 1, 1) := by decide +kernel
theorem d_Mod_step_130 : decode c_Mod_step 130 = .ok (.dup2, 1) := by decide +kernel
theorem d_Mod_step_131 : decode c_Mod_step 131 = .ok (.iaload, 1) := by decide +kernel
theorem d_Mod_step_132 : decode c_Mod_step 132 = .ok (.iconst 1, 1) := by decide +kernel
theorem d_Mod_step_133 : decode c_Mod_step 133 = .ok (.iadd, 1) := by decide +kernel
theorem d_Mod_step_134 : decode c_Mod_step 134 = .ok (.iastore, 1) := by decide +kernel
theorem d_Mod_step_135 : decode c_Mod_step 135 = .ok (.aload_n 0, 1) := by decide +kernel
theorem d_Mod_step_136 : decode c_Mod_step 136 = .ok (.iconst 0, 1) := by decide +kernel
theorem d_Mod_step_137 : decode c_Mod_step 137 = .ok (.putfield 87, 3) := by decide +kernel
theorem d_Mod_step_140 : decode c_Mod_step 140 = .ok (.iconst 1, 1) := by decide +kernel
theorem d_Mod_step_141 : decode c_Mod_step 141 = .ok (.ireturn, 1) := by decide +kernel
theorem d_Mod_isShare_0 : decode c_Mod_isShare 0 = .ok (.lload_n 2, 1) := by decide +kernel
theorem d_Mod_isShare_1 : decode c_Mod_isShare 1 = .ok (.lconst 1, 1) := by decide +kernel
theorem d_Mod_isShare_2 : decode c_Mod_isShare 2 = .ok (.lcmp, 1) := by decide +kernel
theorem d_Mod_isShare_3 : decode c_Mod_isShare 3 = .ok (.ifCond .lt 27, 3) := by decide +kernel
theorem d_Mod_isShare_6 : decode c_Mod_isShare 6 = .ok (.lload_n 2, 1) := by decide +kernel
theorem d_Mod_isShare_7 : decode c_Mod_isShare 7 = .ok (.ldc2_w 163, 3) := by decide +kernel
theorem d_Mod_isShare_10 : decode c_Mod_isShare 10 = .ok (.lcmp, 1) := by decide +kernel
theorem d_Mod_isShare_11 : decode c_Mod_isShare 11 = .ok (.ifCond .gt 19, 3) := by decide +kernel
theorem d_Mod_isShare_14 : decode c_Mod_isShare 14 = .ok (.lload_n 0, 1) := by decide +kernel
theorem d_Mod_isShare_15 : decode c_Mod_isShare 15 = .ok (.lconst 0, 1) := by decide +kernel
theorem d_Mod_isShare_16 : decode c_Mod_isShare 16 = .ok (.lcmp, 1) := by decide +kernel
theorem d_Mod_isShare_17 : decode c_Mod_isShare 17 = .ok (.ifCond .lt 13, 3) := by decide +kernel
theorem d_Mod_isShare_20 : decode c_Mod_isShare 20 = .ok (.lload_n 0, 1) := by decide +kernel
theorem d_Mod_isShare_21 : decode c_Mod_isShare 21 = .ok (.lload_n 2, 1) := by decide +kernel
theorem d_Mod_isShare_22 : decode c_Mod_isShare 22 = .ok (.lcmp, 1) := by decide +kernel
theorem d_Mod_isShare_23 : decode c_Mod_isShare 23 = .ok (.ifCond .gt 7, 3) := by decide +kernel
theorem d_Mod_isShare_26 : decode c_Mod_isShare 26 = .ok (.iconst 1, 1) := by decide +kernel
theorem d_Mod_isShare_27 : decode c_Mod_isShare 27 = .ok (.goto 4, 3) := by decide +kernel
theorem d_Mod_isShare_30 : decode c_Mod_isShare 30 = .ok (.iconst 0, 1) := by decide +kernel
theorem d_Mod_isShare_31 : decode c_Mod_isShare 31 = .ok (.ireturn, 1) := by decide +kernel
theorem d_Mod_price_0 : decode c_Mod_price 0 = .ok (.aload_n 0, 1) := by decide +kernel
theorem d_Mod_price_1 : decode c_Mod_price 1 = .ok (.iload_n 1, 1) := by decide +kernel
theorem d_Mod_price_2 : decode c_Mod_price 2 = .ok (.invokevirtual 157, 3) := by decide +kernel
theorem d_Mod_price_5 : decode c_Mod_price 5 = .ok (.ifCond .eq 12, 3) := by decide +kernel
theorem d_Mod_price_8 : decode c_Mod_price 8 = .ok (.lload_n 2, 1) := by decide +kernel
theorem d_Mod_price_9 : decode c_Mod_price 9 = .ok (.lload 4, 2) := by decide +kernel
theorem d_Mod_price_11 : decode c_Mod_price 11 = .ok (.invokestatic 165, 3) := by decide +kernel
theorem d_Mod_price_14 : decode c_Mod_price 14 = .ok (.ifCond .ne 7, 3) := by decide +kernel
theorem d_Mod_price_17 : decode c_Mod_price 17 = .ok (.ldc2_w 155, 3) := by decide +kernel
theorem d_Mod_price_20 : decode c_Mod_price 20 = .ok (.lreturn, 1) := by decide +kernel
theorem d_Mod_price_21 : decode c_Mod_price 21 = .ok (.aload_n 0, 1) := by decide +kernel
theorem d_Mod_price_22 : decode c_Mod_price 22 = .ok (.getfield 33, 3) := by decide +kernel
theorem d_Mod_price_25 : decode c_Mod_price 25 = .ok (.iload_n 1, 1) := by decide +kernel
theorem d_Mod_price_26 : decode c_Mod_price 26 = .ok (.laload, 1) := by decide +kernel
theorem d_Mod_price_27 : decode c_Mod_price 27 = .ok (.lstore 6, 2) := by decide +kernel
theorem d_Mod_price_29 : decode c_Mod_price 29 = .ok (.iconst 0, 1) := by decide +kernel
theorem d_Mod_price_30 : decode c_Mod_price 30 = .ok (.istore 8, 2) := by decide +kernel
theorem d_Mod_price_32 : decode c_Mod_price 32 = .ok (.iload 8, 2) := by decide +kernel
theorem d_Mod_price_34 : decode c_Mod_price 34 = .ok (.aload_n 0, 1) := by decide +kernel
theorem d_Mod_price_35 : decode c_Mod_price 35 = .ok (.getfield 75, 3) := by decide +kernel
theorem d_Mod_price_38 : decode c_Mod_price 38 = .ok (.if_icmp .ge 102, 3) := by decide +kernel
theorem d_Mod_price_41 : decode c_Mod_price 41 = .ok (.aload_n 0, 1) := by decide +kernel
theorem d_Mod_price_42 : decode c_Mod_price 42 = .ok (.getfield 36, 3) := by decide +kernel
theorem d_Mod_price_45 : decode c_Mod_price 45 = .ok (.bipush 8, 2) := by decide +kernel
theorem d_Mod_price_47 : decode c_Mod_price 47 = .ok (.iload_n 1, 1) := by decide +kernel
theorem d_Mod_price_48 : decode c_Mod_price 48 = .ok (.imul, 1) := by decide +kernel
theorem d_Mod_price_49 : decode c_Mod_price 49 = .ok (.iload 8, 2) := by decide +kernel
theorem d_Mod_price_51 : decode c_Mod_price 51 = .ok (.iadd, 1) := by decide +kernel
theorem d_Mod_price_52 : decode c_Mod_price 52 = .ok (.baload, 1) := by decide +kernel
theorem d_Mod_price_53 : decode c_Mod_price 53 = .ok (.ifCond .eq 81, 3) := by decide +kernel
theorem d_Mod_price_56 : decode c_Mod_price 56 = .ok (.lconst 0, 1) := by decide +kernel
theorem d_Mod_price_57 : decode c_Mod_price 57 = .ok (.lstore 9, 2) := by decide +kernel
theorem d_Mod_price_59 : decode c_Mod_price 59 = .ok (.iconst 0, 1) := by decide +kernel
theorem d_Mod_price_60 : decode c_Mod_price 60 = .ok (.istore 11, 2) := by decide +kernel
theorem d_Mod_price_62 : decode c_Mod_price 62 = .ok (.iload 11, 2) := by decide +kernel
theorem d_Mod_price_64 : decode c_Mod_price 64 = .ok (.aload_n 0, 1) := by decide +kernel
theorem d_Mod_price_65 : decode c_Mod_price 65 = .ok (.getfield 45, 3) := by decide +kernel
theorem d_Mod_price_68 : decode c_Mod_price 68 = .ok (.iload 8, 2) := by decide +kernel
theorem d_Mod_price_70 : decode c_Mod_price 70 = .ok (.iaload, 1) := by decide +kernel
theorem d_Mod_price_71 : decode c_Mod_price 71 = .ok (.if_icmp .ge 56, 3) := by decide +kernel
theorem d_Mod_price_74 : decode c_Mod_price 74 = .ok (.bipush 6, 2) := by decide +kernel
theorem d_Mod_price_76 : decode c_Mod_price 76 = .ok (.iload 8, 2) := by decide +kernel
theorem d_Mod_price_78 : decode c_Mod_price 78 = .ok (.imul, 1) := by decide +kernel
theorem d_Mod_price_79 : decode c_Mod_price 79 = .ok (.iload 11, 2) := by decide +kernel
theorem d_Mod_price_81 : decode c_Mod_price 81 = .ok (.iadd, 1) := by decide +kernel
theorem d_Mod_price_82 : decode c_Mod_price 82 = .ok (.istore 12, 2) := by decide +kernel
theorem d_Mod_price_84 : decode c_Mod_price 84 = .ok (.aload_n 0, 1) := by decide +kernel
theorem d_Mod_price_85 : decode c_Mod_price 85 = .ok (.getfield 48, 3) := by decide +kernel
theorem d_Mod_price_88 : decode c_Mod_price 88 = .ok (.iload 12, 2) := by decide +kernel
theorem d_Mod_price_90 : decode c_Mod_price 90 = .ok (.laload, 1) := by decide +kernel
theorem d_Mod_price_91 : decode c_Mod_price 91 = .ok (.lload 4, 2) := by decide +kernel
theorem d_Mod_price_93 : decode c_Mod_price 93 = .ok (.lmul, 1) := by decide +kernel
theorem d_Mod_price_94 : decode c_Mod_price 94 = .ok (.lload_n 2, 1) := by decide +kernel
theorem d_Mod_price_95 : decode c_Mod_price 95 = .ok (.aload_n 0, 1) := by decide +kernel
theorem d_Mod_price_96 : decode c_Mod_price 96 = .ok (.getfield 51, 3) := by decide +kernel
theorem d_Mod_price_99 : decode c_Mod_price 99 = .ok (.iload 12, 2) := by decide +kernel
theorem d_Mod_price_101 : decode c_Mod_price 101 = .ok (.laload, 1) := by decide +kernel
theorem d_Mod_price_102 : decode c_Mod_price 102 = .ok (.lmul, 1) := by decide +kernel
theorem d_Mod_price_103 : decode c_Mod_price 103 = .ok (.lcmp, 1) := by decide +kernel
theorem d_Mod_price_104 : decode c_Mod_price 104 = .ok (.ifCond .gt 13, 3) := by decide +kernel
theorem d_Mod_price_107 : decode c_Mod_price 107 = .ok (.aload_n 0, 1) := by decide +kernel
theorem d_Mod_price_108 : decode c_Mod_price 108 = .ok (.getfield 54, 3) := by decide +kernel
theorem d_Mod_price_111 : decode c_Mod_price 111 = .ok (.iload 12, 2) := by decide +kernel
theorem d_Mod_price_113 : decode c_Mod_price 113 = .ok (.laload, 1) := by decide +kernel
theorem d_Mod_price_114 : decode c_Mod_price 114 = .ok (.goto 5, 3) := by decide +kernel
theorem d_Mod_price_117 : decode c_Mod_price 117 = .ok (.lload 9, 2) := by decide +kernel
theorem d_Mod_price_119 : decode c_Mod_price 119 = .ok (.lstore 9, 2) := by decide +kernel
theorem d_Mod_price_121 : decode c_Mod_price 121 = .ok (.iinc 11 1, 3) := by decide +kernel
theorem d_Mod_price_124 : decode c_Mod_price 124 = .ok (.goto (-62), 3) := by decide +kernel
theorem d_Mod_price_127 : decode c_Mod_price 127 = .ok (.lload 6, 2) := by decide +kernel
theorem d_Mod_price_129 : decode c_Mod_price 129 = .ok (.lload 9, 2) := by decide +kernel
theorem d_Mod_price_131 : decode c_Mod_price 131 = .ok (.ladd, 1) := by decide +kernel
theorem d_Mod_price_132 : decode c_Mod_price 132 = .ok (.lstore 6, 2) := by decide +kernel
theorem d_Mod_price_134 : decode c_Mod_price 134 = .ok (.iinc 8 1, 3) := by decide +kernel
theorem d_Mod_price_137 : decode c_Mod_price 137 = .ok (.goto (-105), 3) := by decide +kernel
theorem d_Mod_price_140 : decode c_Mod_price 140 = .ok (.lload 6, 2) := by decide +kernel
theorem d_Mod_price_142 : decode c_Mod_price 142 = .ok (.lconst 0, 1) := by decide +kernel
theorem d_Mod_price_143 : decode c_Mod_price 143 = .ok (.lcmp, 1) := by decide +kernel
theorem d_Mod_price_144 : decode c_Mod_price 144 = .ok (.ifCond .ge 7, 3) := by decide +kernel
theorem d_Mod_price_147 : decode c_Mod_price 147 = .ok (.lconst 0, 1) := by decide +kernel
theorem d_Mod_price_148 : decode c_Mod_price 148 = .ok (.goto 5, 3) := by decide +kernel
theorem d_Mod_price_151 : decode c_Mod_price 151 = .ok (.lload 6, 2) := by decide +kernel
theorem d_Mod_price_153 : decode c_Mod_price 153 = .ok (.lreturn, 1) := by decide +kernel
theorem d_Mod_index_0 : decode c_Mod_index 0 = .ok (.iload_n 1, 1) := by decide +kernel
theorem d_Mod_index_1 : decode c_Mod_index 1 = .ok (.invokestatic 173, 3) := by decide +kernel
theorem d_Mod_index_4 : decode c_Mod_index 4 = .ok (.ifCond .eq 42, 3) := by decide +kernel
theorem d_Mod_index_7 : decode c_Mod_index 7 = .ok (.aload_n 0, 1) := by decide +kernel
theorem d_Mod_index_8 : decode c_Mod_index 8 = .ok (.getfield 57, 3) := by decide +kernel
theorem d_Mod_index_11 : decode c_Mod_index 11 = .ok (.iload_n 1, 1) := by decide +kernel
theorem d_Mod_index_12 : decode c_Mod_index 12 = .ok (.baload, 1) := by decide +kernel
theorem d_Mod_index_13 : decode c_Mod_index 13 = .ok (.ifCond .ne 33, 3) := by decide +kernel
theorem d_Mod_index_16 : decode c_Mod_index 16 = .ok (.lload_n 2, 1) := by decide +kernel
theorem d_Mod_index_17 : decode c_Mod_index 17 = .ok (.lconst 1, 1) := by decide +kernel
theorem d_Mod_index_18 : decode c_Mod_index 18 = .ok (.lcmp, 1) := by decide +kernel
theorem d_Mod_index_19 : decode c_Mod_index 19 = .ok (.ifCond .lt 27, 3) := by decide +kernel
theorem d_Mod_index_22 : decode c_Mod_index 22 = .ok (.lload_n 2, 1) := by decide +kernel
theorem d_Mod_index_23 : decode c_Mod_index 23 = .ok (.ldc2_w 163, 3) := by decide +kernel
theorem d_Mod_index_26 : decode c_Mod_index 26 = .ok (.lcmp, 1) := by decide +kernel
theorem d_Mod_index_27 : decode c_Mod_index 27 = .ok (.ifCond .gt 19, 3) := by decide +kernel
theorem d_Mod_index_30 : decode c_Mod_index 30 = .ok (.lload 4, 2) := by decide +kernel
theorem d_Mod_index_32 : decode c_Mod_index 32 = .ok (.lconst 1, 1) := by decide +kernel
theorem d_Mod_index_33 : decode c_Mod_index 33 = .ok (.lcmp, 1) := by decide +kernel
theorem d_Mod_index_34 : decode c_Mod_index 34 = .ok (.ifCond .lt 12, 3) := by decide +kernel
theorem d_Mod_index_37 : decode c_Mod_index 37 = .ok (.lload 4, 2) := by decide +kernel
theorem d_Mod_index_39 : decode c_Mod_index 39 = .ok (.ldc2_w 163, 3) := by decide +kernel
theorem d_Mod_index_42 : decode c_Mod_index 42 = .ok (.lcmp, 1) := by decide +kernel
theorem d_Mod_index_43 : decode c_Mod_index 43 = .ok (.ifCond .le 5, 3) := by decide +kernel
theorem d_Mod_index_46 : decode c_Mod_index 46 = .ok (.iconst 0, 1) := by decide +kernel
theorem d_Mod_index_47 : decode c_Mod_index 47 = .ok (.ireturn, 1) := by decide +kernel
theorem d_Mod_index_48 : decode c_Mod_index 48 = .ok (.aload_n 0, 1) := by decide +kernel
theorem d_Mod_index_49 : decode c_Mod_index 49 = .ok (.getfield 57, 3) := by decide +kernel
theorem d_Mod_index_52 : decode c_Mod_index 52 = .ok (.iload_n 1, 1) := by decide +kernel
theorem d_Mod_index_53 : decode c_Mod_index 53 = .ok (.iconst 1, 1) := by decide +kernel
theorem d_Mod_index_54 : decode c_Mod_index 54 = .ok (.bastore, 1) := by decide +kernel
theorem d_Mod_index_55 : decode c_Mod_index 55 = .ok (.aload_n 0, 1) := by decide +kernel
theorem d_Mod_index_56 : decode c_Mod_index 56 = .ok (.getfield 60, 3) := by decide +kernel
theorem d_Mod_index_59 : decode c_Mod_index 59 = .ok (.iload_n 1, 1) := by decide +kernel
theorem d_Mod_index_60 : decode c_Mod_index 60 = .ok (.lload_n 2, 1) := by decide +kernel
theorem d_Mod_index_61 : decode c_Mod_index 61 = .ok (.lastore, 1) := by decide +kernel
theorem d_Mod_index_62 : decode c_Mod_index 62 = .ok (.aload_n 0, 1) := by decide +kernel
theorem d_Mod_index_63 : decode c_Mod_index 63 = .ok (.getfield 63, 3) := by decide +kernel
theorem d_Mod_index_66 : decode c_Mod_index 66 = .ok (.iload_n 1, 1) := by decide +kernel
theorem d_Mod_index_67 : decode c_Mod_index 67 = .ok (.lload 4, 2) := by decide +kernel
theorem d_Mod_index_69 : decode c_Mod_index 69 = .ok (.lastore, 1) := by decide +kernel
theorem d_Mod_index_70 : decode c_Mod_index 70 = .ok (.aload_n 0, 1) := by decide +kernel
theorem d_Mod_index_71 : decode c_Mod_index 71 = .ok (.iconst 0, 1) := by decide +kernel
theorem d_Mod_index_72 : decode c_Mod_index 72 = .ok (.putfield 87, 3) := by decide +kernel
theorem d_Mod_index_75 : decode c_Mod_index 75 = .ok (.iconst 1, 1) := by decide +kernel
theorem d_Mod_index_76 : decode c_Mod_index 76 = .ok (.ireturn, 1) := by decide +kernel
theorem d_Mod_isMonth_0 : decode c_Mod_isMonth 0 = .ok (.iload_n 0, 1) := by decide +kernel
theorem d_Mod_isMonth_1 : decode c_Mod_isMonth 1 = .ok (.ifCond .lt 13, 3) := by decide +kernel
theorem d_Mod_isMonth_4 : decode c_Mod_isMonth 4 = .ok (.iload_n 0, 1) := by decide +kernel
theorem d_Mod_isMonth_5 : decode c_Mod_isMonth 5 = .ok (.bipush 60, 2) := by decide +kernel
theorem d_Mod_isMonth_7 : decode c_Mod_isMonth 7 = .ok (.if_icmp .ge 7, 3) := by decide +kernel
theorem d_Mod_isMonth_10 : decode c_Mod_isMonth 10 = .ok (.iconst 1, 1) := by decide +kernel
theorem d_Mod_isMonth_11 : decode c_Mod_isMonth 11 = .ok (.goto 4, 3) := by decide +kernel
theorem d_Mod_isMonth_14 : decode c_Mod_isMonth 14 = .ok (.iconst 0, 1) := by decide +kernel
theorem d_Mod_isMonth_15 : decode c_Mod_isMonth 15 = .ok (.ireturn, 1) := by decide +kernel
theorem d_Mod_monthly_0 : decode c_Mod_monthly 0 = .ok (.aload_n 0, 1) := by decide +kernel
theorem d_Mod_monthly_1 : decode c_Mod_monthly 1 = .ok (.iload_n 1, 1) := by decide +kernel
theorem d_Mod_monthly_2 : decode c_Mod_monthly 2 = .ok (.invokevirtual 157, 3) := by decide +kernel
theorem d_Mod_monthly_5 : decode c_Mod_monthly 5 = .ok (.ifCond .eq 10, 3) := by decide +kernel
theorem d_Mod_monthly_8 : decode c_Mod_monthly 8 = .ok (.iload_n 2, 1) := by decide +kernel
theorem d_Mod_monthly_9 : decode c_Mod_monthly 9 = .ok (.invokestatic 173, 3) := by decide +kernel
theorem d_Mod_monthly_12 : decode c_Mod_monthly 12 = .ok (.ifCond .ne 7, 3) := by decide +kernel
theorem d_Mod_monthly_15 : decode c_Mod_monthly 15 = .ok (.ldc2_w 155, 3) := by decide +kernel
theorem d_Mod_monthly_18 : decode c_Mod_monthly 18 = .ok (.lreturn, 1) := by decide +kernel
theorem d_Mod_monthly_19 : decode c_Mod_monthly 19 = .ok (.aload_n 0, 1) := by decide +kernel
theorem d_Mod_monthly_20 : decode c_Mod_monthly 20 = .ok (.getfield 33, 3) := by decide +kernel
theorem d_Mod_monthly_23 : decode c_Mod_monthly 23 = .ok (.iload_n 1, 1) := by decide +kernel
theorem d_Mod_monthly_24 : decode c_Mod_monthly 24 = .ok (.laload, 1) := by decide +kernel
theorem d_Mod_monthly_25 : decode c_Mod_monthly 25 = .ok (.lstore_n 3, 1) := by decide +kernel
theorem d_Mod_monthly_26 : decode c_Mod_monthly 26 = .ok (.iconst 0, 1) := by decide +kernel
theorem d_Mod_monthly_27 : decode c_Mod_monthly 27 = .ok (.istore 5, 2) := by decide +kernel
theorem d_Mod_monthly_29 : decode c_Mod_monthly 29 = .ok (.iload 5, 2) := by decide +kernel
theorem d_Mod_monthly_31 : decode c_Mod_monthly 31 = .ok (.iload_n 2, 1) := by decide +kernel
theorem d_Mod_monthly_32 : decode c_Mod_monthly 32 = .ok (.if_icmp .gt 53, 3) := by decide +kernel
theorem d_Mod_monthly_35 : decode c_Mod_monthly 35 = .ok (.aload_n 0, 1) := by decide +kernel
theorem d_Mod_monthly_36 : decode c_Mod_monthly 36 = .ok (.getfield 57, 3) := by decide +kernel
theorem d_Mod_monthly_39 : decode c_Mod_monthly 39 = .ok (.iload 5, 2) := by decide +kernel
theorem d_Mod_monthly_41 : decode c_Mod_monthly 41 = .ok (.baload, 1) := by decide +kernel
theorem d_Mod_monthly_42 : decode c_Mod_monthly 42 = .ok (.ifCond .eq 37, 3) := by decide +kernel
theorem d_Mod_monthly_45 : decode c_Mod_monthly 45 = .ok (.lload_n 3, 1) := by decide +kernel
theorem d_Mod_monthly_46 : decode c_Mod_monthly 46 = .ok (.aload_n 0, 1) := by decide +kernel
theorem d_Mod_monthly_47 : decode c_Mod_monthly 47 = .ok (.getfield 60, 3) := by decide +kernel
theorem d_Mod_monthly_50 : decode c_Mod_monthly 50 = .ok (.iload 5, 2) := by decide +kernel
theorem d_Mod_monthly_52 : decode c_Mod_monthly 52 = .ok (.laload, 1) := by decide +kernel
theorem d_Mod_monthly_53 : decode c_Mod_monthly 53 = .ok (.lmul, 1) := by decide +kernel
theorem d_Mod_monthly_54 : decode c_Mod_monthly 54 = .ok (.aload_n 0, 1) := by decide +kernel
theorem d_Mod_monthly_55 : decode c_Mod_monthly 55 = .ok (.getfield 63, 3) := by decide +kernel
theorem d_Mod_monthly_58 : decode c_Mod_monthly 58 = .ok (.iload 5, 2) := by decide +kernel
theorem d_Mod_monthly_60 : decode c_Mod_monthly 60 = .ok (.laload, 1) := by decide +kernel
theorem d_Mod_monthly_61 : decode c_Mod_monthly 61 = .ok (.ldiv, 1) := by decide +kernel
theorem d_Mod_monthly_62 : decode c_Mod_monthly 62 = .ok (.lstore_n 3, 1) := by decide +kernel
theorem d_Mod_monthly_63 : decode c_Mod_monthly 63 = .ok (.lload_n 3, 1) := by decide +kernel
theorem d_Mod_monthly_64 : decode c_Mod_monthly 64 = .ok (.ldc2_w 176, 3) := by decide +kernel
theorem d_Mod_monthly_67 : decode c_Mod_monthly 67 = .ok (.lcmp, 1) := by decide +kernel
theorem d_Mod_monthly_68 : decode c_Mod_monthly 68 = .ok (.ifCond .le 9, 3) := by decide +kernel
theorem d_Mod_monthly_71 : decode c_Mod_monthly 71 = .ok (.ldc2_w 176, 3) := by decide +kernel
theorem d_Mod_monthly_74 : decode c_Mod_monthly 74 = .ok (.goto 4, 3) := by decide +kernel
theorem d_Mod_monthly_77 : decode c_Mod_monthly 77 = .ok (.lload_n 3, 1) := by decide +kernel
theorem d_Mod_monthly_78 : decode c_Mod_monthly 78 = .ok (.lstore_n 3, 1) := by decide +kernel
theorem d_Mod_monthly_79 : decode c_Mod_monthly 79 = .ok (.iinc 5 1, 3) := by decide +kernel
theorem d_Mod_monthly_82 : decode c_Mod_monthly 82 = .ok (.goto (-53), 3) := by decide +kernel
theorem d_Mod_monthly_85 : decode c_Mod_monthly 85 = .ok (.lload_n 3, 1) := by decide +kernel
theorem d_Mod_monthly_86 : decode c_Mod_monthly 86 = .ok (.lreturn, 1) := by decide +kernel
theorem d_Mod_dispute_0 : decode c_Mod_dispute 0 = .ok (.aload_n 0, 1) := by decide +kernel
theorem d_Mod_dispute_1 : decode c_Mod_dispute 1 = .ok (.getfield 178, 3) := by decide +kernel
theorem d_Mod_dispute_4 : decode c_Mod_dispute 4 = .ok (.bipush 20, 2) := by decide +kernel
theorem d_Mod_dispute_6 : decode c_Mod_dispute 6 = .ok (.if_icmp .eq 22, 3) := by decide +kernel
theorem d_Mod_dispute_9 : decode c_Mod_dispute 9 = .ok (.aload_n 0, 1) := by decide +kernel
theorem d_Mod_dispute_10 : decode c_Mod_dispute 10 = .ok (.iload_n 1, 1) := by decide +kernel
theorem d_Mod_dispute_11 : decode c_Mod_dispute 11 = .ok (.invokevirtual 97, 3) := by decide +kernel
theorem d_Mod_dispute_14 : decode c_Mod_dispute 14 = .ok (.ifCond .eq 14, 3) := by decide +kernel
theorem d_Mod_dispute_17 : decode c_Mod_dispute 17 = .ok (.iload_n 2, 1) := by decide +kernel
theorem d_Mod_dispute_18 : decode c_Mod_dispute 18 = .ok (.iconst 1, 1) := by decide +kernel
theorem d_Mod_dispute_19 : decode c_Mod_dispute 19 = .ok (.if_icmp .lt 9, 3) := by decide +kernel
theorem d_Mod_dispute_22 : decode c_Mod_dispute 22 = .ok (.iload_n 2, 1) := by decide +kernel
theorem d_Mod_dispute_23 : decode c_Mod_dispute 23 = .ok (.bipush 6, 2) := by decide +kernel
theorem d_Mod_dispute_25 : decode c_Mod_dispute 25 = .ok (.if_icmp .le 5, 3) := by decide +kernel
theorem d_Mod_dispute_28 : decode c_Mod_dispute 28 = .ok (.iconst (-1), 1) := by decide +kernel
theorem d_Mod_dispute_29 : decode c_Mod_dispute 29 = .ok (.ireturn, 1) := by decide +kernel
theorem d_Mod_dispute_30 : decode c_Mod_dispute 30 = .ok (.aload_n 0, 1) := by decide +kernel
theorem d_Mod_dispute_31 : decode c_Mod_dispute 31 = .ok (.getfield 66, 3) := by decide +kernel
theorem d_Mod_dispute_34 : decode c_Mod_dispute 34 = .ok (.aload_n 0, 1) := by decide +kernel
theorem d_Mod_dispute_35 : decode c_Mod_dispute 35 = .ok (.getfield 178, 3) := by decide +kernel
theorem d_Mod_dispute_38 : decode c_Mod_dispute 38 = .ok (.iload_n 1, 1) := by decide +kernel
theorem d_Mod_dispute_39 : decode c_Mod_dispute 39 = .ok (.iastore, 1) := by decide +kernel
theorem d_Mod_dispute_40 : decode c_Mod_dispute 40 = .ok (.aload_n 0, 1) := by decide +kernel
theorem d_Mod_dispute_41 : decode c_Mod_dispute 41 = .ok (.getfield 69, 3) := by decide +kernel
theorem d_Mod_dispute_44 : decode c_Mod_dispute 44 = .ok (.aload_n 0, 1) := by decide +kernel
theorem d_Mod_dispute_45 : decode c_Mod_dispute 45 = .ok (.getfield 178, 3) := by decide +kernel
theorem d_Mod_dispute_48 : decode c_Mod_dispute 48 = .ok (.iload_n 2, 1) := by decide +kernel
theorem d_Mod_dispute_49 : decode c_Mod_dispute 49 = .ok (.iastore, 1) := by decide +kernel
theorem d_Mod_dispute_50 : decode c_Mod_dispute 50 = .ok (.aload_n 0, 1) := by decide +kernel
theorem d_Mod_dispute_51 : decode c_Mod_dispute 51 = .ok (.dup, 1) := by decide +kernel
theorem d_Mod_dispute_52 : decode c_Mod_dispute 52 = .ok (.getfield 178, 3) := by decide +kernel
theorem d_Mod_dispute_55 : decode c_Mod_dispute 55 = .ok (.iconst 1, 1) := by decide +kernel
theorem d_Mod_dispute_56 : decode c_Mod_dispute 56 = .ok (.iadd, 1) := by decide +kernel
theorem d_Mod_dispute_57 : decode c_Mod_dispute 57 = .ok (.putfield 178, 3) := by decide +kernel
theorem d_Mod_dispute_60 : decode c_Mod_dispute 60 = .ok (.aload_n 0, 1) := by decide +kernel
theorem d_Mod_dispute_61 : decode c_Mod_dispute 61 = .ok (.iconst 0, 1) := by decide +kernel
theorem d_Mod_dispute_62 : decode c_Mod_dispute 62 = .ok (.putfield 87, 3) := by decide +kernel
theorem d_Mod_dispute_65 : decode c_Mod_dispute 65 = .ok (.aload_n 0, 1) := by decide +kernel
theorem d_Mod_dispute_66 : decode c_Mod_dispute 66 = .ok (.getfield 178, 3) := by decide +kernel
theorem d_Mod_dispute_69 : decode c_Mod_dispute 69 = .ok (.iconst 1, 1) := by decide +kernel
theorem d_Mod_dispute_70 : decode c_Mod_dispute 70 = .ok (.isub, 1) := by decide +kernel
theorem d_Mod_dispute_71 : decode c_Mod_dispute 71 = .ok (.ireturn, 1) := by decide +kernel
theorem d_Mod_verdict_0 : decode c_Mod_verdict 0 = .ok (.iload_n 1, 1) := by decide +kernel
theorem d_Mod_verdict_1 : decode c_Mod_verdict 1 = .ok (.ifCond .lt 11, 3) := by decide +kernel
theorem d_Mod_verdict_4 : decode c_Mod_verdict 4 = .ok (.iload_n 1, 1) := by decide +kernel
theorem d_Mod_verdict_5 : decode c_Mod_verdict 5 = .ok (.aload_n 0, 1) := by decide +kernel
theorem d_Mod_verdict_6 : decode c_Mod_verdict 6 = .ok (.getfield 178, 3) := by decide +kernel
theorem d_Mod_verdict_9 : decode c_Mod_verdict 9 = .ok (.if_icmp .lt 5, 3) := by decide +kernel
theorem d_Mod_verdict_12 : decode c_Mod_verdict 12 = .ok (.iconst (-1), 1) := by decide +kernel
theorem d_Mod_verdict_13 : decode c_Mod_verdict 13 = .ok (.ireturn, 1) := by decide +kernel
theorem d_Mod_verdict_14 : decode c_Mod_verdict 14 = .ok (.aload_n 0, 1) := by decide +kernel
theorem d_Mod_verdict_15 : decode c_Mod_verdict 15 = .ok (.getfield 66, 3) := by decide +kernel
theorem d_Mod_verdict_18 : decode c_Mod_verdict 18 = .ok (.iload_n 1, 1) := by decide +kernel
theorem d_Mod_verdict_19 : decode c_Mod_verdict 19 = .ok (.iaload, 1) := by decide +kernel
theorem d_Mod_verdict_20 : decode c_Mod_verdict 20 = .ok (.istore_n 2, 1) := by decide +kernel
theorem d_Mod_verdict_21 : decode c_Mod_verdict 21 = .ok (.aload_n 0, 1) := by decide +kernel
theorem d_Mod_verdict_22 : decode c_Mod_verdict 22 = .ok (.getfield 42, 3) := by decide +kernel
theorem d_Mod_verdict_25 : decode c_Mod_verdict 25 = .ok (.iload_n 2, 1) := by decide +kernel
theorem d_Mod_verdict_26 : decode c_Mod_verdict 26 = .ok (.baload, 1) := by decide +kernel
theorem d_Mod_verdict_27 : decode c_Mod_verdict 27 = .ok (.ifCond .eq 5, 3) := by decide +kernel
theorem d_Mod_verdict_30 : decode c_Mod_verdict 30 = .ok (.iconst 2, 1) := by decide +kernel
theorem d_Mod_verdict_31 : decode c_Mod_verdict 31 = .ok (.ireturn, 1) := by decide +kernel
theorem d_Mod_verdict_32 : decode c_Mod_verdict 32 = .ok (.aload_n 0, 1) := by decide +kernel
theorem d_Mod_verdict_33 : decode c_Mod_verdict 33 = .ok (.getfield 69, 3) := by decide +kernel
theorem d_Mod_verdict_36 : decode c_Mod_verdict 36 = .ok (.iload_n 1, 1) := by decide +kernel
theorem d_Mod_verdict_37 : decode c_Mod_verdict 37 = .ok (.iaload, 1) := by decide +kernel
theorem d_Mod_verdict_38 : decode c_Mod_verdict 38 = .ok (.bipush 6, 2) := by decide +kernel
theorem d_Mod_verdict_40 : decode c_Mod_verdict 40 = .ok (.if_icmp .ge 23, 3) := by decide +kernel
theorem d_Mod_verdict_43 : decode c_Mod_verdict 43 = .ok (.aload_n 0, 1) := by decide +kernel
theorem d_Mod_verdict_44 : decode c_Mod_verdict 44 = .ok (.iload_n 2, 1) := by decide +kernel
theorem d_Mod_verdict_45 : decode c_Mod_verdict 45 = .ok (.aload_n 0, 1) := by decide +kernel
theorem d_Mod_verdict_46 : decode c_Mod_verdict 46 = .ok (.getfield 69, 3) := by decide +kernel
theorem d_Mod_verdict_49 : decode c_Mod_verdict 49 = .ok (.iload_n 1, 1) := by decide +kernel
theorem d_Mod_verdict_50 : decode c_Mod_verdict 50 = .ok (.iaload, 1) := by decide +kernel
theorem d_Mod_verdict_51 : decode c_Mod_verdict 51 = .ok (.invokevirtual 181, 3) := by decide +kernel
theorem d_Mod_verdict_54 : decode c_Mod_verdict 54 = .ok (.ifCond .eq 7, 3) := by decide +kernel
theorem d_Mod_verdict_57 : decode c_Mod_verdict 57 = .ok (.iconst 1, 1) := by decide +kernel
theorem d_Mod_verdict_58 : decode c_Mod_verdict 58 = .ok (.goto 4, 3) := by decide +kernel
theorem d_Mod_verdict_61 : decode c_Mod_verdict 61 = .ok (.iconst 0, 1) := by decide +kernel
theorem d_Mod_verdict_62 : decode c_Mod_verdict 62 = .ok (.ireturn, 1) := by decide +kernel
theorem d_Mod_verdict_63 : decode c_Mod_verdict 63 = .ok (.iconst 1, 1) := by decide +kernel
theorem d_Mod_verdict_64 : decode c_Mod_verdict 64 = .ok (.istore_n 3, 1) := by decide +kernel
theorem d_Mod_verdict_65 : decode c_Mod_verdict 65 = .ok (.iload_n 3, 1) := by decide +kernel
theorem d_Mod_verdict_66 : decode c_Mod_verdict 66 = .ok (.bipush 6, 2) := by decide +kernel
theorem d_Mod_verdict_68 : decode c_Mod_verdict 68 = .ok (.if_icmp .ge 20, 3) := by decide +kernel
theorem d_Mod_verdict_71 : decode c_Mod_verdict 71 = .ok (.aload_n 0, 1) := by decide +kernel
theorem d_Mod_verdict_72 : decode c_Mod_verdict 72 = .ok (.iload_n 2, 1) := by decide +kernel
theorem d_Mod_verdict_73 : decode c_Mod_verdict 73 = .ok (.iload_n 3, 1) := by decide +kernel
theorem d_Mod_verdict_74 : decode c_Mod_verdict 74 = .ok (.invokevirtual 181, 3) := by decide +kernel
theorem d_Mod_verdict_77 : decode c_Mod_verdict 77 = .ok (.ifCond .eq 5, 3) := by decide +kernel
theorem d_Mod_verdict_80 : decode c_Mod_verdict 80 = .ok (.iconst 0, 1) := by decide +kernel
theorem d_Mod_verdict_81 : decode c_Mod_verdict 81 = .ok (.ireturn, 1) := by decide +kernel
theorem d_Mod_verdict_82 : decode c_Mod_verdict 82 = .ok (.iinc 3 1, 3) := by decide +kernel
theorem d_Mod_verdict_85 : decode c_Mod_verdict 85 = .ok (.goto (-20), 3) := by decide +kernel
theorem d_Mod_verdict_88 : decode c_Mod_verdict 88 = .ok (.iconst 1, 1) := by decide +kernel
theorem d_Mod_verdict_89 : decode c_Mod_verdict 89 = .ok (.ireturn, 1) := by decide +kernel
theorem d_Mod_holds_0 : decode c_Mod_holds 0 = .ok (.iload_n 2, 1) := by decide +kernel
theorem d_Mod_holds_1 : decode c_Mod_holds 1 = .ok (.iconst 1, 1) := by decide +kernel
theorem d_Mod_holds_2 : decode c_Mod_holds 2 = .ok (.if_icmp .ne 23, 3) := by decide +kernel
theorem d_Mod_holds_5 : decode c_Mod_holds 5 = .ok (.aload_n 0, 1) := by decide +kernel
theorem d_Mod_holds_6 : decode c_Mod_holds 6 = .ok (.getfield 7, 3) := by decide +kernel
theorem d_Mod_holds_9 : decode c_Mod_holds 9 = .ok (.aload_n 0, 1) := by decide +kernel
theorem d_Mod_holds_10 : decode c_Mod_holds 10 = .ok (.getfield 30, 3) := by decide +kernel
theorem d_Mod_holds_13 : decode c_Mod_holds 13 = .ok (.iload_n 1, 1) := by decide +kernel
theorem d_Mod_holds_14 : decode c_Mod_holds 14 = .ok (.iaload, 1) := by decide +kernel
theorem d_Mod_holds_15 : decode c_Mod_holds 15 = .ok (.baload, 1) := by decide +kernel
theorem d_Mod_holds_16 : decode c_Mod_holds 16 = .ok (.ifCond .ne 7, 3) := by decide +kernel
theorem d_Mod_holds_19 : decode c_Mod_holds 19 = .ok (.iconst 1, 1) := by decide +kernel
theorem d_Mod_holds_20 : decode c_Mod_holds 20 = .ok (.goto 4, 3) := by decide +kernel
theorem d_Mod_holds_23 : decode c_Mod_holds 23 = .ok (.iconst 0, 1) := by decide +kernel
theorem d_Mod_holds_24 : decode c_Mod_holds 24 = .ok (.ireturn, 1) := by decide +kernel
theorem d_Mod_holds_25 : decode c_Mod_holds 25 = .ok (.iload_n 2, 1) := by decide +kernel
theorem d_Mod_holds_26 : decode c_Mod_holds 26 = .ok (.iconst 2, 1) := by decide +kernel
theorem d_Mod_holds_27 : decode c_Mod_holds 27 = .ok (.if_icmp .ne 23, 3) := by decide +kernel
theorem d_Mod_holds_30 : decode c_Mod_holds 30 = .ok (.aload_n 0, 1) := by decide +kernel
theorem d_Mod_holds_31 : decode c_Mod_holds 31 = .ok (.getfield 13, 3) := by decide +kernel
theorem d_Mod_holds_34 : decode c_Mod_holds 34 = .ok (.aload_n 0, 1) := by decide +kernel
theorem d_Mod_holds_35 : decode c_Mod_holds 35 = .ok (.getfield 30, 3) := by decide +kernel
theorem d_Mod_holds_38 : decode c_Mod_holds 38 = .ok (.iload_n 1, 1) := by decide +kernel
theorem d_Mod_holds_39 : decode c_Mod_holds 39 = .ok (.iaload, 1) := by decide +kernel
theorem d_Mod_holds_40 : decode c_Mod_holds 40 = .ok (.baload, 1) := by decide +kernel
theorem d_Mod_holds_41 : decode c_Mod_holds 41 = .ok (.ifCond .ne 7, 3) := by decide +kernel
theorem d_Mod_holds_44 : decode c_Mod_holds 44 = .ok (.iconst 1, 1) := by decide +kernel
theorem d_Mod_holds_45 : decode c_Mod_holds 45 = .ok (.goto 4, 3) := by decide +kernel
theorem d_Mod_holds_48 : decode c_Mod_holds 48 = .ok (.iconst 0, 1) := by decide +kernel
theorem d_Mod_holds_49 : decode c_Mod_holds 49 = .ok (.ireturn, 1) := by decide +kernel
theorem d_Mod_holds_50 : decode c_Mod_holds 50 = .ok (.iload_n 2, 1) := by decide +kernel
theorem d_Mod_holds_51 : decode c_Mod_holds 51 = .ok (.iconst 3, 1) := by decide +kernel
theorem d_Mod_holds_52 : decode c_Mod_holds 52 = .ok (.if_icmp .ne 17, 3) := by decide +kernel
theorem d_Mod_holds_55 : decode c_Mod_holds 55 = .ok (.aload_n 0, 1) := by decide +kernel
theorem d_Mod_holds_56 : decode c_Mod_holds 56 = .ok (.iload_n 1, 1) := by decide +kernel
theorem d_Mod_holds_57 : decode c_Mod_holds 57 = .ok (.invokevirtual 123, 3) := by decide +kernel
theorem d_Mod_holds_60 : decode c_Mod_holds 60 = .ok (.ifCond .ne 7, 3) := by decide +kernel
theorem d_Mod_holds_63 : decode c_Mod_holds 63 = .ok (.iconst 1, 1) := by decide +kernel
theorem d_Mod_holds_64 : decode c_Mod_holds 64 = .ok (.goto 4, 3) := by decide +kernel
theorem d_Mod_holds_67 : decode c_Mod_holds 67 = .ok (.iconst 0, 1) := by decide +kernel
theorem d_Mod_holds_68 : decode c_Mod_holds 68 = .ok (.ireturn, 1) := by decide +kernel
theorem d_Mod_holds_69 : decode c_Mod_holds 69 = .ok (.iload_n 2, 1) := by decide +kernel
theorem d_Mod_holds_70 : decode c_Mod_holds 70 = .ok (.iconst 4, 1) := by decide +kernel
theorem d_Mod_holds_71 : decode c_Mod_holds 71 = .ok (.if_icmp .ne 94, 3) := by decide +kernel
theorem d_Mod_holds_74 : decode c_Mod_holds 74 = .ok (.iconst 0, 1) := by decide +kernel
theorem d_Mod_holds_75 : decode c_Mod_holds 75 = .ok (.istore_n 3, 1) := by decide +kernel
theorem d_Mod_holds_76 : decode c_Mod_holds 76 = .ok (.iconst 0, 1) := by decide +kernel
theorem d_Mod_holds_77 : decode c_Mod_holds 77 = .ok (.istore 4, 2) := by decide +kernel
theorem d_Mod_holds_79 : decode c_Mod_holds 79 = .ok (.iload 4, 2) := by decide +kernel
theorem d_Mod_holds_81 : decode c_Mod_holds 81 = .ok (.aload_n 0, 1) := by decide +kernel
theorem d_Mod_holds_82 : decode c_Mod_holds 82 = .ok (.getfield 82, 3) := by decide +kernel
theorem d_Mod_holds_85 : decode c_Mod_holds 85 = .ok (.if_icmp .ge 78, 3) := by decide +kernel
theorem d_Mod_holds_88 : decode c_Mod_holds 88 = .ok (.iconst 0, 1) := by decide +kernel
theorem d_Mod_holds_89 : decode c_Mod_holds 89 = .ok (.istore 5, 2) := by decide +kernel
theorem d_Mod_holds_91 : decode c_Mod_holds 91 = .ok (.iload 5, 2) := by decide +kernel
theorem d_Mod_holds_93 : decode c_Mod_holds 93 = .ok (.aload_n 0, 1) := by decide +kernel
theorem d_Mod_holds_94 : decode c_Mod_holds 94 = .ok (.getfield 75, 3) := by decide +kernel
theorem d_Mod_holds_97 : decode c_Mod_holds 97 = .ok (.if_icmp .ge 60, 3) := by decide +kernel
theorem d_Mod_holds_100 : decode c_Mod_holds 100 = .ok (.iload_n 3, 1) := by decide +kernel
theorem d_Mod_holds_101 : decode c_Mod_holds 101 = .ok (.ifCond .ne 44, 3) := by decide +kernel
theorem d_Mod_holds_104 : decode c_Mod_holds 104 = .ok (.aload_n 0, 1) := by decide +kernel
theorem d_Mod_holds_105 : decode c_Mod_holds 105 = .ok (.getfield 42, 3) := by decide +kernel
theorem d_Mod_holds_108 : decode c_Mod_holds 108 = .ok (.iload 4, 2) := by decide +kernel
theorem d_Mod_holds_110 : decode c_Mod_holds 110 = .ok (.baload, 1) := by decide +kernel
theorem d_Mod_holds_111 : decode c_Mod_holds 111 = .ok (.ifCond .eq 38, 3) := by decide +kernel
theorem d_Mod_holds_114 : decode c_Mod_holds 114 = .ok (.aload_n 0, 1) := by decide +kernel
theorem d_Mod_holds_115 : decode c_Mod_holds 115 = .ok (.getfield 36, 3) := by decide +kernel
theorem d_Mod_holds_118 : decode c_Mod_holds 118 = .ok (.bipush 8, 2) := by decide +kernel
theorem d_Mod_holds_120 : decode c_Mod_holds 120 = .ok (.iload 4, 2) := by decide +kernel
theorem d_Mod_holds_122 : decode c_Mod_holds 122 = .ok (.imul, 1) := by decide +kernel
theorem d_Mod_holds_123 : decode c_Mod_holds 123 = .ok (.iload 5, 2) := by decide +kernel
theorem d_Mod_holds_125 : decode c_Mod_holds 125 = .ok (.iadd, 1) := by decide +kernel
theorem d_Mod_holds_126 : decode c_Mod_holds 126 = .ok (.baload, 1) := by decide +kernel
theorem d_Mod_holds_127 : decode c_Mod_holds 127 = .ok (.ifCond .eq 22, 3) := by decide +kernel
theorem d_Mod_holds_130 : decode c_Mod_holds 130 = .ok (.aload_n 0, 1) := by decide +kernel
theorem d_Mod_holds_131 : decode c_Mod_holds 131 = .ok (.getfield 36, 3) := by decide +kernel
theorem d_Mod_holds_134 : decode c_Mod_holds 134 = .ok (.bipush 8, 2) := by decide +kernel
theorem d_Mod_holds_136 : decode c_Mod_holds 136 = .ok (.iload_n 1, 1) := by decide +kernel
theorem d_Mod_holds_137 : decode c_Mod_holds 137 = .ok (.imul, 1) := by decide +kernel
theorem d_Mod_holds_138 : decode c_Mod_holds 138 = .ok (.iload 5, 2) := by decide +kernel
theorem d_Mod_holds_140 : decode c_Mod_holds 140 = .ok (.iadd, 1) := by decide +kernel
theorem d_Mod_holds_141 : decode c_Mod_holds 141 = .ok (.baload, 1) := by decide +kernel
theorem d_Mod_holds_142 : decode c_Mod_holds 142 = .ok (.ifCond .eq 7, 3) := by decide +kernel
theorem d_Mod_holds_145 : decode c_Mod_holds 145 = .ok (.iconst 1, 1) := by decide +kernel
theorem d_Mod_holds_146 : decode c_Mod_holds 146 = .ok (.goto 4, 3) := by decide +kernel
theorem d_Mod_holds_149 : decode c_Mod_holds 149 = .ok (.iconst 0, 1) := by decide +kernel
theorem d_Mod_holds_150 : decode c_Mod_holds 150 = .ok (.istore_n 3, 1) := by decide +kernel
theorem d_Mod_holds_151 : decode c_Mod_holds 151 = .ok (.iinc 5 1, 3) := by decide +kernel
theorem d_Mod_holds_154 : decode c_Mod_holds 154 = .ok (.goto (-63), 3) := by decide +kernel
theorem d_Mod_holds_157 : decode c_Mod_holds 157 = .ok (.iinc 4 1, 3) := by decide +kernel
theorem d_Mod_holds_160 : decode c_Mod_holds 160 = .ok (.goto (-81), 3) := by decide +kernel
theorem d_Mod_holds_163 : decode c_Mod_holds 163 = .ok (.iload_n 3, 1) := by decide +kernel
theorem d_Mod_holds_164 : decode c_Mod_holds 164 = .ok (.ireturn, 1) := by decide +kernel
theorem d_Mod_holds_165 : decode c_Mod_holds 165 = .ok (.aload_n 0, 1) := by decide +kernel
theorem d_Mod_holds_166 : decode c_Mod_holds 166 = .ok (.iload_n 1, 1) := by decide +kernel
theorem d_Mod_holds_167 : decode c_Mod_holds 167 = .ok (.invokevirtual 123, 3) := by decide +kernel
theorem d_Mod_holds_170 : decode c_Mod_holds 170 = .ok (.istore_n 3, 1) := by decide +kernel
theorem d_Mod_holds_171 : decode c_Mod_holds 171 = .ok (.iconst 0, 1) := by decide +kernel
theorem d_Mod_holds_172 : decode c_Mod_holds 172 = .ok (.istore 4, 2) := by decide +kernel
theorem d_Mod_holds_174 : decode c_Mod_holds 174 = .ok (.iload 4, 2) := by decide +kernel
theorem d_Mod_holds_176 : decode c_Mod_holds 176 = .ok (.aload_n 0, 1) := by decide +kernel
theorem d_Mod_holds_177 : decode c_Mod_holds 177 = .ok (.getfield 82, 3) := by decide +kernel
theorem d_Mod_holds_180 : decode c_Mod_holds 180 = .ok (.if_icmp .ge 48, 3) := by decide +kernel
theorem d_Mod_holds_183 : decode c_Mod_holds 183 = .ok (.iload_n 3, 1) := by decide +kernel
theorem d_Mod_holds_184 : decode c_Mod_holds 184 = .ok (.aload_n 0, 1) := by decide +kernel
theorem d_Mod_holds_185 : decode c_Mod_holds 185 = .ok (.getfield 42, 3) := by decide +kernel
theorem d_Mod_holds_188 : decode c_Mod_holds 188 = .ok (.iload 4, 2) := by decide +kernel
theorem d_Mod_holds_190 : decode c_Mod_holds 190 = .ok (.baload, 1) := by decide +kernel
theorem d_Mod_holds_191 : decode c_Mod_holds 191 = .ok (.ifCond .eq 28, 3) := by decide +kernel
theorem d_Mod_holds_194 : decode c_Mod_holds 194 = .ok (.aload_n 0, 1) := by decide +kernel
theorem d_Mod_holds_195 : decode c_Mod_holds 195 = .ok (.getfield 30, 3) := by decide +kernel
theorem d_Mod_holds_198 : decode c_Mod_holds 198 = .ok (.iload 4, 2) := by decide +kernel
theorem d_Mod_holds_200 : decode c_Mod_holds 200 = .ok (.iaload, 1) := by decide +kernel
theorem d_Mod_holds_201 : decode c_Mod_holds 201 = .ok (.aload_n 0, 1) := by decide +kernel
theorem d_Mod_holds_202 : decode c_Mod_holds 202 = .ok (.getfield 30, 3) := by decide +kernel
theorem d_Mod_holds_205 : decode c_Mod_holds 205 = .ok (.iload_n 1, 1) := by decide +kernel
theorem d_Mod_holds_206 : decode c_Mod_holds 206 = .ok (.iaload, 1) := by decide +kernel
theorem d_Mod_holds_207 : decode c_Mod_holds 207 = .ok (.if_icmp .ne 12, 3) := by decide +kernel
theorem d_Mod_holds_210 : decode c_Mod_holds 210 = .ok (.aload_n 0, 1) := by decide +kernel
theorem d_Mod_holds_211 : decode c_Mod_holds 211 = .ok (.iload 4, 2) := by decide +kernel
theorem d_Mod_holds_213 : decode c_Mod_holds 213 = .ok (.invokevirtual 123, 3) := by decide +kernel
theorem d_Mod_holds_216 : decode c_Mod_holds 216 = .ok (.goto 4, 3) := by decide +kernel
theorem d_Mod_holds_219 : decode c_Mod_holds 219 = .ok (.iconst 0, 1) := by decide +kernel
theorem d_Mod_holds_220 : decode c_Mod_holds 220 = .ok (.iadd, 1) := by decide +kernel
theorem d_Mod_holds_221 : decode c_Mod_holds 221 = .ok (.istore_n 3, 1) := by decide +kernel
theorem d_Mod_holds_222 : decode c_Mod_holds 222 = .ok (.iinc 4 1, 3) := by decide +kernel
theorem d_Mod_holds_225 : decode c_Mod_holds 225 = .ok (.goto (-51), 3) := by decide +kernel
theorem d_Mod_holds_228 : decode c_Mod_holds 228 = .ok (.iload_n 3, 1) := by decide +kernel
theorem d_Mod_holds_229 : decode c_Mod_holds 229 = .ok (.aload_n 0, 1) := by decide +kernel
theorem d_Mod_holds_230 : decode c_Mod_holds 230 = .ok (.getfield 20, 3) := by decide +kernel
theorem d_Mod_holds_233 : decode c_Mod_holds 233 = .ok (.aload_n 0, 1) := by decide +kernel
theorem d_Mod_holds_234 : decode c_Mod_holds 234 = .ok (.getfield 30, 3) := by decide +kernel
theorem d_Mod_holds_237 : decode c_Mod_holds 237 = .ok (.iload_n 1, 1) := by decide +kernel
theorem d_Mod_holds_238 : decode c_Mod_holds 238 = .ok (.iaload, 1) := by decide +kernel
theorem d_Mod_holds_239 : decode c_Mod_holds 239 = .ok (.iaload, 1) := by decide +kernel
theorem d_Mod_holds_240 : decode c_Mod_holds 240 = .ok (.if_icmp .le 7, 3) := by decide +kernel
theorem d_Mod_holds_243 : decode c_Mod_holds 243 = .ok (.iconst 1, 1) := by decide +kernel
theorem d_Mod_holds_244 : decode c_Mod_holds 244 = .ok (.goto 4, 3) := by decide +kernel
theorem d_Mod_holds_247 : decode c_Mod_holds 247 = .ok (.iconst 0, 1) := by decide +kernel
theorem d_Mod_holds_248 : decode c_Mod_holds 248 = .ok (.ireturn, 1) := by decide +kernel
