theorem dX_ship_0 : decode (hr_cd 6) 0 = .ok (.iload_n 1, 1) := by decide +kernel
theorem dX_ship_1 : decode (hr_cd 6) 1 = .ok (.ifCond .lt 24, 3) := by decide +kernel
theorem dX_ship_4 : decode (hr_cd 6) 4 = .ok (.iload_n 1, 1) := by decide +kernel
theorem dX_ship_5 : decode (hr_cd 6) 5 = .ok (.getstatic 51, 3) := by decide +kernel
theorem dX_ship_8 : decode (hr_cd 6) 8 = .ok (.arraylength, 1) := by decide +kernel
theorem dX_ship_9 : decode (hr_cd 6) 9 = .ok (.if_icmp .ge 16, 3) := by decide +kernel
theorem dX_ship_12 : decode (hr_cd 6) 12 = .ok (.iload_n 2, 1) := by decide +kernel
theorem dX_ship_13 : decode (hr_cd 6) 13 = .ok (.iconst 0, 1) := by decide +kernel
theorem dX_ship_14 : decode (hr_cd 6) 14 = .ok (.getstatic 51, 3) := by decide +kernel
theorem dX_ship_17 : decode (hr_cd 6) 17 = .ok (.iload_n 1, 1) := by decide +kernel
theorem dX_ship_18 : decode (hr_cd 6) 18 = .ok (.iaload, 1) := by decide +kernel
theorem dX_ship_19 : decode (hr_cd 6) 19 = .ok (.invokestatic 54, 3) := by decide +kernel
theorem dX_ship_22 : decode (hr_cd 6) 22 = .ok (.ifCond .ne 9, 3) := by decide +kernel
theorem dX_ship_25 : decode (hr_cd 6) 25 = .ok (.aload_n 0, 1) := by decide +kernel
theorem dX_ship_26 : decode (hr_cd 6) 26 = .ok (.iconst 0, 1) := by decide +kernel
theorem dX_ship_27 : decode (hr_cd 6) 27 = .ok (.invokevirtual 58, 3) := by decide +kernel
theorem dX_ship_30 : decode (hr_cd 6) 30 = .ok (.ireturn, 1) := by decide +kernel
theorem dX_ship_31 : decode (hr_cd 6) 31 = .ok (.aload_n 0, 1) := by decide +kernel
theorem dX_ship_32 : decode (hr_cd 6) 32 = .ok (.getfield 10, 3) := by decide +kernel
theorem dX_ship_35 : decode (hr_cd 6) 35 = .ok (.iload_n 1, 1) := by decide +kernel
theorem dX_ship_36 : decode (hr_cd 6) 36 = .ok (.iload_n 2, 1) := by decide +kernel
theorem dX_ship_37 : decode (hr_cd 6) 37 = .ok (.invokevirtual 62, 3) := by decide +kernel
theorem dX_ship_40 : decode (hr_cd 6) 40 = .ok (.ireturn, 1) := by decide +kernel
theorem dX_isWithin_0 : decode (hr_cd 7) 0 = .ok (.iload_n 0, 1) := by decide +kernel
theorem dX_isWithin_1 : decode (hr_cd 7) 1 = .ok (.iload_n 1, 1) := by decide +kernel
theorem dX_isWithin_2 : decode (hr_cd 7) 2 = .ok (.if_icmp .lt 12, 3) := by decide +kernel
theorem dX_isWithin_5 : decode (hr_cd 7) 5 = .ok (.iload_n 0, 1) := by decide +kernel
theorem dX_isWithin_6 : decode (hr_cd 7) 6 = .ok (.iload_n 2, 1) := by decide +kernel
theorem dX_isWithin_7 : decode (hr_cd 7) 7 = .ok (.if_icmp .gt 7, 3) := by decide +kernel
theorem dX_isWithin_10 : decode (hr_cd 7) 10 = .ok (.iconst 1, 1) := by decide +kernel
theorem dX_isWithin_11 : decode (hr_cd 7) 11 = .ok (.goto 4, 3) := by decide +kernel
theorem dX_isWithin_14 : decode (hr_cd 7) 14 = .ok (.iconst 0, 1) := by decide +kernel
theorem dX_isWithin_15 : decode (hr_cd 7) 15 = .ok (.ireturn, 1) := by decide +kernel
theorem dX_found_0 : decode (hr_cd 8) 0 = .ok (.iload_n 1, 1) := by decide +kernel
theorem dX_found_1 : decode (hr_cd 8) 1 = .ok (.ifCond .lt 19, 3) := by decide +kernel
theorem dX_found_4 : decode (hr_cd 8) 4 = .ok (.iload_n 1, 1) := by decide +kernel
theorem dX_found_5 : decode (hr_cd 8) 5 = .ok (.bipush 7, 2) := by decide +kernel
theorem dX_found_7 : decode (hr_cd 8) 7 = .ok (.if_icmp .ge 13, 3) := by decide +kernel
theorem dX_found_10 : decode (hr_cd 8) 10 = .ok (.aload_n 0, 1) := by decide +kernel
theorem dX_found_11 : decode (hr_cd 8) 11 = .ok (.getfield 47, 3) := by decide +kernel
theorem dX_found_14 : decode (hr_cd 8) 14 = .ok (.iload_n 1, 1) := by decide +kernel
theorem dX_found_15 : decode (hr_cd 8) 15 = .ok (.dup2, 1) := by decide +kernel
theorem dX_found_16 : decode (hr_cd 8) 16 = .ok (.iaload, 1) := by decide +kernel
theorem dX_found_17 : decode (hr_cd 8) 17 = .ok (.iconst 1, 1) := by decide +kernel
theorem dX_found_18 : decode (hr_cd 8) 18 = .ok (.iadd, 1) := by decide +kernel
theorem dX_found_19 : decode (hr_cd 8) 19 = .ok (.iastore, 1) := by decide +kernel
theorem dX_found_20 : decode (hr_cd 8) 20 = .ok (.ldc 252, 2) := by decide +kernel
theorem dX_found_22 : decode (hr_cd 8) 22 = .ok (.iload_n 1, 1) := by decide +kernel
theorem dX_found_23 : decode (hr_cd 8) 23 = .ok (.isub, 1) := by decide +kernel
theorem dX_found_24 : decode (hr_cd 8) 24 = .ok (.ireturn, 1) := by decide +kernel
theorem dX_now_0 : decode (hr_cd 11) 0 = .ok (.iload_n 1, 1) := by decide +kernel
theorem dX_now_1 : decode (hr_cd 11) 1 = .ok (.tableswitch 113 0 6 #[43, 51, 59, 67, 75, 83, 91], 43) := by decide +kernel
theorem dX_now_44 : decode (hr_cd 11) 44 = .ok (.aload_n 0, 1) := by decide +kernel
theorem dX_now_45 : decode (hr_cd 11) 45 = .ok (.getfield 10, 3) := by decide +kernel
theorem dX_now_48 : decode (hr_cd 11) 48 = .ok (.getfield 66, 3) := by decide +kernel
theorem dX_now_51 : decode (hr_cd 11) 51 = .ok (.ireturn, 1) := by decide +kernel
theorem dX_now_52 : decode (hr_cd 11) 52 = .ok (.aload_n 0, 1) := by decide +kernel
theorem dX_now_53 : decode (hr_cd 11) 53 = .ok (.getfield 10, 3) := by decide +kernel
theorem dX_now_56 : decode (hr_cd 11) 56 = .ok (.getfield 70, 3) := by decide +kernel
theorem dX_now_59 : decode (hr_cd 11) 59 = .ok (.ireturn, 1) := by decide +kernel
theorem dX_now_60 : decode (hr_cd 11) 60 = .ok (.aload_n 0, 1) := by decide +kernel
theorem dX_now_61 : decode (hr_cd 11) 61 = .ok (.getfield 10, 3) := by decide +kernel
theorem dX_now_64 : decode (hr_cd 11) 64 = .ok (.getfield 73, 3) := by decide +kernel
theorem dX_now_67 : decode (hr_cd 11) 67 = .ok (.ireturn, 1) := by decide +kernel
theorem dX_now_68 : decode (hr_cd 11) 68 = .ok (.aload_n 0, 1) := by decide +kernel
theorem dX_now_69 : decode (hr_cd 11) 69 = .ok (.getfield 10, 3) := by decide +kernel
theorem dX_now_72 : decode (hr_cd 11) 72 = .ok (.getfield 76, 3) := by decide +kernel
theorem dX_now_75 : decode (hr_cd 11) 75 = .ok (.ireturn, 1) := by decide +kernel
theorem dX_now_76 : decode (hr_cd 11) 76 = .ok (.aload_n 0, 1) := by decide +kernel
theorem dX_now_77 : decode (hr_cd 11) 77 = .ok (.getfield 10, 3) := by decide +kernel
theorem dX_now_80 : decode (hr_cd 11) 80 = .ok (.getfield 79, 3) := by decide +kernel
theorem dX_now_83 : decode (hr_cd 11) 83 = .ok (.ireturn, 1) := by decide +kernel
theorem dX_now_84 : decode (hr_cd 11) 84 = .ok (.aload_n 0, 1) := by decide +kernel
theorem dX_now_85 : decode (hr_cd 11) 85 = .ok (.getfield 10, 3) := by decide +kernel
theorem dX_now_88 : decode (hr_cd 11) 88 = .ok (.invokevirtual 82, 3) := by decide +kernel
theorem dX_now_91 : decode (hr_cd 11) 91 = .ok (.ireturn, 1) := by decide +kernel
theorem dX_now_92 : decode (hr_cd 11) 92 = .ok (.aload_n 0, 1) := by decide +kernel
theorem dX_now_93 : decode (hr_cd 11) 93 = .ok (.getfield 10, 3) := by decide +kernel
theorem dX_now_96 : decode (hr_cd 11) 96 = .ok (.getfield 79, 3) := by decide +kernel
theorem dX_now_99 : decode (hr_cd 11) 99 = .ok (.ifCond .ne 13, 3) := by decide +kernel
theorem dX_now_102 : decode (hr_cd 11) 102 = .ok (.aload_n 0, 1) := by decide +kernel
theorem dX_now_103 : decode (hr_cd 11) 103 = .ok (.getfield 10, 3) := by decide +kernel
theorem dX_now_106 : decode (hr_cd 11) 106 = .ok (.invokevirtual 86, 3) := by decide +kernel
theorem dX_now_109 : decode (hr_cd 11) 109 = .ok (.goto 4, 3) := by decide +kernel
theorem dX_now_112 : decode (hr_cd 11) 112 = .ok (.iconst (-1), 1) := by decide +kernel
theorem dX_now_113 : decode (hr_cd 11) 113 = .ok (.ireturn, 1) := by decide +kernel
theorem dX_now_114 : decode (hr_cd 11) 114 = .ok (.aload_n 0, 1) := by decide +kernel
theorem dX_now_115 : decode (hr_cd 11) 115 = .ok (.iconst 0, 1) := by decide +kernel
theorem dX_now_116 : decode (hr_cd 11) 116 = .ok (.invokevirtual 58, 3) := by decide +kernel
theorem dX_now_119 : decode (hr_cd 11) 119 = .ok (.ireturn, 1) := by decide +kernel
theorem dX_far_0 : decode (hr_cd 14) 0 = .ok (.iload_n 0, 1) := by decide +kernel
theorem dX_far_1 : decode (hr_cd 14) 1 = .ok (.bipush 8, 2) := by decide +kernel
theorem dX_far_3 : decode (hr_cd 14) 3 = .ok (.idiv, 1) := by decide +kernel
theorem dX_far_4 : decode (hr_cd 14) 4 = .ok (.iload_n 1, 1) := by decide +kernel
theorem dX_far_5 : decode (hr_cd 14) 5 = .ok (.bipush 8, 2) := by decide +kernel
theorem dX_far_7 : decode (hr_cd 14) 7 = .ok (.idiv, 1) := by decide +kernel
theorem dX_far_8 : decode (hr_cd 14) 8 = .ok (.isub, 1) := by decide +kernel
theorem dX_far_9 : decode (hr_cd 14) 9 = .ok (.invokestatic 253, 3) := by decide +kernel
theorem dX_far_12 : decode (hr_cd 14) 12 = .ok (.iload_n 0, 1) := by decide +kernel
theorem dX_far_13 : decode (hr_cd 14) 13 = .ok (.bipush 8, 2) := by decide +kernel
theorem dX_far_15 : decode (hr_cd 14) 15 = .ok (.irem, 1) := by decide +kernel
theorem dX_far_16 : decode (hr_cd 14) 16 = .ok (.iload_n 1, 1) := by decide +kernel
theorem dX_far_17 : decode (hr_cd 14) 17 = .ok (.bipush 8, 2) := by decide +kernel
theorem dX_far_19 : decode (hr_cd 14) 19 = .ok (.irem, 1) := by decide +kernel
theorem dX_far_20 : decode (hr_cd 14) 20 = .ok (.isub, 1) := by decide +kernel
theorem dX_far_21 : decode (hr_cd 14) 21 = .ok (.invokestatic 253, 3) := by decide +kernel
theorem dX_far_24 : decode (hr_cd 14) 24 = .ok (.iadd, 1) := by decide +kernel
theorem dX_far_25 : decode (hr_cd 14) 25 = .ok (.ireturn, 1) := by decide +kernel
theorem dX_rock_0 : decode (hr_cd 20) 0 = .ok (.iload_n 1, 1) := by decide +kernel
theorem dX_rock_1 : decode (hr_cd 20) 1 = .ok (.invokestatic 89, 3) := by decide +kernel
theorem dX_rock_4 : decode (hr_cd 20) 4 = .ok (.ifCond .eq 10, 3) := by decide +kernel
theorem dX_rock_7 : decode (hr_cd 20) 7 = .ok (.iload_n 2, 1) := by decide +kernel
theorem dX_rock_8 : decode (hr_cd 20) 8 = .ok (.invokestatic 93, 3) := by decide +kernel
theorem dX_rock_11 : decode (hr_cd 20) 11 = .ok (.ifCond .ne 9, 3) := by decide +kernel
theorem dX_rock_14 : decode (hr_cd 20) 14 = .ok (.aload_n 0, 1) := by decide +kernel
theorem dX_rock_15 : decode (hr_cd 20) 15 = .ok (.iconst 0, 1) := by decide +kernel
theorem dX_rock_16 : decode (hr_cd 20) 16 = .ok (.invokevirtual 58, 3) := by decide +kernel
theorem dX_rock_19 : decode (hr_cd 20) 19 = .ok (.ireturn, 1) := by decide +kernel
theorem dX_rock_20 : decode (hr_cd 20) 20 = .ok (.aload_n 0, 1) := by decide +kernel
theorem dX_rock_21 : decode (hr_cd 20) 21 = .ok (.getfield 10, 3) := by decide +kernel
theorem dX_rock_24 : decode (hr_cd 20) 24 = .ok (.iload_n 1, 1) := by decide +kernel
theorem dX_rock_25 : decode (hr_cd 20) 25 = .ok (.iload_n 2, 1) := by decide +kernel
theorem dX_rock_26 : decode (hr_cd 20) 26 = .ok (.invokevirtual 96, 3) := by decide +kernel
theorem dX_rock_29 : decode (hr_cd 20) 29 = .ok (.ifnonnull 11, 3) := by decide +kernel
theorem dX_rock_32 : decode (hr_cd 20) 32 = .ok (.aload_n 0, 1) := by decide +kernel
theorem dX_rock_33 : decode (hr_cd 20) 33 = .ok (.iconst 1, 1) := by decide +kernel
theorem dX_rock_34 : decode (hr_cd 20) 34 = .ok (.invokevirtual 58, 3) := by decide +kernel
theorem dX_rock_37 : decode (hr_cd 20) 37 = .ok (.goto 12, 3) := by decide +kernel
theorem dX_rock_40 : decode (hr_cd 20) 40 = .ok (.aload_n 0, 1) := by decide +kernel
theorem dX_rock_41 : decode (hr_cd 20) 41 = .ok (.getfield 10, 3) := by decide +kernel
theorem dX_rock_44 : decode (hr_cd 20) 44 = .ok (.getfield 100, 3) := by decide +kernel
theorem dX_rock_47 : decode (hr_cd 20) 47 = .ok (.iconst 1, 1) := by decide +kernel
theorem dX_rock_48 : decode (hr_cd 20) 48 = .ok (.isub, 1) := by decide +kernel
theorem dX_rock_49 : decode (hr_cd 20) 49 = .ok (.ireturn, 1) := by decide +kernel
theorem dX_isKind_0 : decode (hr_cd 21) 0 = .ok (.iload_n 0, 1) := by decide +kernel
theorem dX_isKind_1 : decode (hr_cd 21) 1 = .ok (.ifCond .lt 13, 3) := by decide +kernel
theorem dX_isKind_4 : decode (hr_cd 21) 4 = .ok (.iload_n 0, 1) := by decide +kernel
theorem dX_isKind_5 : decode (hr_cd 21) 5 = .ok (.bipush 6, 2) := by decide +kernel
theorem dX_isKind_7 : decode (hr_cd 21) 7 = .ok (.if_icmp .ge 7, 3) := by decide +kernel
theorem dX_isKind_10 : decode (hr_cd 21) 10 = .ok (.iconst 1, 1) := by decide +kernel
theorem dX_isKind_11 : decode (hr_cd 21) 11 = .ok (.goto 4, 3) := by decide +kernel
theorem dX_isKind_14 : decode (hr_cd 21) 14 = .ok (.iconst 0, 1) := by decide +kernel
theorem dX_isKind_15 : decode (hr_cd 21) 15 = .ok (.ireturn, 1) := by decide +kernel
theorem dX_isSquare_0 : decode (hr_cd 22) 0 = .ok (.iload_n 0, 1) := by decide +kernel
theorem dX_isSquare_1 : decode (hr_cd 22) 1 = .ok (.ifCond .lt 13, 3) := by decide +kernel
theorem dX_isSquare_4 : decode (hr_cd 22) 4 = .ok (.iload_n 0, 1) := by decide +kernel
theorem dX_isSquare_5 : decode (hr_cd 22) 5 = .ok (.bipush 64, 2) := by decide +kernel
theorem dX_isSquare_7 : decode (hr_cd 22) 7 = .ok (.if_icmp .ge 7, 3) := by decide +kernel
theorem dX_isSquare_10 : decode (hr_cd 22) 10 = .ok (.iconst 1, 1) := by decide +kernel
theorem dX_isSquare_11 : decode (hr_cd 22) 11 = .ok (.goto 4, 3) := by decide +kernel
theorem dX_isSquare_14 : decode (hr_cd 22) 14 = .ok (.iconst 0, 1) := by decide +kernel
theorem dX_isSquare_15 : decode (hr_cd 22) 15 = .ok (.ireturn, 1) := by decide +kernel
theorem dX_of_0 : decode (hr_cd 26) 0 = .ok (.aload_n 0, 1) := by decide +kernel
theorem dX_of_1 : decode (hr_cd 26) 1 = .ok (.iload_n 1, 1) := by decide +kernel
theorem dX_of_2 : decode (hr_cd 26) 2 = .ok (.invokevirtual 103, 3) := by decide +kernel
theorem dX_of_5 : decode (hr_cd 26) 5 = .ok (.ifCond .ne 9, 3) := by decide +kernel
theorem dX_of_8 : decode (hr_cd 26) 8 = .ok (.aload_n 0, 1) := by decide +kernel
theorem dX_of_9 : decode (hr_cd 26) 9 = .ok (.iconst 0, 1) := by decide +kernel
theorem dX_of_10 : decode (hr_cd 26) 10 = .ok (.invokevirtual 58, 3) := by decide +kernel
theorem dX_of_13 : decode (hr_cd 26) 13 = .ok (.ireturn, 1) := by decide +kernel
theorem dX_of_14 : decode (hr_cd 26) 14 = .ok (.aload_n 0, 1) := by decide +kernel
theorem dX_of_15 : decode (hr_cd 26) 15 = .ok (.getfield 10, 3) := by decide +kernel
theorem dX_of_18 : decode (hr_cd 26) 18 = .ok (.getfield 106, 3) := by decide +kernel
theorem dX_of_21 : decode (hr_cd 26) 21 = .ok (.iload_n 1, 1) := by decide +kernel
theorem dX_of_22 : decode (hr_cd 26) 22 = .ok (.aaload, 1) := by decide +kernel
theorem dX_of_23 : decode (hr_cd 26) 23 = .ok (.astore_n 3, 1) := by decide +kernel
theorem dX_of_24 : decode (hr_cd 26) 24 = .ok (.iload_n 2, 1) := by decide +kernel
theorem dX_of_25 : decode (hr_cd 26) 25 = .ok (.tableswitch 142 0 8 #[51, 56, 61, 66, 71, 76, 91, 110, 122], 51) := by decide +kernel
theorem dX_of_76 : decode (hr_cd 26) 76 = .ok (.aload_n 3, 1) := by decide +kernel
theorem dX_of_77 : decode (hr_cd 26) 77 = .ok (.getfield 110, 3) := by decide +kernel
theorem dX_of_80 : decode (hr_cd 26) 80 = .ok (.ireturn, 1) := by decide +kernel
theorem dX_of_81 : decode (hr_cd 26) 81 = .ok (.aload_n 3, 1) := by decide +kernel
theorem dX_of_82 : decode (hr_cd 26) 82 = .ok (.getfield 115, 3) := by decide +kernel
theorem dX_of_85 : decode (hr_cd 26) 85 = .ok (.ireturn, 1) := by decide +kernel
theorem dX_of_86 : decode (hr_cd 26) 86 = .ok (.aload_n 3, 1) := by decide +kernel
theorem dX_of_87 : decode (hr_cd 26) 87 = .ok (.getfield 116, 3) := by decide +kernel
theorem dX_of_90 : decode (hr_cd 26) 90 = .ok (.ireturn, 1) := by decide +kernel
theorem dX_of_91 : decode (hr_cd 26) 91 = .ok (.aload_n 3, 1) := by decide +kernel
theorem dX_of_92 : decode (hr_cd 26) 92 = .ok (.getfield 119, 3) := by decide +kernel
theorem dX_of_95 : decode (hr_cd 26) 95 = .ok (.ireturn, 1) := by decide +kernel
theorem dX_of_96 : decode (hr_cd 26) 96 = .ok (.aload_n 3, 1) := by decide +kernel
theorem dX_of_97 : decode (hr_cd 26) 97 = .ok (.getfield 122, 3) := by decide +kernel
theorem dX_of_100 : decode (hr_cd 26) 100 = .ok (.ireturn, 1) := by decide +kernel
theorem dX_of_101 : decode (hr_cd 26) 101 = .ok (.aload_n 3, 1) := by decide +kernel
theorem dX_of_102 : decode (hr_cd 26) 102 = .ok (.getfield 115, 3) := by decide +kernel
theorem dX_of_105 : decode (hr_cd 26) 105 = .ok (.aload_n 0, 1) := by decide +kernel
theorem dX_of_106 : decode (hr_cd 26) 106 = .ok (.getfield 10, 3) := by decide +kernel
theorem dX_of_109 : decode (hr_cd 26) 109 = .ok (.getfield 70, 3) := by decide +kernel
theorem dX_of_112 : decode (hr_cd 26) 112 = .ok (.invokestatic 125, 3) := by decide +kernel
theorem dX_of_115 : decode (hr_cd 26) 115 = .ok (.ireturn, 1) := by decide +kernel
theorem dX_of_116 : decode (hr_cd 26) 116 = .ok (.aload_n 3, 1) := by decide +kernel
theorem dX_of_117 : decode (hr_cd 26) 117 = .ok (.aload_n 0, 1) := by decide +kernel
theorem dX_of_118 : decode (hr_cd 26) 118 = .ok (.getfield 10, 3) := by decide +kernel
theorem dX_of_121 : decode (hr_cd 26) 121 = .ok (.getfield 70, 3) := by decide +kernel
theorem dX_of_124 : decode (hr_cd 26) 124 = .ok (.aload_n 0, 1) := by decide +kernel
theorem dX_of_125 : decode (hr_cd 26) 125 = .ok (.getfield 10, 3) := by decide +kernel
theorem dX_of_128 : decode (hr_cd 26) 128 = .ok (.getfield 66, 3) := by decide +kernel
theorem dX_of_131 : decode (hr_cd 26) 131 = .ok (.invokevirtual 128, 3) := by decide +kernel
theorem dX_of_134 : decode (hr_cd 26) 134 = .ok (.ireturn, 1) := by decide +kernel
theorem dX_of_135 : decode (hr_cd 26) 135 = .ok (.aload_n 3, 1) := by decide +kernel
theorem dX_of_136 : decode (hr_cd 26) 136 = .ok (.aload_n 0, 1) := by decide +kernel
theorem dX_of_137 : decode (hr_cd 26) 137 = .ok (.getfield 10, 3) := by decide +kernel
theorem dX_of_140 : decode (hr_cd 26) 140 = .ok (.getfield 70, 3) := by decide +kernel
theorem dX_of_143 : decode (hr_cd 26) 143 = .ok (.invokevirtual 131, 3) := by decide +kernel
theorem dX_of_146 : decode (hr_cd 26) 146 = .ok (.ireturn, 1) := by decide +kernel
theorem dX_of_147 : decode (hr_cd 26) 147 = .ok (.aload_n 3, 1) := by decide +kernel
theorem dX_of_148 : decode (hr_cd 26) 148 = .ok (.aload_n 0, 1) := by decide +kernel
theorem dX_of_149 : decode (hr_cd 26) 149 = .ok (.getfield 10, 3) := by decide +kernel
theorem dX_of_152 : decode (hr_cd 26) 152 = .ok (.getfield 66, 3) := by decide +kernel
theorem dX_of_155 : decode (hr_cd 26) 155 = .ok (.invokevirtual 134, 3) := by decide +kernel
theorem dX_of_158 : decode (hr_cd 26) 158 = .ok (.ifCond .eq 7, 3) := by decide +kernel
theorem dX_of_161 : decode (hr_cd 26) 161 = .ok (.iconst 1, 1) := by decide +kernel
theorem dX_of_162 : decode (hr_cd 26) 162 = .ok (.goto 4, 3) := by decide +kernel
theorem dX_of_165 : decode (hr_cd 26) 165 = .ok (.iconst 0, 1) := by decide +kernel
theorem dX_of_166 : decode (hr_cd 26) 166 = .ok (.ireturn, 1) := by decide +kernel
theorem dX_of_167 : decode (hr_cd 26) 167 = .ok (.aload_n 0, 1) := by decide +kernel
theorem dX_of_168 : decode (hr_cd 26) 168 = .ok (.iconst 0, 1) := by decide +kernel
theorem dX_of_169 : decode (hr_cd 26) 169 = .ok (.invokevirtual 58, 3) := by decide +kernel
theorem dX_of_172 : decode (hr_cd 26) 172 = .ok (.ireturn, 1) := by decide +kernel
theorem dX_isRock_0 : decode (hr_cd 27) 0 = .ok (.iload_n 1, 1) := by decide +kernel
theorem dX_isRock_1 : decode (hr_cd 27) 1 = .ok (.ifCond .lt 18, 3) := by decide +kernel
theorem dX_isRock_4 : decode (hr_cd 27) 4 = .ok (.iload_n 1, 1) := by decide +kernel
theorem dX_isRock_5 : decode (hr_cd 27) 5 = .ok (.aload_n 0, 1) := by decide +kernel
theorem dX_isRock_6 : decode (hr_cd 27) 6 = .ok (.getfield 10, 3) := by decide +kernel
theorem dX_isRock_9 : decode (hr_cd 27) 9 = .ok (.getfield 100, 3) := by decide +kernel
theorem dX_isRock_12 : decode (hr_cd 27) 12 = .ok (.if_icmp .ge 7, 3) := by decide +kernel
theorem dX_isRock_15 : decode (hr_cd 27) 15 = .ok (.iconst 1, 1) := by decide +kernel
theorem dX_isRock_16 : decode (hr_cd 27) 16 = .ok (.goto 4, 3) := by decide +kernel
theorem dX_isRock_19 : decode (hr_cd 27) 19 = .ok (.iconst 0, 1) := by decide +kernel
theorem dX_isRock_20 : decode (hr_cd 27) 20 = .ok (.ireturn, 1) := by decide +kernel
theorem dX_set_0 : decode (hr_cd 29) 0 = .ok (.aload_n 0, 1) := by decide +kernel
theorem dX_set_1 : decode (hr_cd 29) 1 = .ok (.iload_n 1, 1) := by decide +kernel
theorem dX_set_2 : decode (hr_cd 29) 2 = .ok (.invokevirtual 103, 3) := by decide +kernel
theorem dX_set_5 : decode (hr_cd 29) 5 = .ok (.ifCond .eq 29, 3) := by decide +kernel
theorem dX_set_8 : decode (hr_cd 29) 8 = .ok (.iload_n 2, 1) := by decide +kernel
theorem dX_set_9 : decode (hr_cd 29) 9 = .ok (.iconst 1, 1) := by decide +kernel
theorem dX_set_10 : decode (hr_cd 29) 10 = .ok (.if_icmp .lt 24, 3) := by decide +kernel
theorem dX_set_13 : decode (hr_cd 29) 13 = .ok (.iload_n 2, 1) := by decide +kernel
theorem dX_set_14 : decode (hr_cd 29) 14 = .ok (.getstatic 137, 3) := by decide +kernel
theorem dX_set_17 : decode (hr_cd 29) 17 = .ok (.arraylength, 1) := by decide +kernel
theorem dX_set_18 : decode (hr_cd 29) 18 = .ok (.if_icmp .ge 16, 3) := by decide +kernel
theorem dX_set_21 : decode (hr_cd 29) 21 = .ok (.iload_n 3, 1) := by decide +kernel
theorem dX_set_22 : decode (hr_cd 29) 22 = .ok (.iconst 0, 1) := by decide +kernel
theorem dX_set_23 : decode (hr_cd 29) 23 = .ok (.getstatic 137, 3) := by decide +kernel
theorem dX_set_26 : decode (hr_cd 29) 26 = .ok (.iload_n 2, 1) := by decide +kernel
theorem dX_set_27 : decode (hr_cd 29) 27 = .ok (.iaload, 1) := by decide +kernel
theorem dX_set_28 : decode (hr_cd 29) 28 = .ok (.invokestatic 54, 3) := by decide +kernel
theorem dX_set_31 : decode (hr_cd 29) 31 = .ok (.ifCond .ne 9, 3) := by decide +kernel
theorem dX_set_34 : decode (hr_cd 29) 34 = .ok (.aload_n 0, 1) := by decide +kernel
theorem dX_set_35 : decode (hr_cd 29) 35 = .ok (.iconst 0, 1) := by decide +kernel
theorem dX_set_36 : decode (hr_cd 29) 36 = .ok (.invokevirtual 58, 3) := by decide +kernel
theorem dX_set_39 : decode (hr_cd 29) 39 = .ok (.ireturn, 1) := by decide +kernel
theorem dX_set_40 : decode (hr_cd 29) 40 = .ok (.aload_n 0, 1) := by decide +kernel
theorem dX_set_41 : decode (hr_cd 29) 41 = .ok (.getfield 10, 3) := by decide +kernel
theorem dX_set_44 : decode (hr_cd 29) 44 = .ok (.getfield 106, 3) := by decide +kernel
theorem dX_set_47 : decode (hr_cd 29) 47 = .ok (.iload_n 1, 1) := by decide +kernel
theorem dX_set_48 : decode (hr_cd 29) 48 = .ok (.aaload, 1) := by decide +kernel
theorem dX_set_49 : decode (hr_cd 29) 49 = .ok (.iload_n 2, 1) := by decide +kernel
theorem dX_set_50 : decode (hr_cd 29) 50 = .ok (.iload_n 3, 1) := by decide +kernel
theorem dX_set_51 : decode (hr_cd 29) 51 = .ok (.invokevirtual 140, 3) := by decide +kernel
theorem dX_set_54 : decode (hr_cd 29) 54 = .ok (.ireturn, 1) := by decide +kernel
theorem dX_turn_0 : decode (hr_cd 31) 0 = .ok (.aload_n 0, 1) := by decide +kernel
theorem dX_turn_1 : decode (hr_cd 31) 1 = .ok (.iload_n 1, 1) := by decide +kernel
theorem dX_turn_2 : decode (hr_cd 31) 2 = .ok (.invokevirtual 103, 3) := by decide +kernel
theorem dX_turn_5 : decode (hr_cd 31) 5 = .ok (.ifCond .eq 10, 3) := by decide +kernel
theorem dX_turn_8 : decode (hr_cd 31) 8 = .ok (.iload_n 2, 1) := by decide +kernel
theorem dX_turn_9 : decode (hr_cd 31) 9 = .ok (.invokestatic 89, 3) := by decide +kernel
theorem dX_turn_12 : decode (hr_cd 31) 12 = .ok (.ifCond .ne 9, 3) := by decide +kernel
theorem dX_turn_15 : decode (hr_cd 31) 15 = .ok (.aload_n 0, 1) := by decide +kernel
theorem dX_turn_16 : decode (hr_cd 31) 16 = .ok (.iconst 0, 1) := by decide +kernel
theorem dX_turn_17 : decode (hr_cd 31) 17 = .ok (.invokevirtual 58, 3) := by decide +kernel
theorem dX_turn_20 : decode (hr_cd 31) 20 = .ok (.ireturn, 1) := by decide +kernel
theorem dX_turn_21 : decode (hr_cd 31) 21 = .ok (.aload_n 0, 1) := by decide +kernel
theorem dX_turn_22 : decode (hr_cd 31) 22 = .ok (.getfield 10, 3) := by decide +kernel
theorem dX_turn_25 : decode (hr_cd 31) 25 = .ok (.getfield 106, 3) := by decide +kernel
theorem dX_turn_28 : decode (hr_cd 31) 28 = .ok (.iload_n 1, 1) := by decide +kernel
theorem dX_turn_29 : decode (hr_cd 31) 29 = .ok (.aaload, 1) := by decide +kernel
theorem dX_turn_30 : decode (hr_cd 31) 30 = .ok (.getfield 110, 3) := by decide +kernel
theorem dX_turn_33 : decode (hr_cd 31) 33 = .ok (.istore_n 3, 1) := by decide +kernel
theorem dX_turn_34 : decode (hr_cd 31) 34 = .ok (.aload_n 0, 1) := by decide +kernel
theorem dX_turn_35 : decode (hr_cd 31) 35 = .ok (.getfield 10, 3) := by decide +kernel
theorem dX_turn_38 : decode (hr_cd 31) 38 = .ok (.getfield 106, 3) := by decide +kernel
theorem dX_turn_41 : decode (hr_cd 31) 41 = .ok (.iload_n 1, 1) := by decide +kernel
theorem dX_turn_42 : decode (hr_cd 31) 42 = .ok (.aaload, 1) := by decide +kernel
theorem dX_turn_43 : decode (hr_cd 31) 43 = .ok (.iload_n 2, 1) := by decide +kernel
theorem dX_turn_44 : decode (hr_cd 31) 44 = .ok (.putfield 110, 3) := by decide +kernel
theorem dX_turn_47 : decode (hr_cd 31) 47 = .ok (.iload_n 3, 1) := by decide +kernel
theorem dX_turn_48 : decode (hr_cd 31) 48 = .ok (.ireturn, 1) := by decide +kernel
theorem dX_as_0 : decode (hr_cd 32) 0 = .ok (.aload_n 0, 1) := by decide +kernel
theorem dX_as_1 : decode (hr_cd 32) 1 = .ok (.iload_n 1, 1) := by decide +kernel
theorem dX_as_2 : decode (hr_cd 32) 2 = .ok (.invokevirtual 103, 3) := by decide +kernel
theorem dX_as_5 : decode (hr_cd 32) 5 = .ok (.ifCond .eq 10, 3) := by decide +kernel
theorem dX_as_8 : decode (hr_cd 32) 8 = .ok (.iload_n 2, 1) := by decide +kernel
theorem dX_as_9 : decode (hr_cd 32) 9 = .ok (.invokestatic 89, 3) := by decide +kernel
theorem dX_as_12 : decode (hr_cd 32) 12 = .ok (.ifCond .ne 9, 3) := by decide +kernel
theorem dX_as_15 : decode (hr_cd 32) 15 = .ok (.aload_n 0, 1) := by decide +kernel
theorem dX_as_16 : decode (hr_cd 32) 16 = .ok (.iconst 0, 1) := by decide +kernel
theorem dX_as_17 : decode (hr_cd 32) 17 = .ok (.invokevirtual 58, 3) := by decide +kernel
theorem dX_as_20 : decode (hr_cd 32) 20 = .ok (.ireturn, 1) := by decide +kernel
theorem dX_as_21 : decode (hr_cd 32) 21 = .ok (.aload_n 0, 1) := by decide +kernel
theorem dX_as_22 : decode (hr_cd 32) 22 = .ok (.getfield 10, 3) := by decide +kernel
theorem dX_as_25 : decode (hr_cd 32) 25 = .ok (.getfield 106, 3) := by decide +kernel
theorem dX_as_28 : decode (hr_cd 32) 28 = .ok (.iload_n 1, 1) := by decide +kernel
theorem dX_as_29 : decode (hr_cd 32) 29 = .ok (.aaload, 1) := by decide +kernel
theorem dX_as_30 : decode (hr_cd 32) 30 = .ok (.astore_n 3, 1) := by decide +kernel
theorem dX_as_31 : decode (hr_cd 32) 31 = .ok (.aload_n 3, 1) := by decide +kernel
theorem dX_as_32 : decode (hr_cd 32) 32 = .ok (.iload_n 2, 1) := by decide +kernel
theorem dX_as_33 : decode (hr_cd 32) 33 = .ok (.invokevirtual 143, 3) := by decide +kernel
theorem dX_as_36 : decode (hr_cd 32) 36 = .ok (.ifCond .eq 10, 3) := by decide +kernel
theorem dX_as_39 : decode (hr_cd 32) 39 = .ok (.aload_n 3, 1) := by decide +kernel
theorem dX_as_40 : decode (hr_cd 32) 40 = .ok (.getfield 116, 3) := by decide +kernel
theorem dX_as_43 : decode (hr_cd 32) 43 = .ok (.goto 8, 3) := by decide +kernel
theorem dX_as_46 : decode (hr_cd 32) 46 = .ok (.aload_n 0, 1) := by decide +kernel
theorem dX_as_47 : decode (hr_cd 32) 47 = .ok (.iconst 2, 1) := by decide +kernel
theorem dX_as_48 : decode (hr_cd 32) 48 = .ok (.invokevirtual 58, 3) := by decide +kernel
theorem dX_as_51 : decode (hr_cd 32) 51 = .ok (.ireturn, 1) := by decide +kernel
theorem dX_sounds_0 : decode (hr_cd 34) 0 = .ok (.aload_n 0, 1) := by decide +kernel
theorem dX_sounds_1 : decode (hr_cd 34) 1 = .ok (.iload_n 1, 1) := by decide +kernel
theorem dX_sounds_2 : decode (hr_cd 34) 2 = .ok (.invokevirtual 103, 3) := by decide +kernel
theorem dX_sounds_5 : decode (hr_cd 34) 5 = .ok (.ifCond .eq 10, 3) := by decide +kernel
theorem dX_sounds_8 : decode (hr_cd 34) 8 = .ok (.iload_n 2, 1) := by decide +kernel
theorem dX_sounds_9 : decode (hr_cd 34) 9 = .ok (.invokestatic 93, 3) := by decide +kernel
theorem dX_sounds_12 : decode (hr_cd 34) 12 = .ok (.ifCond .ne 9, 3) := by decide +kernel
theorem dX_sounds_15 : decode (hr_cd 34) 15 = .ok (.aload_n 0, 1) := by decide +kernel
theorem dX_sounds_16 : decode (hr_cd 34) 16 = .ok (.iconst 0, 1) := by decide +kernel
theorem dX_sounds_17 : decode (hr_cd 34) 17 = .ok (.invokevirtual 58, 3) := by decide +kernel
theorem dX_sounds_20 : decode (hr_cd 34) 20 = .ok (.ireturn, 1) := by decide +kernel
theorem dX_sounds_21 : decode (hr_cd 34) 21 = .ok (.aload_n 0, 1) := by decide +kernel
theorem dX_sounds_22 : decode (hr_cd 34) 22 = .ok (.getfield 10, 3) := by decide +kernel
theorem dX_sounds_25 : decode (hr_cd 34) 25 = .ok (.getfield 106, 3) := by decide +kernel
theorem dX_sounds_28 : decode (hr_cd 34) 28 = .ok (.iload_n 1, 1) := by decide +kernel
theorem dX_sounds_29 : decode (hr_cd 34) 29 = .ok (.aaload, 1) := by decide +kernel
theorem dX_sounds_30 : decode (hr_cd 34) 30 = .ok (.iload_n 2, 1) := by decide +kernel
theorem dX_sounds_31 : decode (hr_cd 34) 31 = .ok (.aload_n 0, 1) := by decide +kernel
theorem dX_sounds_32 : decode (hr_cd 34) 32 = .ok (.getfield 10, 3) := by decide +kernel
theorem dX_sounds_35 : decode (hr_cd 34) 35 = .ok (.getfield 66, 3) := by decide +kernel
theorem dX_sounds_38 : decode (hr_cd 34) 38 = .ok (.invokevirtual 128, 3) := by decide +kernel
theorem dX_sounds_41 : decode (hr_cd 34) 41 = .ok (.ireturn, 1) := by decide +kernel
theorem dX_loudest_0 : decode (hr_cd 35) 0 = .ok (.iload_n 1, 1) := by decide +kernel
theorem dX_loudest_1 : decode (hr_cd 35) 1 = .ok (.invokestatic 93, 3) := by decide +kernel
theorem dX_loudest_4 : decode (hr_cd 35) 4 = .ok (.ifCond .ne 9, 3) := by decide +kernel
theorem dX_loudest_7 : decode (hr_cd 35) 7 = .ok (.aload_n 0, 1) := by decide +kernel
theorem dX_loudest_8 : decode (hr_cd 35) 8 = .ok (.iconst 0, 1) := by decide +kernel
theorem dX_loudest_9 : decode (hr_cd 35) 9 = .ok (.invokevirtual 58, 3) := by decide +kernel
theorem dX_loudest_12 : decode (hr_cd 35) 12 = .ok (.ireturn, 1) := by decide +kernel
theorem dX_loudest_13 : decode (hr_cd 35) 13 = .ok (.aload_n 0, 1) := by decide +kernel
theorem dX_loudest_14 : decode (hr_cd 35) 14 = .ok (.aload_n 0, 1) := by decide +kernel
theorem dX_loudest_15 : decode (hr_cd 35) 15 = .ok (.getfield 10, 3) := by decide +kernel
theorem dX_loudest_18 : decode (hr_cd 35) 18 = .ok (.iload_n 1, 1) := by decide +kernel
theorem dX_loudest_19 : decode (hr_cd 35) 19 = .ok (.invokevirtual 146, 3) := by decide +kernel
theorem dX_loudest_22 : decode (hr_cd 35) 22 = .ok (.invokevirtual 149, 3) := by decide +kernel
theorem dX_loudest_25 : decode (hr_cd 35) 25 = .ok (.ireturn, 1) := by decide +kernel
theorem dX_orNone_0 : decode (hr_cd 37) 0 = .ok (.iload_n 1, 1) := by decide +kernel
theorem dX_orNone_1 : decode (hr_cd 37) 1 = .ok (.ldc 166, 2) := by decide +kernel
theorem dX_orNone_3 : decode (hr_cd 37) 3 = .ok (.if_icmp .ne 11, 3) := by decide +kernel
theorem dX_orNone_6 : decode (hr_cd 37) 6 = .ok (.aload_n 0, 1) := by decide +kernel
theorem dX_orNone_7 : decode (hr_cd 37) 7 = .ok (.iconst 3, 1) := by decide +kernel
theorem dX_orNone_8 : decode (hr_cd 37) 8 = .ok (.invokevirtual 58, 3) := by decide +kernel
theorem dX_orNone_11 : decode (hr_cd 37) 11 = .ok (.goto 4, 3) := by decide +kernel
theorem dX_orNone_14 : decode (hr_cd 37) 14 = .ok (.iload_n 1, 1) := by decide +kernel
theorem dX_orNone_15 : decode (hr_cd 37) 15 = .ok (.ireturn, 1) := by decide +kernel
theorem dX_watches_0 : decode (hr_cd 38) 0 = .ok (.iload_n 1, 1) := by decide +kernel
theorem dX_watches_1 : decode (hr_cd 38) 1 = .ok (.iconst 1, 1) := by decide +kernel
theorem dX_watches_2 : decode (hr_cd 38) 2 = .ok (.bipush 100, 2) := by decide +kernel
theorem dX_watches_4 : decode (hr_cd 38) 4 = .ok (.invokestatic 54, 3) := by decide +kernel
theorem dX_watches_7 : decode (hr_cd 38) 7 = .ok (.ifCond .ne 9, 3) := by decide +kernel
theorem dX_watches_10 : decode (hr_cd 38) 10 = .ok (.aload_n 0, 1) := by decide +kernel
theorem dX_watches_11 : decode (hr_cd 38) 11 = .ok (.iconst 0, 1) := by decide +kernel
theorem dX_watches_12 : decode (hr_cd 38) 12 = .ok (.invokevirtual 58, 3) := by decide +kernel
theorem dX_watches_15 : decode (hr_cd 38) 15 = .ok (.ireturn, 1) := by decide +kernel
theorem dX_watches_16 : decode (hr_cd 38) 16 = .ok (.aload_n 0, 1) := by decide +kernel
theorem dX_watches_17 : decode (hr_cd 38) 17 = .ok (.getfield 10, 3) := by decide +kernel
theorem dX_watches_20 : decode (hr_cd 38) 20 = .ok (.getfield 66, 3) := by decide +kernel
theorem dX_watches_23 : decode (hr_cd 38) 23 = .ok (.iload_n 1, 1) := by decide +kernel
theorem dX_watches_24 : decode (hr_cd 38) 24 = .ok (.iadd, 1) := by decide +kernel
theorem dX_watches_25 : decode (hr_cd 38) 25 = .ok (.ldc 152, 2) := by decide +kernel
theorem dX_watches_27 : decode (hr_cd 38) 27 = .ok (.if_icmp .le 9, 3) := by decide +kernel
theorem dX_watches_30 : decode (hr_cd 38) 30 = .ok (.aload_n 0, 1) := by decide +kernel
theorem dX_watches_31 : decode (hr_cd 38) 31 = .ok (.iconst 4, 1) := by decide +kernel
theorem dX_watches_32 : decode (hr_cd 38) 32 = .ok (.invokevirtual 58, 3) := by decide +kernel
theorem dX_watches_35 : decode (hr_cd 38) 35 = .ok (.ireturn, 1) := by decide +kernel
theorem dX_watches_36 : decode (hr_cd 38) 36 = .ok (.aload_n 0, 1) := by decide +kernel
theorem dX_watches_37 : decode (hr_cd 38) 37 = .ok (.getfield 10, 3) := by decide +kernel
theorem dX_watches_40 : decode (hr_cd 38) 40 = .ok (.iload_n 1, 1) := by decide +kernel
theorem dX_watches_41 : decode (hr_cd 38) 41 = .ok (.invokevirtual 153, 3) := by decide +kernel
theorem dX_watches_44 : decode (hr_cd 38) 44 = .ok (.aload_n 0, 1) := by decide +kernel
theorem dX_watches_45 : decode (hr_cd 38) 45 = .ok (.getfield 10, 3) := by decide +kernel
theorem dX_watches_48 : decode (hr_cd 38) 48 = .ok (.getfield 70, 3) := by decide +kernel
theorem dX_watches_51 : decode (hr_cd 38) 51 = .ok (.ireturn, 1) := by decide +kernel
theorem dX_on_0 : decode (hr_cd 46) 0 = .ok (.iload_n 1, 1) := by decide +kernel
theorem dX_on_1 : decode (hr_cd 46) 1 = .ok (.iconst 0, 1) := by decide +kernel
theorem dX_on_2 : decode (hr_cd 46) 2 = .ok (.sipush 200, 3) := by decide +kernel
theorem dX_on_5 : decode (hr_cd 46) 5 = .ok (.invokestatic 54, 3) := by decide +kernel
theorem dX_on_8 : decode (hr_cd 46) 8 = .ok (.ifCond .eq 12, 3) := by decide +kernel
theorem dX_on_11 : decode (hr_cd 46) 11 = .ok (.iload_n 2, 1) := by decide +kernel
theorem dX_on_12 : decode (hr_cd 46) 12 = .ok (.iconst 0, 1) := by decide +kernel
theorem dX_on_13 : decode (hr_cd 46) 13 = .ok (.iconst 1, 1) := by decide +kernel
theorem dX_on_14 : decode (hr_cd 46) 14 = .ok (.invokestatic 54, 3) := by decide +kernel
theorem dX_on_17 : decode (hr_cd 46) 17 = .ok (.ifCond .ne 9, 3) := by decide +kernel
theorem dX_on_20 : decode (hr_cd 46) 20 = .ok (.aload_n 0, 1) := by decide +kernel
theorem dX_on_21 : decode (hr_cd 46) 21 = .ok (.iconst 0, 1) := by decide +kernel
theorem dX_on_22 : decode (hr_cd 46) 22 = .ok (.invokevirtual 58, 3) := by decide +kernel
theorem dX_on_25 : decode (hr_cd 46) 25 = .ok (.ireturn, 1) := by decide +kernel
theorem dX_on_26 : decode (hr_cd 46) 26 = .ok (.aload_n 0, 1) := by decide +kernel
theorem dX_on_27 : decode (hr_cd 46) 27 = .ok (.invokevirtual 157, 3) := by decide +kernel
theorem dX_on_30 : decode (hr_cd 46) 30 = .ok (.aload_n 0, 1) := by decide +kernel
theorem dX_on_31 : decode (hr_cd 46) 31 = .ok (.getfield 16, 3) := by decide +kernel
theorem dX_on_34 : decode (hr_cd 46) 34 = .ok (.iload_n 1, 1) := by decide +kernel
theorem dX_on_35 : decode (hr_cd 46) 35 = .ok (.invokevirtual 153, 3) := by decide +kernel
theorem dX_on_38 : decode (hr_cd 46) 38 = .ok (.iload_n 2, 1) := by decide +kernel
theorem dX_on_39 : decode (hr_cd 46) 39 = .ok (.ifCond .ne 13, 3) := by decide +kernel
theorem dX_on_42 : decode (hr_cd 46) 42 = .ok (.aload_n 0, 1) := by decide +kernel
theorem dX_on_43 : decode (hr_cd 46) 43 = .ok (.getfield 16, 3) := by decide +kernel
theorem dX_on_46 : decode (hr_cd 46) 46 = .ok (.getfield 70, 3) := by decide +kernel
theorem dX_on_49 : decode (hr_cd 46) 49 = .ok (.goto 10, 3) := by decide +kernel
theorem dX_on_52 : decode (hr_cd 46) 52 = .ok (.aload_n 0, 1) := by decide +kernel
theorem dX_on_53 : decode (hr_cd 46) 53 = .ok (.getfield 16, 3) := by decide +kernel
theorem dX_on_56 : decode (hr_cd 46) 56 = .ok (.getfield 79, 3) := by decide +kernel
theorem dX_on_59 : decode (hr_cd 46) 59 = .ok (.ireturn, 1) := by decide +kernel
theorem dX_tryAsItIs_0 : decode (hr_cd 47) 0 = .ok (.aload_n 0, 1) := by decide +kernel
theorem dX_tryAsItIs_1 : decode (hr_cd 47) 1 = .ok (.getfield 16, 3) := by decide +kernel
theorem dX_tryAsItIs_4 : decode (hr_cd 47) 4 = .ok (.aload_n 0, 1) := by decide +kernel
theorem dX_tryAsItIs_5 : decode (hr_cd 47) 5 = .ok (.getfield 10, 3) := by decide +kernel
theorem dX_tryAsItIs_8 : decode (hr_cd 47) 8 = .ok (.invokevirtual 198, 3) := by decide +kernel
theorem dX_tryAsItIs_11 : decode (hr_cd 47) 11 = .ok (.return_, 1) := by decide +kernel
theorem dX_moved_0 : decode (hr_cd 50) 0 = .ok (.aload_n 0, 1) := by decide +kernel
theorem dX_moved_1 : decode (hr_cd 50) 1 = .ok (.iload_n 1, 1) := by decide +kernel
theorem dX_moved_2 : decode (hr_cd 50) 2 = .ok (.invokevirtual 103, 3) := by decide +kernel
theorem dX_moved_5 : decode (hr_cd 50) 5 = .ok (.ifCond .eq 14, 3) := by decide +kernel
theorem dX_moved_8 : decode (hr_cd 50) 8 = .ok (.iload_n 2, 1) := by decide +kernel
theorem dX_moved_9 : decode (hr_cd 50) 9 = .ok (.iconst 0, 1) := by decide +kernel
theorem dX_moved_10 : decode (hr_cd 50) 10 = .ok (.sipush 200, 3) := by decide +kernel
theorem dX_moved_13 : decode (hr_cd 50) 13 = .ok (.invokestatic 54, 3) := by decide +kernel
theorem dX_moved_16 : decode (hr_cd 50) 16 = .ok (.ifCond .ne 9, 3) := by decide +kernel
theorem dX_moved_19 : decode (hr_cd 50) 19 = .ok (.aload_n 0, 1) := by decide +kernel
theorem dX_moved_20 : decode (hr_cd 50) 20 = .ok (.iconst 0, 1) := by decide +kernel
theorem dX_moved_21 : decode (hr_cd 50) 21 = .ok (.invokevirtual 58, 3) := by decide +kernel
theorem dX_moved_24 : decode (hr_cd 50) 24 = .ok (.ireturn, 1) := by decide +kernel
theorem dX_moved_25 : decode (hr_cd 50) 25 = .ok (.aload_n 0, 1) := by decide +kernel
theorem dX_moved_26 : decode (hr_cd 50) 26 = .ok (.invokevirtual 157, 3) := by decide +kernel
theorem dX_moved_29 : decode (hr_cd 50) 29 = .ok (.aload_n 0, 1) := by decide +kernel
theorem dX_moved_30 : decode (hr_cd 50) 30 = .ok (.getfield 16, 3) := by decide +kernel
theorem dX_moved_33 : decode (hr_cd 50) 33 = .ok (.iload_n 2, 1) := by decide +kernel
theorem dX_moved_34 : decode (hr_cd 50) 34 = .ok (.invokevirtual 153, 3) := by decide +kernel
theorem dX_moved_37 : decode (hr_cd 50) 37 = .ok (.aload_n 0, 1) := by decide +kernel
theorem dX_moved_38 : decode (hr_cd 50) 38 = .ok (.getfield 16, 3) := by decide +kernel
theorem dX_moved_41 : decode (hr_cd 50) 41 = .ok (.getfield 106, 3) := by decide +kernel
theorem dX_moved_44 : decode (hr_cd 50) 44 = .ok (.iload_n 1, 1) := by decide +kernel
theorem dX_moved_45 : decode (hr_cd 50) 45 = .ok (.aaload, 1) := by decide +kernel
theorem dX_moved_46 : decode (hr_cd 50) 46 = .ok (.getfield 115, 3) := by decide +kernel
theorem dX_moved_49 : decode (hr_cd 50) 49 = .ok (.ireturn, 1) := by decide +kernel
theorem dX_strikes_0 : decode (hr_cd 51) 0 = .ok (.aload_n 0, 1) := by decide +kernel
theorem dX_strikes_1 : decode (hr_cd 51) 1 = .ok (.invokevirtual 157, 3) := by decide +kernel
theorem dX_strikes_4 : decode (hr_cd 51) 4 = .ok (.aload_n 0, 1) := by decide +kernel
theorem dX_strikes_5 : decode (hr_cd 51) 5 = .ok (.aload_n 0, 1) := by decide +kernel
theorem dX_strikes_6 : decode (hr_cd 51) 6 = .ok (.getfield 16, 3) := by decide +kernel
theorem dX_strikes_9 : decode (hr_cd 51) 9 = .ok (.iconst 1, 1) := by decide +kernel
theorem dX_strikes_10 : decode (hr_cd 51) 10 = .ok (.sipush 200, 3) := by decide +kernel
theorem dX_strikes_13 : decode (hr_cd 51) 13 = .ok (.invokevirtual 160, 3) := by decide +kernel
theorem dX_strikes_16 : decode (hr_cd 51) 16 = .ok (.invokevirtual 149, 3) := by decide +kernel
theorem dX_strikes_19 : decode (hr_cd 51) 19 = .ok (.ireturn, 1) := by decide +kernel
theorem dX_home_0 : decode (hr_cd 53) 0 = .ok (.aload_n 0, 1) := by decide +kernel
theorem dX_home_1 : decode (hr_cd 53) 1 = .ok (.invokevirtual 157, 3) := by decide +kernel
theorem dX_home_4 : decode (hr_cd 53) 4 = .ok (.aload_n 0, 1) := by decide +kernel
theorem dX_home_5 : decode (hr_cd 53) 5 = .ok (.aload_n 0, 1) := by decide +kernel
theorem dX_home_6 : decode (hr_cd 53) 6 = .ok (.getfield 16, 3) := by decide +kernel
theorem dX_home_9 : decode (hr_cd 53) 9 = .ok (.iconst 2, 1) := by decide +kernel
theorem dX_home_10 : decode (hr_cd 53) 10 = .ok (.sipush 200, 3) := by decide +kernel
theorem dX_home_13 : decode (hr_cd 53) 13 = .ok (.invokevirtual 160, 3) := by decide +kernel
theorem dX_home_16 : decode (hr_cd 53) 16 = .ok (.invokevirtual 149, 3) := by decide +kernel
theorem dX_home_19 : decode (hr_cd 53) 19 = .ok (.ireturn, 1) := by decide +kernel
theorem dX_comes_0 : decode (hr_cd 54) 0 = .ok (.iload_n 1, 1) := by decide +kernel
theorem dX_comes_1 : decode (hr_cd 54) 1 = .ok (.invokestatic 93, 3) := by decide +kernel
theorem dX_comes_4 : decode (hr_cd 54) 4 = .ok (.ifCond .ne 9, 3) := by decide +kernel
theorem dX_comes_7 : decode (hr_cd 54) 7 = .ok (.aload_n 0, 1) := by decide +kernel
theorem dX_comes_8 : decode (hr_cd 54) 8 = .ok (.iconst 0, 1) := by decide +kernel
theorem dX_comes_9 : decode (hr_cd 54) 9 = .ok (.invokevirtual 58, 3) := by decide +kernel
theorem dX_comes_12 : decode (hr_cd 54) 12 = .ok (.ireturn, 1) := by decide +kernel
theorem dX_comes_13 : decode (hr_cd 54) 13 = .ok (.aload_n 0, 1) := by decide +kernel
theorem dX_comes_14 : decode (hr_cd 54) 14 = .ok (.invokevirtual 157, 3) := by decide +kernel
theorem dX_comes_17 : decode (hr_cd 54) 17 = .ok (.aload_n 0, 1) := by decide +kernel
theorem dX_comes_18 : decode (hr_cd 54) 18 = .ok (.aload_n 0, 1) := by decide +kernel
theorem dX_comes_19 : decode (hr_cd 54) 19 = .ok (.getfield 16, 3) := by decide +kernel
theorem dX_comes_22 : decode (hr_cd 54) 22 = .ok (.iload_n 1, 1) := by decide +kernel
theorem dX_comes_23 : decode (hr_cd 54) 23 = .ok (.sipush 200, 3) := by decide +kernel
theorem dX_comes_26 : decode (hr_cd 54) 26 = .ok (.invokevirtual 163, 3) := by decide +kernel
theorem dX_comes_29 : decode (hr_cd 54) 29 = .ok (.invokevirtual 149, 3) := by decide +kernel
theorem dX_comes_32 : decode (hr_cd 54) 32 = .ok (.ireturn, 1) := by decide +kernel
theorem dX_ear_0 : decode (hr_cd 56) 0 = .ok (.aload_n 0, 1) := by decide +kernel
theorem dX_ear_1 : decode (hr_cd 56) 1 = .ok (.getfield 29, 3) := by decide +kernel
theorem dX_ear_4 : decode (hr_cd 56) 4 = .ok (.ldc 166, 2) := by decide +kernel
theorem dX_ear_6 : decode (hr_cd 56) 6 = .ok (.invokevirtual 167, 3) := by decide +kernel
theorem dX_ear_9 : decode (hr_cd 56) 9 = .ok (.iconst 0, 1) := by decide +kernel
theorem dX_ear_10 : decode (hr_cd 56) 10 = .ok (.istore_n 1, 1) := by decide +kernel
theorem dX_ear_11 : decode (hr_cd 56) 11 = .ok (.iload_n 1, 1) := by decide +kernel
theorem dX_ear_12 : decode (hr_cd 56) 12 = .ok (.bipush 9, 2) := by decide +kernel
theorem dX_ear_14 : decode (hr_cd 56) 14 = .ok (.if_icmp .gt 40, 3) := by decide +kernel
theorem dX_ear_17 : decode (hr_cd 56) 17 = .ok (.aload_n 0, 1) := by decide +kernel
theorem dX_ear_18 : decode (hr_cd 56) 18 = .ok (.invokevirtual 157, 3) := by decide +kernel
theorem dX_ear_21 : decode (hr_cd 56) 21 = .ok (.aload_n 0, 1) := by decide +kernel
theorem dX_ear_22 : decode (hr_cd 56) 22 = .ok (.getfield 16, 3) := by decide +kernel
theorem dX_ear_25 : decode (hr_cd 56) 25 = .ok (.iload_n 1, 1) := by decide +kernel
theorem dX_ear_26 : decode (hr_cd 56) 26 = .ok (.putfield 73, 3) := by decide +kernel
theorem dX_ear_29 : decode (hr_cd 56) 29 = .ok (.aload_n 0, 1) := by decide +kernel
theorem dX_ear_30 : decode (hr_cd 56) 30 = .ok (.getfield 29, 3) := by decide +kernel
theorem dX_ear_33 : decode (hr_cd 56) 33 = .ok (.iload_n 1, 1) := by decide +kernel
theorem dX_ear_34 : decode (hr_cd 56) 34 = .ok (.aload_n 0, 1) := by decide +kernel
theorem dX_ear_35 : decode (hr_cd 56) 35 = .ok (.getfield 16, 3) := by decide +kernel
theorem dX_ear_38 : decode (hr_cd 56) 38 = .ok (.iconst 2, 1) := by decide +kernel
theorem dX_ear_39 : decode (hr_cd 56) 39 = .ok (.sipush 200, 3) := by decide +kernel
theorem dX_ear_42 : decode (hr_cd 56) 42 = .ok (.invokevirtual 160, 3) := by decide +kernel
theorem dX_ear_45 : decode (hr_cd 56) 45 = .ok (.invokevirtual 170, 3) := by decide +kernel
theorem dX_ear_48 : decode (hr_cd 56) 48 = .ok (.iinc 1 1, 3) := by decide +kernel
theorem dX_ear_51 : decode (hr_cd 56) 51 = .ok (.goto (-40), 3) := by decide +kernel
theorem dX_ear_54 : decode (hr_cd 56) 54 = .ok (.aload_n 0, 1) := by decide +kernel
theorem dX_ear_55 : decode (hr_cd 56) 55 = .ok (.aload_n 0, 1) := by decide +kernel
theorem dX_ear_56 : decode (hr_cd 56) 56 = .ok (.getfield 29, 3) := by decide +kernel
theorem dX_ear_59 : decode (hr_cd 56) 59 = .ok (.getfield 174, 3) := by decide +kernel
theorem dX_ear_62 : decode (hr_cd 56) 62 = .ok (.invokevirtual 149, 3) := by decide +kernel
theorem dX_ear_65 : decode (hr_cd 56) 65 = .ok (.ireturn, 1) := by decide +kernel
theorem dX_begin_0 : decode (hr_cd 59) 0 = .ok (.iload_n 1, 1) := by decide +kernel
theorem dX_begin_1 : decode (hr_cd 59) 1 = .ok (.iconst 0, 1) := by decide +kernel
theorem dX_begin_2 : decode (hr_cd 59) 2 = .ok (.bipush 7, 2) := by decide +kernel
theorem dX_begin_4 : decode (hr_cd 59) 4 = .ok (.invokestatic 54, 3) := by decide +kernel
theorem dX_begin_7 : decode (hr_cd 59) 7 = .ok (.ifCond .ne 9, 3) := by decide +kernel
theorem dX_begin_10 : decode (hr_cd 59) 10 = .ok (.aload_n 0, 1) := by decide +kernel
theorem dX_begin_11 : decode (hr_cd 59) 11 = .ok (.iconst 0, 1) := by decide +kernel
theorem dX_begin_12 : decode (hr_cd 59) 12 = .ok (.invokevirtual 58, 3) := by decide +kernel
theorem dX_begin_15 : decode (hr_cd 59) 15 = .ok (.ireturn, 1) := by decide +kernel
theorem dX_begin_16 : decode (hr_cd 59) 16 = .ok (.aload_n 0, 1) := by decide +kernel
theorem dX_begin_17 : decode (hr_cd 59) 17 = .ok (.getfield 29, 3) := by decide +kernel
theorem dX_begin_20 : decode (hr_cd 59) 20 = .ok (.ldc 166, 2) := by decide +kernel
theorem dX_begin_22 : decode (hr_cd 59) 22 = .ok (.invokevirtual 167, 3) := by decide +kernel
theorem dX_begin_25 : decode (hr_cd 59) 25 = .ok (.iload_n 1, 1) := by decide +kernel
theorem dX_begin_26 : decode (hr_cd 59) 26 = .ok (.bipush 8, 2) := by decide +kernel
theorem dX_begin_28 : decode (hr_cd 59) 28 = .ok (.imul, 1) := by decide +kernel
theorem dX_begin_29 : decode (hr_cd 59) 29 = .ok (.istore_n 2, 1) := by decide +kernel
theorem dX_begin_30 : decode (hr_cd 59) 30 = .ok (.iload_n 2, 1) := by decide +kernel
theorem dX_begin_31 : decode (hr_cd 59) 31 = .ok (.iload_n 1, 1) := by decide +kernel
theorem dX_begin_32 : decode (hr_cd 59) 32 = .ok (.bipush 8, 2) := by decide +kernel
theorem dX_begin_34 : decode (hr_cd 59) 34 = .ok (.imul, 1) := by decide +kernel
theorem dX_begin_35 : decode (hr_cd 59) 35 = .ok (.bipush 8, 2) := by decide +kernel
theorem dX_begin_37 : decode (hr_cd 59) 37 = .ok (.iadd, 1) := by decide +kernel
theorem dX_begin_38 : decode (hr_cd 59) 38 = .ok (.if_icmp .ge 39, 3) := by decide +kernel
theorem dX_begin_41 : decode (hr_cd 59) 41 = .ok (.aload_n 0, 1) := by decide +kernel
theorem dX_begin_42 : decode (hr_cd 59) 42 = .ok (.invokevirtual 157, 3) := by decide +kernel
theorem dX_begin_45 : decode (hr_cd 59) 45 = .ok (.aload_n 0, 1) := by decide +kernel
theorem dX_begin_46 : decode (hr_cd 59) 46 = .ok (.getfield 16, 3) := by decide +kernel
theorem dX_begin_49 : decode (hr_cd 59) 49 = .ok (.iload_n 2, 1) := by decide +kernel
theorem dX_begin_50 : decode (hr_cd 59) 50 = .ok (.invokevirtual 177, 3) := by decide +kernel
theorem dX_begin_53 : decode (hr_cd 59) 53 = .ok (.aload_n 0, 1) := by decide +kernel
theorem dX_begin_54 : decode (hr_cd 59) 54 = .ok (.getfield 29, 3) := by decide +kernel
theorem dX_begin_57 : decode (hr_cd 59) 57 = .ok (.iload_n 2, 1) := by decide +kernel
theorem dX_begin_58 : decode (hr_cd 59) 58 = .ok (.aload_n 0, 1) := by decide +kernel
theorem dX_begin_59 : decode (hr_cd 59) 59 = .ok (.getfield 16, 3) := by decide +kernel
theorem dX_begin_62 : decode (hr_cd 59) 62 = .ok (.iconst 2, 1) := by decide +kernel
theorem dX_begin_63 : decode (hr_cd 59) 63 = .ok (.bipush 100, 2) := by decide +kernel
theorem dX_begin_65 : decode (hr_cd 59) 65 = .ok (.invokevirtual 160, 3) := by decide +kernel
theorem dX_begin_68 : decode (hr_cd 59) 68 = .ok (.invokevirtual 170, 3) := by decide +kernel
theorem dX_begin_71 : decode (hr_cd 59) 71 = .ok (.iinc 2 1, 3) := by decide +kernel
theorem dX_begin_74 : decode (hr_cd 59) 74 = .ok (.goto (-44), 3) := by decide +kernel
theorem dX_begin_77 : decode (hr_cd 59) 77 = .ok (.aload_n 0, 1) := by decide +kernel
theorem dX_begin_78 : decode (hr_cd 59) 78 = .ok (.aload_n 0, 1) := by decide +kernel
theorem dX_begin_79 : decode (hr_cd 59) 79 = .ok (.getfield 29, 3) := by decide +kernel
theorem dX_begin_82 : decode (hr_cd 59) 82 = .ok (.getfield 174, 3) := by decide +kernel
theorem dX_begin_85 : decode (hr_cd 59) 85 = .ok (.invokevirtual 149, 3) := by decide +kernel
theorem dX_begin_88 : decode (hr_cd 59) 88 = .ok (.ireturn, 1) := by decide +kernel
theorem dX_silence_0 : decode (hr_cd 60) 0 = .ok (.aload_n 0, 1) := by decide +kernel
theorem dX_silence_1 : decode (hr_cd 60) 1 = .ok (.invokevirtual 157, 3) := by decide +kernel
theorem dX_silence_4 : decode (hr_cd 60) 4 = .ok (.aload_n 0, 1) := by decide +kernel
theorem dX_silence_5 : decode (hr_cd 60) 5 = .ok (.getfield 29, 3) := by decide +kernel
theorem dX_silence_8 : decode (hr_cd 60) 8 = .ok (.aload_n 0, 1) := by decide +kernel
theorem dX_silence_9 : decode (hr_cd 60) 9 = .ok (.getfield 16, 3) := by decide +kernel
theorem dX_silence_12 : decode (hr_cd 60) 12 = .ok (.iconst 2, 1) := by decide +kernel
theorem dX_silence_13 : decode (hr_cd 60) 13 = .ok (.sipush 200, 3) := by decide +kernel
theorem dX_silence_16 : decode (hr_cd 60) 16 = .ok (.invokevirtual 160, 3) := by decide +kernel
theorem dX_silence_19 : decode (hr_cd 60) 19 = .ok (.invokevirtual 167, 3) := by decide +kernel
theorem dX_silence_22 : decode (hr_cd 60) 22 = .ok (.iconst 0, 1) := by decide +kernel
theorem dX_silence_23 : decode (hr_cd 60) 23 = .ok (.istore_n 1, 1) := by decide +kernel
theorem dX_silence_24 : decode (hr_cd 60) 24 = .ok (.iload_n 1, 1) := by decide +kernel
theorem dX_silence_25 : decode (hr_cd 60) 25 = .ok (.aload_n 0, 1) := by decide +kernel
theorem dX_silence_26 : decode (hr_cd 60) 26 = .ok (.getfield 10, 3) := by decide +kernel
theorem dX_silence_29 : decode (hr_cd 60) 29 = .ok (.getfield 100, 3) := by decide +kernel
theorem dX_silence_32 : decode (hr_cd 60) 32 = .ok (.if_icmp .ge 64, 3) := by decide +kernel
theorem dX_silence_35 : decode (hr_cd 60) 35 = .ok (.aload_n 0, 1) := by decide +kernel
theorem dX_silence_36 : decode (hr_cd 60) 36 = .ok (.getfield 10, 3) := by decide +kernel
theorem dX_silence_39 : decode (hr_cd 60) 39 = .ok (.getfield 106, 3) := by decide +kernel
theorem dX_silence_42 : decode (hr_cd 60) 42 = .ok (.iload_n 1, 1) := by decide +kernel
theorem dX_silence_43 : decode (hr_cd 60) 43 = .ok (.aaload, 1) := by decide +kernel
theorem dX_silence_44 : decode (hr_cd 60) 44 = .ok (.getfield 122, 3) := by decide +kernel
theorem dX_silence_47 : decode (hr_cd 60) 47 = .ok (.iconst 1, 1) := by decide +kernel
theorem dX_silence_48 : decode (hr_cd 60) 48 = .ok (.if_icmp .ne 6, 3) := by decide +kernel
theorem dX_silence_51 : decode (hr_cd 60) 51 = .ok (.goto 39, 3) := by decide +kernel
theorem dX_silence_54 : decode (hr_cd 60) 54 = .ok (.aload_n 0, 1) := by decide +kernel
theorem dX_silence_55 : decode (hr_cd 60) 55 = .ok (.invokevirtual 157, 3) := by decide +kernel
theorem dX_silence_58 : decode (hr_cd 60) 58 = .ok (.aload_n 0, 1) := by decide +kernel
theorem dX_silence_59 : decode (hr_cd 60) 59 = .ok (.getfield 16, 3) := by decide +kernel
theorem dX_silence_62 : decode (hr_cd 60) 62 = .ok (.getfield 106, 3) := by decide +kernel
theorem dX_silence_65 : decode (hr_cd 60) 65 = .ok (.iload_n 1, 1) := by decide +kernel
theorem dX_silence_66 : decode (hr_cd 60) 66 = .ok (.aaload, 1) := by decide +kernel
theorem dX_silence_67 : decode (hr_cd 60) 67 = .ok (.iconst 1, 1) := by decide +kernel
theorem dX_silence_68 : decode (hr_cd 60) 68 = .ok (.putfield 122, 3) := by decide +kernel
theorem dX_silence_71 : decode (hr_cd 60) 71 = .ok (.aload_n 0, 1) := by decide +kernel
theorem dX_silence_72 : decode (hr_cd 60) 72 = .ok (.getfield 29, 3) := by decide +kernel
theorem dX_silence_75 : decode (hr_cd 60) 75 = .ok (.iload_n 1, 1) := by decide +kernel
theorem dX_silence_76 : decode (hr_cd 60) 76 = .ok (.aload_n 0, 1) := by decide +kernel
theorem dX_silence_77 : decode (hr_cd 60) 77 = .ok (.getfield 16, 3) := by decide +kernel
theorem dX_silence_80 : decode (hr_cd 60) 80 = .ok (.iconst 2, 1) := by decide +kernel
theorem dX_silence_81 : decode (hr_cd 60) 81 = .ok (.sipush 200, 3) := by decide +kernel
theorem dX_silence_84 : decode (hr_cd 60) 84 = .ok (.invokevirtual 160, 3) := by decide +kernel
theorem dX_silence_87 : decode (hr_cd 60) 87 = .ok (.invokevirtual 170, 3) := by decide +kernel
theorem dX_silence_90 : decode (hr_cd 60) 90 = .ok (.iinc 1 1, 3) := by decide +kernel
theorem dX_silence_93 : decode (hr_cd 60) 93 = .ok (.goto (-69), 3) := by decide +kernel
theorem dX_silence_96 : decode (hr_cd 60) 96 = .ok (.aload_n 0, 1) := by decide +kernel
theorem dX_silence_97 : decode (hr_cd 60) 97 = .ok (.aload_n 0, 1) := by decide +kernel
theorem dX_silence_98 : decode (hr_cd 60) 98 = .ok (.getfield 29, 3) := by decide +kernel
theorem dX_silence_101 : decode (hr_cd 60) 101 = .ok (.getfield 174, 3) := by decide +kernel
theorem dX_silence_104 : decode (hr_cd 60) 104 = .ok (.invokevirtual 149, 3) := by decide +kernel
theorem dX_silence_107 : decode (hr_cd 60) 107 = .ok (.ireturn, 1) := by decide +kernel
theorem dX_kind_0 : decode (hr_cd 61) 0 = .ok (.aload_n 0, 1) := by decide +kernel
theorem dX_kind_1 : decode (hr_cd 61) 1 = .ok (.iload_n 1, 1) := by decide +kernel
theorem dX_kind_2 : decode (hr_cd 61) 2 = .ok (.invokevirtual 103, 3) := by decide +kernel
theorem dX_kind_5 : decode (hr_cd 61) 5 = .ok (.ifCond .ne 9, 3) := by decide +kernel
theorem dX_kind_8 : decode (hr_cd 61) 8 = .ok (.aload_n 0, 1) := by decide +kernel
theorem dX_kind_9 : decode (hr_cd 61) 9 = .ok (.iconst 0, 1) := by decide +kernel
theorem dX_kind_10 : decode (hr_cd 61) 10 = .ok (.invokevirtual 58, 3) := by decide +kernel
theorem dX_kind_13 : decode (hr_cd 61) 13 = .ok (.ireturn, 1) := by decide +kernel
theorem dX_kind_14 : decode (hr_cd 61) 14 = .ok (.aload_n 0, 1) := by decide +kernel
theorem dX_kind_15 : decode (hr_cd 61) 15 = .ok (.getfield 29, 3) := by decide +kernel
theorem dX_kind_18 : decode (hr_cd 61) 18 = .ok (.ldc 166, 2) := by decide +kernel
theorem dX_kind_20 : decode (hr_cd 61) 20 = .ok (.invokevirtual 167, 3) := by decide +kernel
theorem dX_kind_23 : decode (hr_cd 61) 23 = .ok (.iconst 0, 1) := by decide +kernel
theorem dX_kind_24 : decode (hr_cd 61) 24 = .ok (.istore_n 2, 1) := by decide +kernel
theorem dX_kind_25 : decode (hr_cd 61) 25 = .ok (.iload_n 2, 1) := by decide +kernel
theorem dX_kind_26 : decode (hr_cd 61) 26 = .ok (.bipush 6, 2) := by decide +kernel
theorem dX_kind_28 : decode (hr_cd 61) 28 = .ok (.if_icmp .ge 45, 3) := by decide +kernel
theorem dX_kind_31 : decode (hr_cd 61) 31 = .ok (.aload_n 0, 1) := by decide +kernel
theorem dX_kind_32 : decode (hr_cd 61) 32 = .ok (.invokevirtual 157, 3) := by decide +kernel
theorem dX_kind_35 : decode (hr_cd 61) 35 = .ok (.aload_n 0, 1) := by decide +kernel
theorem dX_kind_36 : decode (hr_cd 61) 36 = .ok (.getfield 16, 3) := by decide +kernel
theorem dX_kind_39 : decode (hr_cd 61) 39 = .ok (.getfield 106, 3) := by decide +kernel
theorem dX_kind_42 : decode (hr_cd 61) 42 = .ok (.iload_n 1, 1) := by decide +kernel
theorem dX_kind_43 : decode (hr_cd 61) 43 = .ok (.aaload, 1) := by decide +kernel
theorem dX_kind_44 : decode (hr_cd 61) 44 = .ok (.iload_n 2, 1) := by decide +kernel
theorem dX_kind_45 : decode (hr_cd 61) 45 = .ok (.putfield 110, 3) := by decide +kernel
theorem dX_kind_48 : decode (hr_cd 61) 48 = .ok (.aload_n 0, 1) := by decide +kernel
theorem dX_kind_49 : decode (hr_cd 61) 49 = .ok (.getfield 29, 3) := by decide +kernel
theorem dX_kind_52 : decode (hr_cd 61) 52 = .ok (.iload_n 2, 1) := by decide +kernel
theorem dX_kind_53 : decode (hr_cd 61) 53 = .ok (.aload_n 0, 1) := by decide +kernel
theorem dX_kind_54 : decode (hr_cd 61) 54 = .ok (.getfield 16, 3) := by decide +kernel
theorem dX_kind_57 : decode (hr_cd 61) 57 = .ok (.iconst 2, 1) := by decide +kernel
theorem dX_kind_58 : decode (hr_cd 61) 58 = .ok (.sipush 200, 3) := by decide +kernel
theorem dX_kind_61 : decode (hr_cd 61) 61 = .ok (.invokevirtual 160, 3) := by decide +kernel
theorem dX_kind_64 : decode (hr_cd 61) 64 = .ok (.invokevirtual 170, 3) := by decide +kernel
theorem dX_kind_67 : decode (hr_cd 61) 67 = .ok (.iinc 2 1, 3) := by decide +kernel
theorem dX_kind_70 : decode (hr_cd 61) 70 = .ok (.goto (-45), 3) := by decide +kernel
theorem dX_kind_73 : decode (hr_cd 61) 73 = .ok (.aload_n 0, 1) := by decide +kernel
theorem dX_kind_74 : decode (hr_cd 61) 74 = .ok (.aload_n 0, 1) := by decide +kernel
theorem dX_kind_75 : decode (hr_cd 61) 75 = .ok (.getfield 29, 3) := by decide +kernel
theorem dX_kind_78 : decode (hr_cd 61) 78 = .ok (.getfield 174, 3) := by decide +kernel
theorem dX_kind_81 : decode (hr_cd 61) 81 = .ok (.invokevirtual 149, 3) := by decide +kernel
theorem dX_kind_84 : decode (hr_cd 61) 84 = .ok (.ireturn, 1) := by decide +kernel
theorem dX_horn_0 : decode (hr_cd 62) 0 = .ok (.aload_n 0, 1) := by decide +kernel
theorem dX_horn_1 : decode (hr_cd 62) 1 = .ok (.iload_n 1, 1) := by decide +kernel
theorem dX_horn_2 : decode (hr_cd 62) 2 = .ok (.invokevirtual 103, 3) := by decide +kernel
theorem dX_horn_5 : decode (hr_cd 62) 5 = .ok (.ifCond .eq 13, 3) := by decide +kernel
theorem dX_horn_8 : decode (hr_cd 62) 8 = .ok (.iload_n 2, 1) := by decide +kernel
theorem dX_horn_9 : decode (hr_cd 62) 9 = .ok (.iconst 1, 1) := by decide +kernel
theorem dX_horn_10 : decode (hr_cd 62) 10 = .ok (.bipush 100, 2) := by decide +kernel
theorem dX_horn_12 : decode (hr_cd 62) 12 = .ok (.invokestatic 54, 3) := by decide +kernel
theorem dX_horn_15 : decode (hr_cd 62) 15 = .ok (.ifCond .ne 9, 3) := by decide +kernel
theorem dX_horn_18 : decode (hr_cd 62) 18 = .ok (.aload_n 0, 1) := by decide +kernel
theorem dX_horn_19 : decode (hr_cd 62) 19 = .ok (.iconst 0, 1) := by decide +kernel
theorem dX_horn_20 : decode (hr_cd 62) 20 = .ok (.invokevirtual 58, 3) := by decide +kernel
theorem dX_horn_23 : decode (hr_cd 62) 23 = .ok (.ireturn, 1) := by decide +kernel
theorem dX_horn_24 : decode (hr_cd 62) 24 = .ok (.bipush 99, 2) := by decide +kernel
theorem dX_horn_26 : decode (hr_cd 62) 26 = .ok (.istore_n 3, 1) := by decide +kernel
theorem dX_horn_27 : decode (hr_cd 62) 27 = .ok (.iload_n 3, 1) := by decide +kernel
theorem dX_horn_28 : decode (hr_cd 62) 28 = .ok (.ifCond .lt 41, 3) := by decide +kernel
theorem dX_horn_31 : decode (hr_cd 62) 31 = .ok (.aload_n 0, 1) := by decide +kernel
theorem dX_horn_32 : decode (hr_cd 62) 32 = .ok (.invokevirtual 157, 3) := by decide +kernel
theorem dX_horn_35 : decode (hr_cd 62) 35 = .ok (.aload_n 0, 1) := by decide +kernel
theorem dX_horn_36 : decode (hr_cd 62) 36 = .ok (.getfield 16, 3) := by decide +kernel
theorem dX_horn_39 : decode (hr_cd 62) 39 = .ok (.getfield 106, 3) := by decide +kernel
theorem dX_horn_42 : decode (hr_cd 62) 42 = .ok (.iload_n 1, 1) := by decide +kernel
theorem dX_horn_43 : decode (hr_cd 62) 43 = .ok (.aaload, 1) := by decide +kernel
theorem dX_horn_44 : decode (hr_cd 62) 44 = .ok (.iload_n 3, 1) := by decide +kernel
theorem dX_horn_45 : decode (hr_cd 62) 45 = .ok (.putfield 116, 3) := by decide +kernel
theorem dX_horn_48 : decode (hr_cd 62) 48 = .ok (.aload_n 0, 1) := by decide +kernel
theorem dX_horn_49 : decode (hr_cd 62) 49 = .ok (.getfield 16, 3) := by decide +kernel
theorem dX_horn_52 : decode (hr_cd 62) 52 = .ok (.iconst 2, 1) := by decide +kernel
theorem dX_horn_53 : decode (hr_cd 62) 53 = .ok (.iload_n 2, 1) := by decide +kernel
theorem dX_horn_54 : decode (hr_cd 62) 54 = .ok (.invokevirtual 160, 3) := by decide +kernel
theorem dX_horn_57 : decode (hr_cd 62) 57 = .ok (.iload_n 2, 1) := by decide +kernel
theorem dX_horn_58 : decode (hr_cd 62) 58 = .ok (.if_icmp .gt 5, 3) := by decide +kernel
theorem dX_horn_61 : decode (hr_cd 62) 61 = .ok (.iload_n 3, 1) := by decide +kernel
theorem dX_horn_62 : decode (hr_cd 62) 62 = .ok (.ireturn, 1) := by decide +kernel
theorem dX_horn_63 : decode (hr_cd 62) 63 = .ok (.iinc 3 (-1), 3) := by decide +kernel
theorem dX_horn_66 : decode (hr_cd 62) 66 = .ok (.goto (-39), 3) := by decide +kernel
theorem dX_horn_69 : decode (hr_cd 62) 69 = .ok (.aload_n 0, 1) := by decide +kernel
theorem dX_horn_70 : decode (hr_cd 62) 70 = .ok (.iconst 3, 1) := by decide +kernel
theorem dX_horn_71 : decode (hr_cd 62) 71 = .ok (.invokevirtual 58, 3) := by decide +kernel
theorem dX_horn_74 : decode (hr_cd 62) 74 = .ok (.ireturn, 1) := by decide +kernel
theorem dX_fewest_0 : decode (hr_cd 63) 0 = .ok (.iload_n 1, 1) := by decide +kernel
theorem dX_fewest_1 : decode (hr_cd 63) 1 = .ok (.iconst 1, 1) := by decide +kernel
theorem dX_fewest_2 : decode (hr_cd 63) 2 = .ok (.bipush 40, 2) := by decide +kernel
theorem dX_fewest_4 : decode (hr_cd 63) 4 = .ok (.invokestatic 54, 3) := by decide +kernel
theorem dX_fewest_7 : decode (hr_cd 63) 7 = .ok (.ifCond .ne 9, 3) := by decide +kernel
theorem dX_fewest_10 : decode (hr_cd 63) 10 = .ok (.aload_n 0, 1) := by decide +kernel
theorem dX_fewest_11 : decode (hr_cd 63) 11 = .ok (.iconst 0, 1) := by decide +kernel
theorem dX_fewest_12 : decode (hr_cd 63) 12 = .ok (.invokevirtual 58, 3) := by decide +kernel
theorem dX_fewest_15 : decode (hr_cd 63) 15 = .ok (.ireturn, 1) := by decide +kernel
theorem dX_fewest_16 : decode (hr_cd 63) 16 = .ok (.ldc 166, 2) := by decide +kernel
theorem dX_fewest_18 : decode (hr_cd 63) 18 = .ok (.istore_n 2, 1) := by decide +kernel
theorem dX_fewest_19 : decode (hr_cd 63) 19 = .ok (.bipush 9, 2) := by decide +kernel
theorem dX_fewest_21 : decode (hr_cd 63) 21 = .ok (.istore_n 3, 1) := by decide +kernel
theorem dX_fewest_22 : decode (hr_cd 63) 22 = .ok (.iconst 0, 1) := by decide +kernel
theorem dX_fewest_23 : decode (hr_cd 63) 23 = .ok (.istore 4, 2) := by decide +kernel
theorem dX_fewest_25 : decode (hr_cd 63) 25 = .ok (.iload 4, 2) := by decide +kernel
theorem dX_fewest_27 : decode (hr_cd 63) 27 = .ok (.iconst 1, 1) := by decide +kernel
theorem dX_fewest_28 : decode (hr_cd 63) 28 = .ok (.aload_n 0, 1) := by decide +kernel
theorem dX_fewest_29 : decode (hr_cd 63) 29 = .ok (.getfield 10, 3) := by decide +kernel
theorem dX_fewest_32 : decode (hr_cd 63) 32 = .ok (.getfield 100, 3) := by decide +kernel
theorem dX_fewest_35 : decode (hr_cd 63) 35 = .ok (.ishl, 1) := by decide +kernel
theorem dX_fewest_36 : decode (hr_cd 63) 36 = .ok (.if_icmp .ge 57, 3) := by decide +kernel
theorem dX_fewest_39 : decode (hr_cd 63) 39 = .ok (.iload 4, 2) := by decide +kernel
theorem dX_fewest_41 : decode (hr_cd 63) 41 = .ok (.invokestatic 180, 3) := by decide +kernel
theorem dX_fewest_44 : decode (hr_cd 63) 44 = .ok (.iload_n 3, 1) := by decide +kernel
theorem dX_fewest_45 : decode (hr_cd 63) 45 = .ok (.if_icmp .lt 6, 3) := by decide +kernel
theorem dX_fewest_48 : decode (hr_cd 63) 48 = .ok (.goto 39, 3) := by decide +kernel
theorem dX_fewest_51 : decode (hr_cd 63) 51 = .ok (.aload_n 0, 1) := by decide +kernel
theorem dX_fewest_52 : decode (hr_cd 63) 52 = .ok (.invokevirtual 157, 3) := by decide +kernel
theorem dX_fewest_55 : decode (hr_cd 63) 55 = .ok (.aload_n 0, 1) := by decide +kernel
theorem dX_fewest_56 : decode (hr_cd 63) 56 = .ok (.getfield 16, 3) := by decide +kernel
theorem dX_fewest_59 : decode (hr_cd 63) 59 = .ok (.iload 4, 2) := by decide +kernel
theorem dX_fewest_61 : decode (hr_cd 63) 61 = .ok (.invokevirtual 185, 3) := by decide +kernel
theorem dX_fewest_64 : decode (hr_cd 63) 64 = .ok (.aload_n 0, 1) := by decide +kernel
theorem dX_fewest_65 : decode (hr_cd 63) 65 = .ok (.getfield 16, 3) := by decide +kernel
theorem dX_fewest_68 : decode (hr_cd 63) 68 = .ok (.iconst 1, 1) := by decide +kernel
theorem dX_fewest_69 : decode (hr_cd 63) 69 = .ok (.iload_n 1, 1) := by decide +kernel
theorem dX_fewest_70 : decode (hr_cd 63) 70 = .ok (.invokevirtual 160, 3) := by decide +kernel
theorem dX_fewest_73 : decode (hr_cd 63) 73 = .ok (.ldc 166, 2) := by decide +kernel
theorem dX_fewest_75 : decode (hr_cd 63) 75 = .ok (.if_icmp .ne 12, 3) := by decide +kernel
theorem dX_fewest_78 : decode (hr_cd 63) 78 = .ok (.iload 4, 2) := by decide +kernel
theorem dX_fewest_80 : decode (hr_cd 63) 80 = .ok (.invokestatic 180, 3) := by decide +kernel
theorem dX_fewest_83 : decode (hr_cd 63) 83 = .ok (.istore_n 3, 1) := by decide +kernel
theorem dX_fewest_84 : decode (hr_cd 63) 84 = .ok (.iload 4, 2) := by decide +kernel
theorem dX_fewest_86 : decode (hr_cd 63) 86 = .ok (.istore_n 2, 1) := by decide +kernel
theorem dX_fewest_87 : decode (hr_cd 63) 87 = .ok (.iinc 4 1, 3) := by decide +kernel
theorem dX_fewest_90 : decode (hr_cd 63) 90 = .ok (.goto (-65), 3) := by decide +kernel
theorem dX_fewest_93 : decode (hr_cd 63) 93 = .ok (.aload_n 0, 1) := by decide +kernel
theorem dX_fewest_94 : decode (hr_cd 63) 94 = .ok (.iload_n 2, 1) := by decide +kernel
theorem dX_fewest_95 : decode (hr_cd 63) 95 = .ok (.invokevirtual 149, 3) := by decide +kernel
theorem dX_fewest_98 : decode (hr_cd 63) 98 = .ok (.ireturn, 1) := by decide +kernel
theorem dX_feed_0 : decode (hr_cd 66) 0 = .ok (.iload_n 2, 1) := by decide +kernel
theorem dX_feed_1 : decode (hr_cd 66) 1 = .ok (.iconst 1, 1) := by decide +kernel
theorem dX_feed_2 : decode (hr_cd 66) 2 = .ok (.iconst 4, 1) := by decide +kernel
theorem dX_feed_3 : decode (hr_cd 66) 3 = .ok (.invokestatic 54, 3) := by decide +kernel
theorem dX_feed_6 : decode (hr_cd 66) 6 = .ok (.ifCond .ne 9, 3) := by decide +kernel
theorem dX_feed_9 : decode (hr_cd 66) 9 = .ok (.aload_n 0, 1) := by decide +kernel
theorem dX_feed_10 : decode (hr_cd 66) 10 = .ok (.iconst 0, 1) := by decide +kernel
theorem dX_feed_11 : decode (hr_cd 66) 11 = .ok (.invokevirtual 58, 3) := by decide +kernel
theorem dX_feed_14 : decode (hr_cd 66) 14 = .ok (.ireturn, 1) := by decide +kernel
theorem dX_feed_15 : decode (hr_cd 66) 15 = .ok (.aload_n 0, 1) := by decide +kernel
theorem dX_feed_16 : decode (hr_cd 66) 16 = .ok (.getfield 36, 3) := by decide +kernel
theorem dX_feed_19 : decode (hr_cd 66) 19 = .ok (.getfield 188, 3) := by decide +kernel
theorem dX_feed_22 : decode (hr_cd 66) 22 = .ok (.iload_n 2, 1) := by decide +kernel
theorem dX_feed_23 : decode (hr_cd 66) 23 = .ok (.iadd, 1) := by decide +kernel
theorem dX_feed_24 : decode (hr_cd 66) 24 = .ok (.bipush 120, 2) := by decide +kernel
theorem dX_feed_26 : decode (hr_cd 66) 26 = .ok (.if_icmp .le 9, 3) := by decide +kernel
theorem dX_feed_29 : decode (hr_cd 66) 29 = .ok (.aload_n 0, 1) := by decide +kernel
theorem dX_feed_30 : decode (hr_cd 66) 30 = .ok (.iconst 1, 1) := by decide +kernel
theorem dX_feed_31 : decode (hr_cd 66) 31 = .ok (.invokevirtual 58, 3) := by decide +kernel
theorem dX_feed_34 : decode (hr_cd 66) 34 = .ok (.ireturn, 1) := by decide +kernel
theorem dX_feed_35 : decode (hr_cd 66) 35 = .ok (.aload_n 0, 1) := by decide +kernel
theorem dX_feed_36 : decode (hr_cd 66) 36 = .ok (.getfield 36, 3) := by decide +kernel
theorem dX_feed_39 : decode (hr_cd 66) 39 = .ok (.iload_n 1, 1) := by decide +kernel
theorem dX_feed_40 : decode (hr_cd 66) 40 = .ok (.iload_n 2, 1) := by decide +kernel
theorem dX_feed_41 : decode (hr_cd 66) 41 = .ok (.invokevirtual 191, 3) := by decide +kernel
theorem dX_feed_44 : decode (hr_cd 66) 44 = .ok (.aload_n 0, 1) := by decide +kernel
theorem dX_feed_45 : decode (hr_cd 66) 45 = .ok (.getfield 36, 3) := by decide +kernel
theorem dX_feed_48 : decode (hr_cd 66) 48 = .ok (.getfield 188, 3) := by decide +kernel
theorem dX_feed_51 : decode (hr_cd 66) 51 = .ok (.ireturn, 1) := by decide +kernel
theorem dX_wipe_0 : decode (hr_cd 68) 0 = .ok (.aload_n 0, 1) := by decide +kernel
theorem dX_wipe_1 : decode (hr_cd 68) 1 = .ok (.getfield 36, 3) := by decide +kernel
theorem dX_wipe_4 : decode (hr_cd 68) 4 = .ok (.getfield 188, 3) := by decide +kernel
theorem dX_wipe_7 : decode (hr_cd 68) 7 = .ok (.istore_n 1, 1) := by decide +kernel
theorem dX_wipe_8 : decode (hr_cd 68) 8 = .ok (.aload_n 0, 1) := by decide +kernel
theorem dX_wipe_9 : decode (hr_cd 68) 9 = .ok (.getfield 36, 3) := by decide +kernel
theorem dX_wipe_12 : decode (hr_cd 68) 12 = .ok (.iconst 0, 1) := by decide +kernel
theorem dX_wipe_13 : decode (hr_cd 68) 13 = .ok (.putfield 188, 3) := by decide +kernel
theorem dX_wipe_16 : decode (hr_cd 68) 16 = .ok (.iload_n 1, 1) := by decide +kernel
theorem dX_wipe_17 : decode (hr_cd 68) 17 = .ok (.ireturn, 1) := by decide +kernel
theorem dX_chart_0 : decode (hr_cd 69) 0 = .ok (.aload_n 0, 1) := by decide +kernel
theorem dX_chart_1 : decode (hr_cd 69) 1 = .ok (.invokevirtual 157, 3) := by decide +kernel
theorem dX_chart_4 : decode (hr_cd 69) 4 = .ok (.aload_n 0, 1) := by decide +kernel
theorem dX_chart_5 : decode (hr_cd 69) 5 = .ok (.getfield 36, 3) := by decide +kernel
theorem dX_chart_8 : decode (hr_cd 69) 8 = .ok (.aload_n 0, 1) := by decide +kernel
theorem dX_chart_9 : decode (hr_cd 69) 9 = .ok (.getfield 16, 3) := by decide +kernel
theorem dX_chart_12 : decode (hr_cd 69) 12 = .ok (.invokevirtual 194, 3) := by decide +kernel
theorem dX_chart_15 : decode (hr_cd 69) 15 = .ok (.istore_n 1, 1) := by decide +kernel
theorem dX_chart_16 : decode (hr_cd 69) 16 = .ok (.iload_n 1, 1) := by decide +kernel
theorem dX_chart_17 : decode (hr_cd 69) 17 = .ok (.ifCond .lt 14, 3) := by decide +kernel
theorem dX_chart_20 : decode (hr_cd 69) 20 = .ok (.aload_n 0, 1) := by decide +kernel
theorem dX_chart_21 : decode (hr_cd 69) 21 = .ok (.getfield 10, 3) := by decide +kernel
theorem dX_chart_24 : decode (hr_cd 69) 24 = .ok (.aload_n 0, 1) := by decide +kernel
theorem dX_chart_25 : decode (hr_cd 69) 25 = .ok (.getfield 16, 3) := by decide +kernel
theorem dX_chart_28 : decode (hr_cd 69) 28 = .ok (.invokevirtual 198, 3) := by decide +kernel
theorem dX_chart_31 : decode (hr_cd 69) 31 = .ok (.aload_n 0, 1) := by decide +kernel
theorem dX_chart_32 : decode (hr_cd 69) 32 = .ok (.getfield 36, 3) := by decide +kernel
theorem dX_chart_35 : decode (hr_cd 69) 35 = .ok (.iconst 0, 1) := by decide +kernel
theorem dX_chart_36 : decode (hr_cd 69) 36 = .ok (.putfield 188, 3) := by decide +kernel
theorem dX_chart_39 : decode (hr_cd 69) 39 = .ok (.iload_n 1, 1) := by decide +kernel
theorem dX_chart_40 : decode (hr_cd 69) 40 = .ok (.ireturn, 1) := by decide +kernel
theorem dX_sheet_0 : decode (hr_cd 94) 0 = .ok (.iload_n 1, 1) := by decide +kernel
theorem dX_sheet_1 : decode (hr_cd 94) 1 = .ok (.invokestatic 202, 3) := by decide +kernel
theorem dX_sheet_4 : decode (hr_cd 94) 4 = .ok (.ifCond .eq 25, 3) := by decide +kernel
theorem dX_sheet_7 : decode (hr_cd 94) 7 = .ok (.iload_n 2, 1) := by decide +kernel
theorem dX_sheet_8 : decode (hr_cd 94) 8 = .ok (.ifCond .eq 27, 3) := by decide +kernel
theorem dX_sheet_11 : decode (hr_cd 94) 11 = .ok (.iload_n 2, 1) := by decide +kernel
theorem dX_sheet_12 : decode (hr_cd 94) 12 = .ok (.bipush 8, 2) := by decide +kernel
theorem dX_sheet_14 : decode (hr_cd 94) 14 = .ok (.if_icmp .eq 21, 3) := by decide +kernel
theorem dX_sheet_17 : decode (hr_cd 94) 17 = .ok (.iload_n 2, 1) := by decide +kernel
theorem dX_sheet_18 : decode (hr_cd 94) 18 = .ok (.bipush 16, 2) := by decide +kernel
theorem dX_sheet_20 : decode (hr_cd 94) 20 = .ok (.if_icmp .eq 15, 3) := by decide +kernel
theorem dX_sheet_23 : decode (hr_cd 94) 23 = .ok (.iload_n 2, 1) := by decide +kernel
theorem dX_sheet_24 : decode (hr_cd 94) 24 = .ok (.bipush 64, 2) := by decide +kernel
theorem dX_sheet_26 : decode (hr_cd 94) 26 = .ok (.if_icmp .eq 9, 3) := by decide +kernel
theorem dX_sheet_29 : decode (hr_cd 94) 29 = .ok (.aload_n 0, 1) := by decide +kernel
theorem dX_sheet_30 : decode (hr_cd 94) 30 = .ok (.iconst 0, 1) := by decide +kernel
theorem dX_sheet_31 : decode (hr_cd 94) 31 = .ok (.invokevirtual 58, 3) := by decide +kernel
theorem dX_sheet_34 : decode (hr_cd 94) 34 = .ok (.ireturn, 1) := by decide +kernel
theorem dX_sheet_35 : decode (hr_cd 94) 35 = .ok (.iload_n 3, 1) := by decide +kernel
theorem dX_sheet_36 : decode (hr_cd 94) 36 = .ok (.ifCond .ge 10, 3) := by decide +kernel
theorem dX_sheet_39 : decode (hr_cd 94) 39 = .ok (.aload_n 0, 1) := by decide +kernel
theorem dX_sheet_40 : decode (hr_cd 94) 40 = .ok (.bipush 6, 2) := by decide +kernel
theorem dX_sheet_42 : decode (hr_cd 94) 42 = .ok (.invokevirtual 58, 3) := by decide +kernel
theorem dX_sheet_45 : decode (hr_cd 94) 45 = .ok (.ireturn, 1) := by decide +kernel
theorem dX_sheet_46 : decode (hr_cd 94) 46 = .ok (.iload_n 3, 1) := by decide +kernel
theorem dX_sheet_47 : decode (hr_cd 94) 47 = .ok (.bipush 40, 2) := by decide +kernel
theorem dX_sheet_49 : decode (hr_cd 94) 49 = .ok (.if_icmp .le 9, 3) := by decide +kernel
theorem dX_sheet_52 : decode (hr_cd 94) 52 = .ok (.aload_n 0, 1) := by decide +kernel
theorem dX_sheet_53 : decode (hr_cd 94) 53 = .ok (.iconst 0, 1) := by decide +kernel
theorem dX_sheet_54 : decode (hr_cd 94) 54 = .ok (.invokevirtual 58, 3) := by decide +kernel
theorem dX_sheet_57 : decode (hr_cd 94) 57 = .ok (.ireturn, 1) := by decide +kernel
theorem dX_sheet_58 : decode (hr_cd 94) 58 = .ok (.aload_n 0, 1) := by decide +kernel
theorem dX_sheet_59 : decode (hr_cd 94) 59 = .ok (.getfield 42, 3) := by decide +kernel
theorem dX_sheet_62 : decode (hr_cd 94) 62 = .ok (.iload_n 1, 1) := by decide +kernel
theorem dX_sheet_63 : decode (hr_cd 94) 63 = .ok (.aaload, 1) := by decide +kernel
theorem dX_sheet_64 : decode (hr_cd 94) 64 = .ok (.iload_n 2, 1) := by decide +kernel
theorem dX_sheet_65 : decode (hr_cd 94) 65 = .ok (.iload_n 3, 1) := by decide +kernel
theorem dX_sheet_66 : decode (hr_cd 94) 66 = .ok (.invokevirtual 205, 3) := by decide +kernel
theorem dX_sheet_69 : decode (hr_cd 94) 69 = .ok (.aload_n 0, 1) := by decide +kernel
theorem dX_sheet_70 : decode (hr_cd 94) 70 = .ok (.getfield 42, 3) := by decide +kernel
theorem dX_sheet_73 : decode (hr_cd 94) 73 = .ok (.iload_n 1, 1) := by decide +kernel
theorem dX_sheet_74 : decode (hr_cd 94) 74 = .ok (.aaload, 1) := by decide +kernel
theorem dX_sheet_75 : decode (hr_cd 94) 75 = .ok (.getfield 208, 3) := by decide +kernel
theorem dX_sheet_78 : decode (hr_cd 94) 78 = .ok (.ireturn, 1) := by decide +kernel
theorem dX_isSheet_0 : decode (hr_cd 95) 0 = .ok (.iload_n 0, 1) := by decide +kernel
theorem dX_isSheet_1 : decode (hr_cd 95) 1 = .ok (.ifCond .lt 12, 3) := by decide +kernel
theorem dX_isSheet_4 : decode (hr_cd 95) 4 = .ok (.iload_n 0, 1) := by decide +kernel
theorem dX_isSheet_5 : decode (hr_cd 95) 5 = .ok (.iconst 4, 1) := by decide +kernel
theorem dX_isSheet_6 : decode (hr_cd 95) 6 = .ok (.if_icmp .ge 7, 3) := by decide +kernel
theorem dX_isSheet_9 : decode (hr_cd 95) 9 = .ok (.iconst 1, 1) := by decide +kernel
theorem dX_isSheet_10 : decode (hr_cd 95) 10 = .ok (.goto 4, 3) := by decide +kernel
theorem dX_isSheet_13 : decode (hr_cd 95) 13 = .ok (.iconst 0, 1) := by decide +kernel
theorem dX_isSheet_14 : decode (hr_cd 95) 14 = .ok (.ireturn, 1) := by decide +kernel
theorem dX_write_0 : decode (hr_cd 98) 0 = .ok (.aload_n 0, 1) := by decide +kernel
theorem dX_write_1 : decode (hr_cd 98) 1 = .ok (.iload_n 1, 1) := by decide +kernel
theorem dX_write_2 : decode (hr_cd 98) 2 = .ok (.invokevirtual 209, 3) := by decide +kernel
theorem dX_write_5 : decode (hr_cd 98) 5 = .ok (.istore 5, 2) := by decide +kernel
theorem dX_write_7 : decode (hr_cd 98) 7 = .ok (.iload 5, 2) := by decide +kernel
theorem dX_write_9 : decode (hr_cd 98) 9 = .ok (.ifCond .eq 7, 3) := by decide +kernel
theorem dX_write_12 : decode (hr_cd 98) 12 = .ok (.iload 5, 2) := by decide +kernel
theorem dX_write_14 : decode (hr_cd 98) 14 = .ok (.i2l, 1) := by decide +kernel
theorem dX_write_15 : decode (hr_cd 98) 15 = .ok (.lreturn, 1) := by decide +kernel
theorem dX_write_16 : decode (hr_cd 98) 16 = .ok (.aload_n 0, 1) := by decide +kernel
theorem dX_write_17 : decode (hr_cd 98) 17 = .ok (.getfield 42, 3) := by decide +kernel
theorem dX_write_20 : decode (hr_cd 98) 20 = .ok (.iload_n 1, 1) := by decide +kernel
theorem dX_write_21 : decode (hr_cd 98) 21 = .ok (.aaload, 1) := by decide +kernel
theorem dX_write_22 : decode (hr_cd 98) 22 = .ok (.astore 6, 2) := by decide +kernel
theorem dX_write_24 : decode (hr_cd 98) 24 = .ok (.iload_n 2, 1) := by decide +kernel
theorem dX_write_25 : decode (hr_cd 98) 25 = .ok (.ifCond .lt 12, 3) := by decide +kernel
theorem dX_write_28 : decode (hr_cd 98) 28 = .ok (.iload_n 2, 1) := by decide +kernel
theorem dX_write_29 : decode (hr_cd 98) 29 = .ok (.aload 6, 2) := by decide +kernel
theorem dX_write_31 : decode (hr_cd 98) 31 = .ok (.getfield 208, 3) := by decide +kernel
theorem dX_write_34 : decode (hr_cd 98) 34 = .ok (.if_icmp .lt 10, 3) := by decide +kernel
theorem dX_write_37 : decode (hr_cd 98) 37 = .ok (.aload_n 0, 1) := by decide +kernel
theorem dX_write_38 : decode (hr_cd 98) 38 = .ok (.iconst 0, 1) := by decide +kernel
theorem dX_write_39 : decode (hr_cd 98) 39 = .ok (.invokevirtual 58, 3) := by decide +kernel
theorem dX_write_42 : decode (hr_cd 98) 42 = .ok (.i2l, 1) := by decide +kernel
theorem dX_write_43 : decode (hr_cd 98) 43 = .ok (.lreturn, 1) := by decide +kernel
theorem dX_write_44 : decode (hr_cd 98) 44 = .ok (.aload 6, 2) := by decide +kernel
theorem dX_write_46 : decode (hr_cd 98) 46 = .ok (.getfield 212, 3) := by decide +kernel
theorem dX_write_49 : decode (hr_cd 98) 49 = .ok (.iload_n 2, 1) := by decide +kernel
theorem dX_write_50 : decode (hr_cd 98) 50 = .ok (.laload, 1) := by decide +kernel
theorem dX_write_51 : decode (hr_cd 98) 51 = .ok (.lstore 7, 2) := by decide +kernel
theorem dX_write_53 : decode (hr_cd 98) 53 = .ok (.aload 6, 2) := by decide +kernel
theorem dX_write_55 : decode (hr_cd 98) 55 = .ok (.iload_n 2, 1) := by decide +kernel
theorem dX_write_56 : decode (hr_cd 98) 56 = .ok (.lload_n 3, 1) := by decide +kernel
theorem dX_write_57 : decode (hr_cd 98) 57 = .ok (.invokevirtual 216, 3) := by decide +kernel
theorem dX_write_60 : decode (hr_cd 98) 60 = .ok (.lload 7, 2) := by decide +kernel
theorem dX_write_62 : decode (hr_cd 98) 62 = .ok (.lreturn, 1) := by decide +kernel
theorem dX_faultOfSheet_0 : decode (hr_cd 99) 0 = .ok (.iload_n 1, 1) := by decide +kernel
theorem dX_faultOfSheet_1 : decode (hr_cd 99) 1 = .ok (.invokestatic 202, 3) := by decide +kernel
theorem dX_faultOfSheet_4 : decode (hr_cd 99) 4 = .ok (.ifCond .ne 9, 3) := by decide +kernel
theorem dX_faultOfSheet_7 : decode (hr_cd 99) 7 = .ok (.aload_n 0, 1) := by decide +kernel
theorem dX_faultOfSheet_8 : decode (hr_cd 99) 8 = .ok (.iconst 0, 1) := by decide +kernel
theorem dX_faultOfSheet_9 : decode (hr_cd 99) 9 = .ok (.invokevirtual 58, 3) := by decide +kernel
theorem dX_faultOfSheet_12 : decode (hr_cd 99) 12 = .ok (.ireturn, 1) := by decide +kernel
theorem dX_faultOfSheet_13 : decode (hr_cd 99) 13 = .ok (.aload_n 0, 1) := by decide +kernel
theorem dX_faultOfSheet_14 : decode (hr_cd 99) 14 = .ok (.getfield 42, 3) := by decide +kernel
theorem dX_faultOfSheet_17 : decode (hr_cd 99) 17 = .ok (.iload_n 1, 1) := by decide +kernel
theorem dX_faultOfSheet_18 : decode (hr_cd 99) 18 = .ok (.aaload, 1) := by decide +kernel
theorem dX_faultOfSheet_19 : decode (hr_cd 99) 19 = .ok (.invokevirtual 220, 3) := by decide +kernel
theorem dX_faultOfSheet_22 : decode (hr_cd 99) 22 = .ok (.ifCond .eq 11, 3) := by decide +kernel
theorem dX_faultOfSheet_25 : decode (hr_cd 99) 25 = .ok (.aload_n 0, 1) := by decide +kernel
theorem dX_faultOfSheet_26 : decode (hr_cd 99) 26 = .ok (.iconst 5, 1) := by decide +kernel
theorem dX_faultOfSheet_27 : decode (hr_cd 99) 27 = .ok (.invokevirtual 58, 3) := by decide +kernel
theorem dX_faultOfSheet_30 : decode (hr_cd 99) 30 = .ok (.goto 4, 3) := by decide +kernel
theorem dX_faultOfSheet_33 : decode (hr_cd 99) 33 = .ok (.iconst 0, 1) := by decide +kernel
theorem dX_faultOfSheet_34 : decode (hr_cd 99) 34 = .ok (.ireturn, 1) := by decide +kernel
theorem dX_copy_0 : decode (hr_cd 102) 0 = .ok (.iload_n 1, 1) := by decide +kernel
theorem dX_copy_1 : decode (hr_cd 102) 1 = .ok (.invokestatic 202, 3) := by decide +kernel
theorem dX_copy_4 : decode (hr_cd 102) 4 = .ok (.ifCond .eq 10, 3) := by decide +kernel
theorem dX_copy_7 : decode (hr_cd 102) 7 = .ok (.iload_n 3, 1) := by decide +kernel
theorem dX_copy_8 : decode (hr_cd 102) 8 = .ok (.invokestatic 202, 3) := by decide +kernel
theorem dX_copy_11 : decode (hr_cd 102) 11 = .ok (.ifCond .ne 9, 3) := by decide +kernel
theorem dX_copy_14 : decode (hr_cd 102) 14 = .ok (.aload_n 0, 1) := by decide +kernel
theorem dX_copy_15 : decode (hr_cd 102) 15 = .ok (.iconst 0, 1) := by decide +kernel
theorem dX_copy_16 : decode (hr_cd 102) 16 = .ok (.invokevirtual 58, 3) := by decide +kernel
theorem dX_copy_19 : decode (hr_cd 102) 19 = .ok (.ireturn, 1) := by decide +kernel
theorem dX_copy_20 : decode (hr_cd 102) 20 = .ok (.aload_n 0, 1) := by decide +kernel
theorem dX_copy_21 : decode (hr_cd 102) 21 = .ok (.getfield 42, 3) := by decide +kernel
theorem dX_copy_24 : decode (hr_cd 102) 24 = .ok (.iload_n 1, 1) := by decide +kernel
theorem dX_copy_25 : decode (hr_cd 102) 25 = .ok (.aaload, 1) := by decide +kernel
theorem dX_copy_26 : decode (hr_cd 102) 26 = .ok (.astore 6, 2) := by decide +kernel
theorem dX_copy_28 : decode (hr_cd 102) 28 = .ok (.aload_n 0, 1) := by decide +kernel
theorem dX_copy_29 : decode (hr_cd 102) 29 = .ok (.getfield 42, 3) := by decide +kernel
theorem dX_copy_32 : decode (hr_cd 102) 32 = .ok (.iload_n 3, 1) := by decide +kernel
theorem dX_copy_33 : decode (hr_cd 102) 33 = .ok (.aaload, 1) := by decide +kernel
theorem dX_copy_34 : decode (hr_cd 102) 34 = .ok (.astore 7, 2) := by decide +kernel
theorem dX_copy_36 : decode (hr_cd 102) 36 = .ok (.aload 6, 2) := by decide +kernel
theorem dX_copy_38 : decode (hr_cd 102) 38 = .ok (.invokevirtual 220, 3) := by decide +kernel
theorem dX_copy_41 : decode (hr_cd 102) 41 = .ok (.ifCond .ne 11, 3) := by decide +kernel
theorem dX_copy_44 : decode (hr_cd 102) 44 = .ok (.aload 7, 2) := by decide +kernel
theorem dX_copy_46 : decode (hr_cd 102) 46 = .ok (.invokevirtual 220, 3) := by decide +kernel
theorem dX_copy_49 : decode (hr_cd 102) 49 = .ok (.ifCond .eq 9, 3) := by decide +kernel
theorem dX_copy_52 : decode (hr_cd 102) 52 = .ok (.aload_n 0, 1) := by decide +kernel
theorem dX_copy_53 : decode (hr_cd 102) 53 = .ok (.iconst 5, 1) := by decide +kernel
theorem dX_copy_54 : decode (hr_cd 102) 54 = .ok (.invokevirtual 58, 3) := by decide +kernel
theorem dX_copy_57 : decode (hr_cd 102) 57 = .ok (.ireturn, 1) := by decide +kernel
theorem dX_copy_58 : decode (hr_cd 102) 58 = .ok (.aload 6, 2) := by decide +kernel
theorem dX_copy_60 : decode (hr_cd 102) 60 = .ok (.getfield 224, 3) := by decide +kernel
theorem dX_copy_63 : decode (hr_cd 102) 63 = .ok (.aload 7, 2) := by decide +kernel
theorem dX_copy_65 : decode (hr_cd 102) 65 = .ok (.getfield 224, 3) := by decide +kernel
theorem dX_copy_68 : decode (hr_cd 102) 68 = .ok (.if_icmp .eq 9, 3) := by decide +kernel
theorem dX_copy_71 : decode (hr_cd 102) 71 = .ok (.aload_n 0, 1) := by decide +kernel
theorem dX_copy_72 : decode (hr_cd 102) 72 = .ok (.iconst 2, 1) := by decide +kernel
theorem dX_copy_73 : decode (hr_cd 102) 73 = .ok (.invokevirtual 58, 3) := by decide +kernel
theorem dX_copy_76 : decode (hr_cd 102) 76 = .ok (.ireturn, 1) := by decide +kernel
theorem dX_copy_77 : decode (hr_cd 102) 77 = .ok (.aload 6, 2) := by decide +kernel
theorem dX_copy_79 : decode (hr_cd 102) 79 = .ok (.iload_n 2, 1) := by decide +kernel
theorem dX_copy_80 : decode (hr_cd 102) 80 = .ok (.iload 5, 2) := by decide +kernel
theorem dX_copy_82 : decode (hr_cd 102) 82 = .ok (.invokevirtual 227, 3) := by decide +kernel
theorem dX_copy_85 : decode (hr_cd 102) 85 = .ok (.ifCond .eq 15, 3) := by decide +kernel
theorem dX_copy_88 : decode (hr_cd 102) 88 = .ok (.aload 7, 2) := by decide +kernel
theorem dX_copy_90 : decode (hr_cd 102) 90 = .ok (.iload 4, 2) := by decide +kernel
theorem dX_copy_92 : decode (hr_cd 102) 92 = .ok (.iload 5, 2) := by decide +kernel
theorem dX_copy_94 : decode (hr_cd 102) 94 = .ok (.invokevirtual 227, 3) := by decide +kernel
theorem dX_copy_97 : decode (hr_cd 102) 97 = .ok (.ifCond .ne 9, 3) := by decide +kernel
theorem dX_copy_100 : decode (hr_cd 102) 100 = .ok (.aload_n 0, 1) := by decide +kernel
theorem dX_copy_101 : decode (hr_cd 102) 101 = .ok (.iconst 0, 1) := by decide +kernel
theorem dX_copy_102 : decode (hr_cd 102) 102 = .ok (.invokevirtual 58, 3) := by decide +kernel
theorem dX_copy_105 : decode (hr_cd 102) 105 = .ok (.ireturn, 1) := by decide +kernel
theorem dX_copy_106 : decode (hr_cd 102) 106 = .ok (.aload 6, 2) := by decide +kernel
theorem dX_copy_108 : decode (hr_cd 102) 108 = .ok (.getfield 212, 3) := by decide +kernel
theorem dX_copy_111 : decode (hr_cd 102) 111 = .ok (.iload_n 2, 1) := by decide +kernel
theorem dX_copy_112 : decode (hr_cd 102) 112 = .ok (.aload 7, 2) := by decide +kernel
theorem dX_copy_114 : decode (hr_cd 102) 114 = .ok (.getfield 212, 3) := by decide +kernel
theorem dX_copy_117 : decode (hr_cd 102) 117 = .ok (.iload 4, 2) := by decide +kernel
theorem dX_copy_119 : decode (hr_cd 102) 119 = .ok (.iload 5, 2) := by decide +kernel
theorem dX_copy_121 : decode (hr_cd 102) 121 = .ok (.invokestatic 231, 3) := by decide +kernel
theorem dX_copy_124 : decode (hr_cd 102) 124 = .ok (.iload 5, 2) := by decide +kernel
theorem dX_copy_126 : decode (hr_cd 102) 126 = .ok (.ireturn, 1) := by decide +kernel
theorem dX_lays_0 : decode (hr_cd 104) 0 = .ok (.aload_n 0, 1) := by decide +kernel
theorem dX_lays_1 : decode (hr_cd 104) 1 = .ok (.iload_n 1, 1) := by decide +kernel
theorem dX_lays_2 : decode (hr_cd 104) 2 = .ok (.invokevirtual 209, 3) := by decide +kernel
theorem dX_lays_5 : decode (hr_cd 104) 5 = .ok (.istore_n 2, 1) := by decide +kernel
theorem dX_lays_6 : decode (hr_cd 104) 6 = .ok (.iload_n 2, 1) := by decide +kernel
theorem dX_lays_7 : decode (hr_cd 104) 7 = .ok (.ifCond .eq 5, 3) := by decide +kernel
theorem dX_lays_10 : decode (hr_cd 104) 10 = .ok (.iload_n 2, 1) := by decide +kernel
theorem dX_lays_11 : decode (hr_cd 104) 11 = .ok (.ireturn, 1) := by decide +kernel
theorem dX_lays_12 : decode (hr_cd 104) 12 = .ok (.aload_n 0, 1) := by decide +kernel
theorem dX_lays_13 : decode (hr_cd 104) 13 = .ok (.getfield 42, 3) := by decide +kernel
theorem dX_lays_16 : decode (hr_cd 104) 16 = .ok (.iload_n 1, 1) := by decide +kernel
theorem dX_lays_17 : decode (hr_cd 104) 17 = .ok (.aaload, 1) := by decide +kernel
theorem dX_lays_18 : decode (hr_cd 104) 18 = .ok (.astore_n 3, 1) := by decide +kernel
theorem dX_lays_19 : decode (hr_cd 104) 19 = .ok (.iconst 0, 1) := by decide +kernel
theorem dX_lays_20 : decode (hr_cd 104) 20 = .ok (.istore 4, 2) := by decide +kernel
theorem dX_lays_22 : decode (hr_cd 104) 22 = .ok (.iconst 0, 1) := by decide +kernel
theorem dX_lays_23 : decode (hr_cd 104) 23 = .ok (.istore 5, 2) := by decide +kernel
theorem dX_lays_25 : decode (hr_cd 104) 25 = .ok (.iload 5, 2) := by decide +kernel
theorem dX_lays_27 : decode (hr_cd 104) 27 = .ok (.aload_n 3, 1) := by decide +kernel
theorem dX_lays_28 : decode (hr_cd 104) 28 = .ok (.getfield 208, 3) := by decide +kernel
theorem dX_lays_31 : decode (hr_cd 104) 31 = .ok (.if_icmp .ge 65, 3) := by decide +kernel
theorem dX_lays_34 : decode (hr_cd 104) 34 = .ok (.iload 5, 2) := by decide +kernel
theorem dX_lays_36 : decode (hr_cd 104) 36 = .ok (.aload_n 0, 1) := by decide +kernel
theorem dX_lays_37 : decode (hr_cd 104) 37 = .ok (.getfield 10, 3) := by decide +kernel
theorem dX_lays_40 : decode (hr_cd 104) 40 = .ok (.getfield 100, 3) := by decide +kernel
theorem dX_lays_43 : decode (hr_cd 104) 43 = .ok (.if_icmp .ge 53, 3) := by decide +kernel
theorem dX_lays_46 : decode (hr_cd 104) 46 = .ok (.aload_n 3, 1) := by decide +kernel
theorem dX_lays_47 : decode (hr_cd 104) 47 = .ok (.getfield 212, 3) := by decide +kernel
theorem dX_lays_50 : decode (hr_cd 104) 50 = .ok (.iload 5, 2) := by decide +kernel
theorem dX_lays_52 : decode (hr_cd 104) 52 = .ok (.laload, 1) := by decide +kernel
theorem dX_lays_53 : decode (hr_cd 104) 53 = .ok (.lstore 6, 2) := by decide +kernel
theorem dX_lays_55 : decode (hr_cd 104) 55 = .ok (.lload 6, 2) := by decide +kernel
theorem dX_lays_57 : decode (hr_cd 104) 57 = .ok (.lconst 0, 1) := by decide +kernel
theorem dX_lays_58 : decode (hr_cd 104) 58 = .ok (.lcmp, 1) := by decide +kernel
theorem dX_lays_59 : decode (hr_cd 104) 59 = .ok (.ifCond .lt 31, 3) := by decide +kernel
theorem dX_lays_62 : decode (hr_cd 104) 62 = .ok (.lload 6, 2) := by decide +kernel
theorem dX_lays_64 : decode (hr_cd 104) 64 = .ok (.ldc2_w 237, 3) := by decide +kernel
theorem dX_lays_67 : decode (hr_cd 104) 67 = .ok (.lcmp, 1) := by decide +kernel
theorem dX_lays_68 : decode (hr_cd 104) 68 = .ok (.ifCond .gt 22, 3) := by decide +kernel
theorem dX_lays_71 : decode (hr_cd 104) 71 = .ok (.aload_n 0, 1) := by decide +kernel
theorem dX_lays_72 : decode (hr_cd 104) 72 = .ok (.getfield 10, 3) := by decide +kernel
theorem dX_lays_75 : decode (hr_cd 104) 75 = .ok (.getfield 106, 3) := by decide +kernel
theorem dX_lays_78 : decode (hr_cd 104) 78 = .ok (.iload 5, 2) := by decide +kernel
theorem dX_lays_80 : decode (hr_cd 104) 80 = .ok (.aaload, 1) := by decide +kernel
theorem dX_lays_81 : decode (hr_cd 104) 81 = .ok (.lload 6, 2) := by decide +kernel
theorem dX_lays_83 : decode (hr_cd 104) 83 = .ok (.l2i, 1) := by decide +kernel
theorem dX_lays_84 : decode (hr_cd 104) 84 = .ok (.putfield 116, 3) := by decide +kernel
theorem dX_lays_87 : decode (hr_cd 104) 87 = .ok (.iinc 4 1, 3) := by decide +kernel
theorem dX_lays_90 : decode (hr_cd 104) 90 = .ok (.iinc 5 1, 3) := by decide +kernel
theorem dX_lays_93 : decode (hr_cd 104) 93 = .ok (.goto (-68), 3) := by decide +kernel
theorem dX_lays_96 : decode (hr_cd 104) 96 = .ok (.iload 4, 2) := by decide +kernel
theorem dX_lays_98 : decode (hr_cd 104) 98 = .ok (.ireturn, 1) := by decide +kernel
theorem dX_book_0 : decode (hr_cd 105) 0 = .ok (.aload_n 0, 1) := by decide +kernel
theorem dX_book_1 : decode (hr_cd 105) 1 = .ok (.iload_n 1, 1) := by decide +kernel
theorem dX_book_2 : decode (hr_cd 105) 2 = .ok (.invokevirtual 209, 3) := by decide +kernel
theorem dX_book_5 : decode (hr_cd 105) 5 = .ok (.istore_n 2, 1) := by decide +kernel
theorem dX_book_6 : decode (hr_cd 105) 6 = .ok (.iload_n 2, 1) := by decide +kernel
theorem dX_book_7 : decode (hr_cd 105) 7 = .ok (.ifCond .eq 5, 3) := by decide +kernel
theorem dX_book_10 : decode (hr_cd 105) 10 = .ok (.iload_n 2, 1) := by decide +kernel
theorem dX_book_11 : decode (hr_cd 105) 11 = .ok (.ireturn, 1) := by decide +kernel
theorem dX_book_12 : decode (hr_cd 105) 12 = .ok (.aload_n 0, 1) := by decide +kernel
theorem dX_book_13 : decode (hr_cd 105) 13 = .ok (.getfield 42, 3) := by decide +kernel
theorem dX_book_16 : decode (hr_cd 105) 16 = .ok (.iload_n 1, 1) := by decide +kernel
theorem dX_book_17 : decode (hr_cd 105) 17 = .ok (.aaload, 1) := by decide +kernel
theorem dX_book_18 : decode (hr_cd 105) 18 = .ok (.astore_n 3, 1) := by decide +kernel
theorem dX_book_19 : decode (hr_cd 105) 19 = .ok (.aload_n 0, 1) := by decide +kernel
theorem dX_book_20 : decode (hr_cd 105) 20 = .ok (.invokevirtual 157, 3) := by decide +kernel
theorem dX_book_23 : decode (hr_cd 105) 23 = .ok (.iconst 0, 1) := by decide +kernel
theorem dX_book_24 : decode (hr_cd 105) 24 = .ok (.istore 4, 2) := by decide +kernel
theorem dX_book_26 : decode (hr_cd 105) 26 = .ok (.iload 4, 2) := by decide +kernel
theorem dX_book_28 : decode (hr_cd 105) 28 = .ok (.aload_n 3, 1) := by decide +kernel
theorem dX_book_29 : decode (hr_cd 105) 29 = .ok (.getfield 208, 3) := by decide +kernel
theorem dX_book_32 : decode (hr_cd 105) 32 = .ok (.if_icmp .ge 30, 3) := by decide +kernel
theorem dX_book_35 : decode (hr_cd 105) 35 = .ok (.aload_n 3, 1) := by decide +kernel
theorem dX_book_36 : decode (hr_cd 105) 36 = .ok (.iload 4, 2) := by decide +kernel
theorem dX_book_38 : decode (hr_cd 105) 38 = .ok (.aload_n 0, 1) := by decide +kernel
theorem dX_book_39 : decode (hr_cd 105) 39 = .ok (.getfield 16, 3) := by decide +kernel
theorem dX_book_42 : decode (hr_cd 105) 42 = .ok (.getfield 70, 3) := by decide +kernel
theorem dX_book_45 : decode (hr_cd 105) 45 = .ok (.i2l, 1) := by decide +kernel
theorem dX_book_46 : decode (hr_cd 105) 46 = .ok (.invokevirtual 216, 3) := by decide +kernel
theorem dX_book_49 : decode (hr_cd 105) 49 = .ok (.aload_n 0, 1) := by decide +kernel
theorem dX_book_50 : decode (hr_cd 105) 50 = .ok (.getfield 16, 3) := by decide +kernel
theorem dX_book_53 : decode (hr_cd 105) 53 = .ok (.invokevirtual 239, 3) := by decide +kernel
theorem dX_book_56 : decode (hr_cd 105) 56 = .ok (.iinc 4 1, 3) := by decide +kernel
theorem dX_book_59 : decode (hr_cd 105) 59 = .ok (.goto (-33), 3) := by decide +kernel
theorem dX_book_62 : decode (hr_cd 105) 62 = .ok (.aload_n 3, 1) := by decide +kernel
theorem dX_book_63 : decode (hr_cd 105) 63 = .ok (.getfield 208, 3) := by decide +kernel
theorem dX_book_66 : decode (hr_cd 105) 66 = .ok (.ireturn, 1) := by decide +kernel
theorem dX_read_0 : decode (hr_cd 106) 0 = .ok (.aload_n 0, 1) := by decide +kernel
theorem dX_read_1 : decode (hr_cd 106) 1 = .ok (.iload_n 1, 1) := by decide +kernel
theorem dX_read_2 : decode (hr_cd 106) 2 = .ok (.invokevirtual 209, 3) := by decide +kernel
theorem dX_read_5 : decode (hr_cd 106) 5 = .ok (.istore_n 2, 1) := by decide +kernel
theorem dX_read_6 : decode (hr_cd 106) 6 = .ok (.iload_n 2, 1) := by decide +kernel
theorem dX_read_7 : decode (hr_cd 106) 7 = .ok (.ifCond .eq 5, 3) := by decide +kernel
theorem dX_read_10 : decode (hr_cd 106) 10 = .ok (.iload_n 2, 1) := by decide +kernel
theorem dX_read_11 : decode (hr_cd 106) 11 = .ok (.ireturn, 1) := by decide +kernel
theorem dX_read_12 : decode (hr_cd 106) 12 = .ok (.aload_n 0, 1) := by decide +kernel
theorem dX_read_13 : decode (hr_cd 106) 13 = .ok (.getfield 42, 3) := by decide +kernel
theorem dX_read_16 : decode (hr_cd 106) 16 = .ok (.iload_n 1, 1) := by decide +kernel
theorem dX_read_17 : decode (hr_cd 106) 17 = .ok (.aaload, 1) := by decide +kernel
theorem dX_read_18 : decode (hr_cd 106) 18 = .ok (.astore_n 3, 1) := by decide +kernel
theorem dX_read_19 : decode (hr_cd 106) 19 = .ok (.iconst 0, 1) := by decide +kernel
theorem dX_read_20 : decode (hr_cd 106) 20 = .ok (.istore 4, 2) := by decide +kernel
theorem dX_read_22 : decode (hr_cd 106) 22 = .ok (.iconst 0, 1) := by decide +kernel
theorem dX_read_23 : decode (hr_cd 106) 23 = .ok (.istore 5, 2) := by decide +kernel
theorem dX_read_25 : decode (hr_cd 106) 25 = .ok (.iload 5, 2) := by decide +kernel
theorem dX_read_27 : decode (hr_cd 106) 27 = .ok (.bipush 9, 2) := by decide +kernel
theorem dX_read_29 : decode (hr_cd 106) 29 = .ok (.if_icmp .gt 60, 3) := by decide +kernel
theorem dX_read_32 : decode (hr_cd 106) 32 = .ok (.iconst 0, 1) := by decide +kernel
theorem dX_read_33 : decode (hr_cd 106) 33 = .ok (.istore 6, 2) := by decide +kernel
theorem dX_read_35 : decode (hr_cd 106) 35 = .ok (.iload 6, 2) := by decide +kernel
theorem dX_read_37 : decode (hr_cd 106) 37 = .ok (.iconst 1, 1) := by decide +kernel
theorem dX_read_38 : decode (hr_cd 106) 38 = .ok (.if_icmp .gt 45, 3) := by decide +kernel
theorem dX_read_41 : decode (hr_cd 106) 41 = .ok (.aload_n 0, 1) := by decide +kernel
theorem dX_read_42 : decode (hr_cd 106) 42 = .ok (.invokevirtual 157, 3) := by decide +kernel
theorem dX_read_45 : decode (hr_cd 106) 45 = .ok (.aload_n 0, 1) := by decide +kernel
theorem dX_read_46 : decode (hr_cd 106) 46 = .ok (.getfield 16, 3) := by decide +kernel
theorem dX_read_49 : decode (hr_cd 106) 49 = .ok (.iload 5, 2) := by decide +kernel
theorem dX_read_51 : decode (hr_cd 106) 51 = .ok (.putfield 73, 3) := by decide +kernel
theorem dX_read_54 : decode (hr_cd 106) 54 = .ok (.aload_n 0, 1) := by decide +kernel
theorem dX_read_55 : decode (hr_cd 106) 55 = .ok (.getfield 16, 3) := by decide +kernel
theorem dX_read_58 : decode (hr_cd 106) 58 = .ok (.iload 6, 2) := by decide +kernel
theorem dX_read_60 : decode (hr_cd 106) 60 = .ok (.putfield 76, 3) := by decide +kernel
theorem dX_read_63 : decode (hr_cd 106) 63 = .ok (.aload_n 3, 1) := by decide +kernel
theorem dX_read_64 : decode (hr_cd 106) 64 = .ok (.aload_n 0, 1) := by decide +kernel
theorem dX_read_65 : decode (hr_cd 106) 65 = .ok (.getfield 16, 3) := by decide +kernel
theorem dX_read_68 : decode (hr_cd 106) 68 = .ok (.invokevirtual 242, 3) := by decide +kernel
theorem dX_read_71 : decode (hr_cd 106) 71 = .ok (.ifCond .eq 6, 3) := by decide +kernel
theorem dX_read_74 : decode (hr_cd 106) 74 = .ok (.iinc 4 1, 3) := by decide +kernel
theorem dX_read_77 : decode (hr_cd 106) 77 = .ok (.iinc 6 1, 3) := by decide +kernel
theorem dX_read_80 : decode (hr_cd 106) 80 = .ok (.goto (-45), 3) := by decide +kernel
theorem dX_read_83 : decode (hr_cd 106) 83 = .ok (.iinc 5 1, 3) := by decide +kernel
theorem dX_read_86 : decode (hr_cd 106) 86 = .ok (.goto (-61), 3) := by decide +kernel
theorem dX_read_89 : decode (hr_cd 106) 89 = .ok (.iload 4, 2) := by decide +kernel
theorem dX_read_91 : decode (hr_cd 106) 91 = .ok (.ireturn, 1) := by decide +kernel
theorem dX_image_0 : decode (hr_cd 108) 0 = .ok (.aload_n 0, 1) := by decide +kernel
theorem dX_image_1 : decode (hr_cd 108) 1 = .ok (.getfield 19, 3) := by decide +kernel
theorem dX_image_4 : decode (hr_cd 108) 4 = .ok (.aload_n 0, 1) := by decide +kernel
theorem dX_image_5 : decode (hr_cd 108) 5 = .ok (.getfield 10, 3) := by decide +kernel
theorem dX_image_8 : decode (hr_cd 108) 8 = .ok (.invokevirtual 198, 3) := by decide +kernel
theorem dX_image_11 : decode (hr_cd 108) 11 = .ok (.aload_n 0, 1) := by decide +kernel
theorem dX_image_12 : decode (hr_cd 108) 12 = .ok (.iconst 1, 1) := by decide +kernel
theorem dX_image_13 : decode (hr_cd 108) 13 = .ok (.putfield 22, 3) := by decide +kernel
theorem dX_image_16 : decode (hr_cd 108) 16 = .ok (.iconst 1, 1) := by decide +kernel
theorem dX_image_17 : decode (hr_cd 108) 17 = .ok (.ireturn, 1) := by decide +kernel
theorem dX_undo_0 : decode (hr_cd 109) 0 = .ok (.aload_n 0, 1) := by decide +kernel
theorem dX_undo_1 : decode (hr_cd 109) 1 = .ok (.getfield 22, 3) := by decide +kernel
theorem dX_undo_4 : decode (hr_cd 109) 4 = .ok (.ifCond .ne 9, 3) := by decide +kernel
theorem dX_undo_7 : decode (hr_cd 109) 7 = .ok (.aload_n 0, 1) := by decide +kernel
theorem dX_undo_8 : decode (hr_cd 109) 8 = .ok (.iconst 3, 1) := by decide +kernel
theorem dX_undo_9 : decode (hr_cd 109) 9 = .ok (.invokevirtual 58, 3) := by decide +kernel
theorem dX_undo_12 : decode (hr_cd 109) 12 = .ok (.ireturn, 1) := by decide +kernel
theorem dX_undo_13 : decode (hr_cd 109) 13 = .ok (.aload_n 0, 1) := by decide +kernel
theorem dX_undo_14 : decode (hr_cd 109) 14 = .ok (.getfield 10, 3) := by decide +kernel
theorem dX_undo_17 : decode (hr_cd 109) 17 = .ok (.aload_n 0, 1) := by decide +kernel
theorem dX_undo_18 : decode (hr_cd 109) 18 = .ok (.getfield 19, 3) := by decide +kernel
theorem dX_undo_21 : decode (hr_cd 109) 21 = .ok (.invokevirtual 198, 3) := by decide +kernel
theorem dX_undo_24 : decode (hr_cd 109) 24 = .ok (.aload_n 0, 1) := by decide +kernel
theorem dX_undo_25 : decode (hr_cd 109) 25 = .ok (.getfield 10, 3) := by decide +kernel
theorem dX_undo_28 : decode (hr_cd 109) 28 = .ok (.getfield 100, 3) := by decide +kernel
theorem dX_undo_31 : decode (hr_cd 109) 31 = .ok (.ireturn, 1) := by decide +kernel
theorem dX_tear_0 : decode (hr_cd 110) 0 = .ok (.aload_n 0, 1) := by decide +kernel
theorem dX_tear_1 : decode (hr_cd 110) 1 = .ok (.getfield 22, 3) := by decide +kernel
theorem dX_tear_4 : decode (hr_cd 110) 4 = .ok (.ifCond .eq 7, 3) := by decide +kernel
theorem dX_tear_7 : decode (hr_cd 110) 7 = .ok (.iconst 1, 1) := by decide +kernel
theorem dX_tear_8 : decode (hr_cd 110) 8 = .ok (.goto 4, 3) := by decide +kernel
theorem dX_tear_11 : decode (hr_cd 110) 11 = .ok (.iconst 0, 1) := by decide +kernel
theorem dX_tear_12 : decode (hr_cd 110) 12 = .ok (.istore_n 1, 1) := by decide +kernel
theorem dX_tear_13 : decode (hr_cd 110) 13 = .ok (.aload_n 0, 1) := by decide +kernel
theorem dX_tear_14 : decode (hr_cd 110) 14 = .ok (.iconst 0, 1) := by decide +kernel
theorem dX_tear_15 : decode (hr_cd 110) 15 = .ok (.putfield 22, 3) := by decide +kernel
theorem dX_tear_18 : decode (hr_cd 110) 18 = .ok (.iload_n 1, 1) := by decide +kernel
theorem dX_tear_19 : decode (hr_cd 110) 19 = .ok (.ireturn, 1) := by decide +kernel
theorem dX_count_0 : decode (hr_cd 111) 0 = .ok (.iload_n 1, 1) := by decide +kernel
theorem dX_count_1 : decode (hr_cd 111) 1 = .ok (.tableswitch 63 0 3 #[31, 39, 47, 55], 31) := by decide +kernel
theorem dX_count_32 : decode (hr_cd 111) 32 = .ok (.aload_n 0, 1) := by decide +kernel
theorem dX_count_33 : decode (hr_cd 111) 33 = .ok (.getfield 10, 3) := by decide +kernel
theorem dX_count_36 : decode (hr_cd 111) 36 = .ok (.getfield 100, 3) := by decide +kernel
theorem dX_count_39 : decode (hr_cd 111) 39 = .ok (.ireturn, 1) := by decide +kernel
theorem dX_count_40 : decode (hr_cd 111) 40 = .ok (.aload_n 0, 1) := by decide +kernel
theorem dX_count_41 : decode (hr_cd 111) 41 = .ok (.getfield 36, 3) := by decide +kernel
theorem dX_count_44 : decode (hr_cd 111) 44 = .ok (.getfield 188, 3) := by decide +kernel
theorem dX_count_47 : decode (hr_cd 111) 47 = .ok (.ireturn, 1) := by decide +kernel
theorem dX_count_48 : decode (hr_cd 111) 48 = .ok (.aload_n 0, 1) := by decide +kernel
theorem dX_count_49 : decode (hr_cd 111) 49 = .ok (.getfield 10, 3) := by decide +kernel
theorem dX_count_52 : decode (hr_cd 111) 52 = .ok (.invokevirtual 246, 3) := by decide +kernel
theorem dX_count_55 : decode (hr_cd 111) 55 = .ok (.ireturn, 1) := by decide +kernel
theorem dX_count_56 : decode (hr_cd 111) 56 = .ok (.aload_n 0, 1) := by decide +kernel
theorem dX_count_57 : decode (hr_cd 111) 57 = .ok (.getfield 10, 3) := by decide +kernel
theorem dX_count_60 : decode (hr_cd 111) 60 = .ok (.invokevirtual 249, 3) := by decide +kernel
theorem dX_count_63 : decode (hr_cd 111) 63 = .ok (.ireturn, 1) := by decide +kernel
theorem dX_count_64 : decode (hr_cd 111) 64 = .ok (.aload_n 0, 1) := by decide +kernel
theorem dX_count_65 : decode (hr_cd 111) 65 = .ok (.iconst 0, 1) := by decide +kernel
theorem dX_count_66 : decode (hr_cd 111) 66 = .ok (.invokevirtual 58, 3) := by decide +kernel
theorem dX_count_69 : decode (hr_cd 111) 69 = .ok (.ireturn, 1) := by decide +kernel
theorem dX_status_0 : decode (hr_cd 114) 0 = .ok (.iload_n 1, 1) := by decide +kernel
theorem dX_status_1 : decode (hr_cd 114) 1 = .ok (.iconst (-1), 1) := by decide +kernel
theorem dX_status_2 : decode (hr_cd 114) 2 = .ok (.if_icmp .ne 30, 3) := by decide +kernel
theorem dX_status_5 : decode (hr_cd 114) 5 = .ok (.iconst 0, 1) := by decide +kernel
theorem dX_status_6 : decode (hr_cd 114) 6 = .ok (.istore_n 2, 1) := by decide +kernel
theorem dX_status_7 : decode (hr_cd 114) 7 = .ok (.iconst 0, 1) := by decide +kernel
theorem dX_status_8 : decode (hr_cd 114) 8 = .ok (.istore_n 3, 1) := by decide +kernel
theorem dX_status_9 : decode (hr_cd 114) 9 = .ok (.iload_n 3, 1) := by decide +kernel
theorem dX_status_10 : decode (hr_cd 114) 10 = .ok (.bipush 7, 2) := by decide +kernel
theorem dX_status_12 : decode (hr_cd 114) 12 = .ok (.if_icmp .ge 18, 3) := by decide +kernel
theorem dX_status_15 : decode (hr_cd 114) 15 = .ok (.iload_n 2, 1) := by decide +kernel
theorem dX_status_16 : decode (hr_cd 114) 16 = .ok (.aload_n 0, 1) := by decide +kernel
theorem dX_status_17 : decode (hr_cd 114) 17 = .ok (.getfield 47, 3) := by decide +kernel
theorem dX_status_20 : decode (hr_cd 114) 20 = .ok (.iload_n 3, 1) := by decide +kernel
theorem dX_status_21 : decode (hr_cd 114) 21 = .ok (.iaload, 1) := by decide +kernel
theorem dX_status_22 : decode (hr_cd 114) 22 = .ok (.iadd, 1) := by decide +kernel
theorem dX_status_23 : decode (hr_cd 114) 23 = .ok (.istore_n 2, 1) := by decide +kernel
theorem dX_status_24 : decode (hr_cd 114) 24 = .ok (.iinc 3 1, 3) := by decide +kernel
theorem dX_status_27 : decode (hr_cd 114) 27 = .ok (.goto (-18), 3) := by decide +kernel
theorem dX_status_30 : decode (hr_cd 114) 30 = .ok (.iload_n 2, 1) := by decide +kernel
theorem dX_status_31 : decode (hr_cd 114) 31 = .ok (.ireturn, 1) := by decide +kernel
theorem dX_status_32 : decode (hr_cd 114) 32 = .ok (.iload_n 1, 1) := by decide +kernel
theorem dX_status_33 : decode (hr_cd 114) 33 = .ok (.iconst 0, 1) := by decide +kernel
theorem dX_status_34 : decode (hr_cd 114) 34 = .ok (.bipush 6, 2) := by decide +kernel
theorem dX_status_36 : decode (hr_cd 114) 36 = .ok (.invokestatic 54, 3) := by decide +kernel
theorem dX_status_39 : decode (hr_cd 114) 39 = .ok (.ifCond .eq 12, 3) := by decide +kernel
theorem dX_status_42 : decode (hr_cd 114) 42 = .ok (.aload_n 0, 1) := by decide +kernel
theorem dX_status_43 : decode (hr_cd 114) 43 = .ok (.getfield 47, 3) := by decide +kernel
theorem dX_status_46 : decode (hr_cd 114) 46 = .ok (.iload_n 1, 1) := by decide +kernel
theorem dX_status_47 : decode (hr_cd 114) 47 = .ok (.iaload, 1) := by decide +kernel
theorem dX_status_48 : decode (hr_cd 114) 48 = .ok (.goto 8, 3) := by decide +kernel
theorem dX_status_51 : decode (hr_cd 114) 51 = .ok (.aload_n 0, 1) := by decide +kernel
theorem dX_status_52 : decode (hr_cd 114) 52 = .ok (.iconst 0, 1) := by decide +kernel
theorem dX_status_53 : decode (hr_cd 114) 53 = .ok (.invokevirtual 58, 3) := by decide +kernel
theorem dX_status_56 : decode (hr_cd 114) 56 = .ok (.ireturn, 1) := by decide +kernel
