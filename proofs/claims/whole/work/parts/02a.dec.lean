theorem dS_changeShip_0 : decode (hr_cd 9) 0 = .ok (.iload_n 1, 1) := by decide +kernel
theorem dS_changeShip_1 : decode (hr_cd 9) 1 = .ok (.lookupswitch 51 #[(0, 27), (1, 39)], 27) := by decide +kernel
theorem dS_changeShip_28 : decode (hr_cd 9) 28 = .ok (.aload_n 0, 1) := by decide +kernel
theorem dS_changeShip_29 : decode (hr_cd 9) 29 = .ok (.getfield 15, 3) := by decide +kernel
theorem dS_changeShip_32 : decode (hr_cd 9) 32 = .ok (.istore_n 3, 1) := by decide +kernel
theorem dS_changeShip_33 : decode (hr_cd 9) 33 = .ok (.aload_n 0, 1) := by decide +kernel
theorem dS_changeShip_34 : decode (hr_cd 9) 34 = .ok (.iload_n 2, 1) := by decide +kernel
theorem dS_changeShip_35 : decode (hr_cd 9) 35 = .ok (.invokevirtual 49, 3) := by decide +kernel
theorem dS_changeShip_38 : decode (hr_cd 9) 38 = .ok (.iload_n 3, 1) := by decide +kernel
theorem dS_changeShip_39 : decode (hr_cd 9) 39 = .ok (.ireturn, 1) := by decide +kernel
theorem dS_changeShip_40 : decode (hr_cd 9) 40 = .ok (.aload_n 0, 1) := by decide +kernel
theorem dS_changeShip_41 : decode (hr_cd 9) 41 = .ok (.getfield 18, 3) := by decide +kernel
theorem dS_changeShip_44 : decode (hr_cd 9) 44 = .ok (.istore_n 3, 1) := by decide +kernel
theorem dS_changeShip_45 : decode (hr_cd 9) 45 = .ok (.aload_n 0, 1) := by decide +kernel
theorem dS_changeShip_46 : decode (hr_cd 9) 46 = .ok (.iload_n 2, 1) := by decide +kernel
theorem dS_changeShip_47 : decode (hr_cd 9) 47 = .ok (.putfield 18, 3) := by decide +kernel
theorem dS_changeShip_50 : decode (hr_cd 9) 50 = .ok (.iload_n 3, 1) := by decide +kernel
theorem dS_changeShip_51 : decode (hr_cd 9) 51 = .ok (.ireturn, 1) := by decide +kernel
theorem dS_changeShip_52 : decode (hr_cd 9) 52 = .ok (.aload_n 0, 1) := by decide +kernel
theorem dS_changeShip_53 : decode (hr_cd 9) 53 = .ok (.getfield 21, 3) := by decide +kernel
theorem dS_changeShip_56 : decode (hr_cd 9) 56 = .ok (.istore_n 3, 1) := by decide +kernel
theorem dS_changeShip_57 : decode (hr_cd 9) 57 = .ok (.aload_n 0, 1) := by decide +kernel
theorem dS_changeShip_58 : decode (hr_cd 9) 58 = .ok (.iload_n 2, 1) := by decide +kernel
theorem dS_changeShip_59 : decode (hr_cd 9) 59 = .ok (.putfield 21, 3) := by decide +kernel
theorem dS_changeShip_62 : decode (hr_cd 9) 62 = .ok (.iload_n 3, 1) := by decide +kernel
theorem dS_changeShip_63 : decode (hr_cd 9) 63 = .ok (.ireturn, 1) := by decide +kernel
theorem dS_placeShip_0 : decode (hr_cd 10) 0 = .ok (.aload_n 0, 1) := by decide +kernel
theorem dS_placeShip_1 : decode (hr_cd 10) 1 = .ok (.iload_n 1, 1) := by decide +kernel
theorem dS_placeShip_2 : decode (hr_cd 10) 2 = .ok (.putfield 15, 3) := by decide +kernel
theorem dS_placeShip_5 : decode (hr_cd 10) 5 = .ok (.aload_n 0, 1) := by decide +kernel
theorem dS_placeShip_6 : decode (hr_cd 10) 6 = .ok (.iload_n 1, 1) := by decide +kernel
theorem dS_placeShip_7 : decode (hr_cd 10) 7 = .ok (.bipush 63, 2) := by decide +kernel
theorem dS_placeShip_9 : decode (hr_cd 10) 9 = .ok (.if_icmp .ne 7, 3) := by decide +kernel
theorem dS_placeShip_12 : decode (hr_cd 10) 12 = .ok (.iconst 2, 1) := by decide +kernel
theorem dS_placeShip_13 : decode (hr_cd 10) 13 = .ok (.goto 4, 3) := by decide +kernel
theorem dS_placeShip_16 : decode (hr_cd 10) 16 = .ok (.iconst 0, 1) := by decide +kernel
theorem dS_placeShip_17 : decode (hr_cd 10) 17 = .ok (.putfield 24, 3) := by decide +kernel
theorem dS_placeShip_20 : decode (hr_cd 10) 20 = .ok (.return_, 1) := by decide +kernel
theorem dS_heardSet_0 : decode (hr_cd 12) 0 = .ok (.iconst 0, 1) := by decide +kernel
theorem dS_heardSet_1 : decode (hr_cd 12) 1 = .ok (.istore_n 1, 1) := by decide +kernel
theorem dS_heardSet_2 : decode (hr_cd 12) 2 = .ok (.iconst 0, 1) := by decide +kernel
theorem dS_heardSet_3 : decode (hr_cd 12) 3 = .ok (.istore_n 2, 1) := by decide +kernel
theorem dS_heardSet_4 : decode (hr_cd 12) 4 = .ok (.iload_n 2, 1) := by decide +kernel
theorem dS_heardSet_5 : decode (hr_cd 12) 5 = .ok (.aload_n 0, 1) := by decide +kernel
theorem dS_heardSet_6 : decode (hr_cd 12) 6 = .ok (.getfield 27, 3) := by decide +kernel
theorem dS_heardSet_9 : decode (hr_cd 12) 9 = .ok (.if_icmp .ge 39, 3) := by decide +kernel
theorem dS_heardSet_12 : decode (hr_cd 12) 12 = .ok (.aload_n 0, 1) := by decide +kernel
theorem dS_heardSet_13 : decode (hr_cd 12) 13 = .ok (.aload_n 0, 1) := by decide +kernel
theorem dS_heardSet_14 : decode (hr_cd 12) 14 = .ok (.getfield 32, 3) := by decide +kernel
theorem dS_heardSet_17 : decode (hr_cd 12) 17 = .ok (.iload_n 2, 1) := by decide +kernel
theorem dS_heardSet_18 : decode (hr_cd 12) 18 = .ok (.aaload, 1) := by decide +kernel
theorem dS_heardSet_19 : decode (hr_cd 12) 19 = .ok (.aload_n 0, 1) := by decide +kernel
theorem dS_heardSet_20 : decode (hr_cd 12) 20 = .ok (.getfield 15, 3) := by decide +kernel
theorem dS_heardSet_23 : decode (hr_cd 12) 23 = .ok (.aload_n 0, 1) := by decide +kernel
theorem dS_heardSet_24 : decode (hr_cd 12) 24 = .ok (.getfield 9, 3) := by decide +kernel
theorem dS_heardSet_27 : decode (hr_cd 12) 27 = .ok (.invokevirtual 54, 3) := by decide +kernel
theorem dS_heardSet_30 : decode (hr_cd 12) 30 = .ok (.invokevirtual 58, 3) := by decide +kernel
theorem dS_heardSet_33 : decode (hr_cd 12) 33 = .ok (.ifCond .eq 9, 3) := by decide +kernel
theorem dS_heardSet_36 : decode (hr_cd 12) 36 = .ok (.iload_n 1, 1) := by decide +kernel
theorem dS_heardSet_37 : decode (hr_cd 12) 37 = .ok (.iconst 1, 1) := by decide +kernel
theorem dS_heardSet_38 : decode (hr_cd 12) 38 = .ok (.iload_n 2, 1) := by decide +kernel
theorem dS_heardSet_39 : decode (hr_cd 12) 39 = .ok (.ishl, 1) := by decide +kernel
theorem dS_heardSet_40 : decode (hr_cd 12) 40 = .ok (.ior, 1) := by decide +kernel
theorem dS_heardSet_41 : decode (hr_cd 12) 41 = .ok (.istore_n 1, 1) := by decide +kernel
theorem dS_heardSet_42 : decode (hr_cd 12) 42 = .ok (.iinc 2 1, 3) := by decide +kernel
theorem dS_heardSet_45 : decode (hr_cd 12) 45 = .ok (.goto (-41), 3) := by decide +kernel
theorem dS_heardSet_48 : decode (hr_cd 12) 48 = .ok (.iload_n 1, 1) := by decide +kernel
theorem dS_heardSet_49 : decode (hr_cd 12) 49 = .ok (.ireturn, 1) := by decide +kernel
theorem dR_soundAt_0 : decode (hr_cd 13) 0 = .ok (.aload_n 0, 1) := by decide +kernel
theorem dR_soundAt_1 : decode (hr_cd 13) 1 = .ok (.getfield 24, 3) := by decide +kernel
theorem dR_soundAt_4 : decode (hr_cd 13) 4 = .ok (.iconst 1, 1) := by decide +kernel
theorem dR_soundAt_5 : decode (hr_cd 13) 5 = .ok (.if_icmp .ne 5, 3) := by decide +kernel
theorem dR_soundAt_8 : decode (hr_cd 13) 8 = .ok (.iconst 0, 1) := by decide +kernel
theorem dR_soundAt_9 : decode (hr_cd 13) 9 = .ok (.ireturn, 1) := by decide +kernel
theorem dR_soundAt_10 : decode (hr_cd 13) 10 = .ok (.aload_n 0, 1) := by decide +kernel
theorem dR_soundAt_11 : decode (hr_cd 13) 11 = .ok (.getfield 15, 3) := by decide +kernel
theorem dR_soundAt_14 : decode (hr_cd 13) 14 = .ok (.iload_n 1, 1) := by decide +kernel
theorem dR_soundAt_15 : decode (hr_cd 13) 15 = .ok (.invokestatic 31, 3) := by decide +kernel
theorem dR_soundAt_18 : decode (hr_cd 13) 18 = .ok (.istore_n 3, 1) := by decide +kernel
theorem dR_soundAt_19 : decode (hr_cd 13) 19 = .ok (.aload_n 0, 1) := by decide +kernel
theorem dR_soundAt_20 : decode (hr_cd 13) 20 = .ok (.getfield 18, 3) := by decide +kernel
theorem dR_soundAt_23 : decode (hr_cd 13) 23 = .ok (.iconst 1, 1) := by decide +kernel
theorem dR_soundAt_24 : decode (hr_cd 13) 24 = .ok (.iload_n 3, 1) := by decide +kernel
theorem dR_soundAt_25 : decode (hr_cd 13) 25 = .ok (.iadd, 1) := by decide +kernel
theorem dR_soundAt_26 : decode (hr_cd 13) 26 = .ok (.idiv, 1) := by decide +kernel
theorem dR_soundAt_27 : decode (hr_cd 13) 27 = .ok (.istore 4, 2) := by decide +kernel
theorem dR_soundAt_29 : decode (hr_cd 13) 29 = .ok (.iload_n 3, 1) := by decide +kernel
theorem dR_soundAt_30 : decode (hr_cd 13) 30 = .ok (.iconst 3, 1) := by decide +kernel
theorem dR_soundAt_31 : decode (hr_cd 13) 31 = .ok (.if_icmp .gt 13, 3) := by decide +kernel
theorem dR_soundAt_34 : decode (hr_cd 13) 34 = .ok (.iload 4, 2) := by decide +kernel
theorem dR_soundAt_36 : decode (hr_cd 13) 36 = .ok (.aload_n 0, 1) := by decide +kernel
theorem dR_soundAt_37 : decode (hr_cd 13) 37 = .ok (.getfield 21, 3) := by decide +kernel
theorem dR_soundAt_40 : decode (hr_cd 13) 40 = .ok (.iadd, 1) := by decide +kernel
theorem dR_soundAt_41 : decode (hr_cd 13) 41 = .ok (.goto 5, 3) := by decide +kernel
theorem dR_soundAt_44 : decode (hr_cd 13) 44 = .ok (.iload 4, 2) := by decide +kernel
theorem dR_soundAt_46 : decode (hr_cd 13) 46 = .ok (.istore 5, 2) := by decide +kernel
theorem dR_soundAt_48 : decode (hr_cd 13) 48 = .ok (.iload_n 2, 1) := by decide +kernel
theorem dR_soundAt_49 : decode (hr_cd 13) 49 = .ok (.iconst 2, 1) := by decide +kernel
theorem dR_soundAt_50 : decode (hr_cd 13) 50 = .ok (.irem, 1) := by decide +kernel
theorem dR_soundAt_51 : decode (hr_cd 13) 51 = .ok (.ifCond .ne 8, 3) := by decide +kernel
theorem dR_soundAt_54 : decode (hr_cd 13) 54 = .ok (.iload 4, 2) := by decide +kernel
theorem dR_soundAt_56 : decode (hr_cd 13) 56 = .ok (.goto 4, 3) := by decide +kernel
theorem dR_soundAt_59 : decode (hr_cd 13) 59 = .ok (.iconst 0, 1) := by decide +kernel
theorem dR_soundAt_60 : decode (hr_cd 13) 60 = .ok (.istore 6, 2) := by decide +kernel
theorem dR_soundAt_62 : decode (hr_cd 13) 62 = .ok (.aload_n 0, 1) := by decide +kernel
theorem dR_soundAt_63 : decode (hr_cd 13) 63 = .ok (.getfield 9, 3) := by decide +kernel
theorem dR_soundAt_66 : decode (hr_cd 13) 66 = .ok (.tableswitch 70 1 5 #[34, 37, 40, 45, 61], 34) := by decide +kernel
theorem dR_soundAt_100 : decode (hr_cd 13) 100 = .ok (.iload 5, 2) := by decide +kernel
theorem dR_soundAt_102 : decode (hr_cd 13) 102 = .ok (.ireturn, 1) := by decide +kernel
theorem dR_soundAt_103 : decode (hr_cd 13) 103 = .ok (.iload 6, 2) := by decide +kernel
theorem dR_soundAt_105 : decode (hr_cd 13) 105 = .ok (.ireturn, 1) := by decide +kernel
theorem dR_soundAt_106 : decode (hr_cd 13) 106 = .ok (.aload_n 0, 1) := by decide +kernel
theorem dR_soundAt_107 : decode (hr_cd 13) 107 = .ok (.getfield 18, 3) := by decide +kernel
theorem dR_soundAt_110 : decode (hr_cd 13) 110 = .ok (.ireturn, 1) := by decide +kernel
theorem dR_soundAt_111 : decode (hr_cd 13) 111 = .ok (.iload_n 2, 1) := by decide +kernel
theorem dR_soundAt_112 : decode (hr_cd 13) 112 = .ok (.iconst 4, 1) := by decide +kernel
theorem dR_soundAt_113 : decode (hr_cd 13) 113 = .ok (.irem, 1) := by decide +kernel
theorem dR_soundAt_114 : decode (hr_cd 13) 114 = .ok (.ifCond .ne 10, 3) := by decide +kernel
theorem dR_soundAt_117 : decode (hr_cd 13) 117 = .ok (.iconst 2, 1) := by decide +kernel
theorem dR_soundAt_118 : decode (hr_cd 13) 118 = .ok (.iload 5, 2) := by decide +kernel
theorem dR_soundAt_120 : decode (hr_cd 13) 120 = .ok (.imul, 1) := by decide +kernel
theorem dR_soundAt_121 : decode (hr_cd 13) 121 = .ok (.goto 5, 3) := by decide +kernel
theorem dR_soundAt_124 : decode (hr_cd 13) 124 = .ok (.iload 5, 2) := by decide +kernel
theorem dR_soundAt_126 : decode (hr_cd 13) 126 = .ok (.ireturn, 1) := by decide +kernel
theorem dR_soundAt_127 : decode (hr_cd 13) 127 = .ok (.iload 6, 2) := by decide +kernel
theorem dR_soundAt_129 : decode (hr_cd 13) 129 = .ok (.iload_n 3, 1) := by decide +kernel
theorem dR_soundAt_130 : decode (hr_cd 13) 130 = .ok (.isub, 1) := by decide +kernel
theorem dR_soundAt_131 : decode (hr_cd 13) 131 = .ok (.iconst 0, 1) := by decide +kernel
theorem dR_soundAt_132 : decode (hr_cd 13) 132 = .ok (.invokestatic 35, 3) := by decide +kernel
theorem dR_soundAt_135 : decode (hr_cd 13) 135 = .ok (.ireturn, 1) := by decide +kernel
theorem dR_soundAt_136 : decode (hr_cd 13) 136 = .ok (.iload 4, 2) := by decide +kernel
theorem dR_soundAt_138 : decode (hr_cd 13) 138 = .ok (.ireturn, 1) := by decide +kernel
theorem dJM_abs_0 : decode (hr_cd 15) 0 = .ok (.iload_n 0, 1) := by decide +kernel
theorem dJM_abs_1 : decode (hr_cd 15) 1 = .ok (.ifCond .ge 8, 3) := by decide +kernel
theorem dJM_abs_4 : decode (hr_cd 15) 4 = .ok (.iload_n 0, 1) := by decide +kernel
theorem dJM_abs_5 : decode (hr_cd 15) 5 = .ok (.ineg, 1) := by decide +kernel
theorem dJM_abs_6 : decode (hr_cd 15) 6 = .ok (.goto 4, 3) := by decide +kernel
theorem dJM_abs_9 : decode (hr_cd 15) 9 = .ok (.iload_n 0, 1) := by decide +kernel
theorem dJM_abs_10 : decode (hr_cd 15) 10 = .ok (.ireturn, 1) := by decide +kernel
theorem dJM_max_0 : decode (hr_cd 16) 0 = .ok (.iload_n 0, 1) := by decide +kernel
theorem dJM_max_1 : decode (hr_cd 16) 1 = .ok (.iload_n 1, 1) := by decide +kernel
theorem dJM_max_2 : decode (hr_cd 16) 2 = .ok (.if_icmp .lt 7, 3) := by decide +kernel
theorem dJM_max_5 : decode (hr_cd 16) 5 = .ok (.iload_n 0, 1) := by decide +kernel
theorem dJM_max_6 : decode (hr_cd 16) 6 = .ok (.goto 4, 3) := by decide +kernel
theorem dJM_max_9 : decode (hr_cd 16) 9 = .ok (.iload_n 1, 1) := by decide +kernel
theorem dJM_max_10 : decode (hr_cd 16) 10 = .ok (.ireturn, 1) := by decide +kernel
theorem dS_isHeard_0 : decode (hr_cd 17) 0 = .ok (.iload_n 1, 1) := by decide +kernel
theorem dS_isHeard_1 : decode (hr_cd 17) 1 = .ok (.aload_n 0, 1) := by decide +kernel
theorem dS_isHeard_2 : decode (hr_cd 17) 2 = .ok (.getfield 18, 3) := by decide +kernel
theorem dS_isHeard_5 : decode (hr_cd 17) 5 = .ok (.iadd, 1) := by decide +kernel
theorem dS_isHeard_6 : decode (hr_cd 17) 6 = .ok (.bipush 10, 2) := by decide +kernel
theorem dS_isHeard_8 : decode (hr_cd 17) 8 = .ok (.if_icmp .lt 7, 3) := by decide +kernel
theorem dS_isHeard_11 : decode (hr_cd 17) 11 = .ok (.iconst 1, 1) := by decide +kernel
theorem dS_isHeard_12 : decode (hr_cd 17) 12 = .ok (.goto 4, 3) := by decide +kernel
theorem dS_isHeard_15 : decode (hr_cd 17) 15 = .ok (.iconst 0, 1) := by decide +kernel
theorem dS_isHeard_16 : decode (hr_cd 17) 16 = .ok (.ireturn, 1) := by decide +kernel
theorem dS_guide_0 : decode (hr_cd 18) 0 = .ok (.iconst (-1), 1) := by decide +kernel
theorem dS_guide_1 : decode (hr_cd 18) 1 = .ok (.istore_n 1, 1) := by decide +kernel
theorem dS_guide_2 : decode (hr_cd 18) 2 = .ok (.iconst (-1), 1) := by decide +kernel
theorem dS_guide_3 : decode (hr_cd 18) 3 = .ok (.istore_n 2, 1) := by decide +kernel
theorem dS_guide_4 : decode (hr_cd 18) 4 = .ok (.iconst 0, 1) := by decide +kernel
theorem dS_guide_5 : decode (hr_cd 18) 5 = .ok (.istore_n 3, 1) := by decide +kernel
theorem dS_guide_6 : decode (hr_cd 18) 6 = .ok (.iload_n 3, 1) := by decide +kernel
theorem dS_guide_7 : decode (hr_cd 18) 7 = .ok (.aload_n 0, 1) := by decide +kernel
theorem dS_guide_8 : decode (hr_cd 18) 8 = .ok (.getfield 27, 3) := by decide +kernel
theorem dS_guide_11 : decode (hr_cd 18) 11 = .ok (.if_icmp .ge 75, 3) := by decide +kernel
theorem dS_guide_14 : decode (hr_cd 18) 14 = .ok (.aload_n 0, 1) := by decide +kernel
theorem dS_guide_15 : decode (hr_cd 18) 15 = .ok (.getfield 32, 3) := by decide +kernel
theorem dS_guide_18 : decode (hr_cd 18) 18 = .ok (.iload_n 3, 1) := by decide +kernel
theorem dS_guide_19 : decode (hr_cd 18) 19 = .ok (.aaload, 1) := by decide +kernel
theorem dS_guide_20 : decode (hr_cd 18) 20 = .ok (.aload_n 0, 1) := by decide +kernel
theorem dS_guide_21 : decode (hr_cd 18) 21 = .ok (.getfield 15, 3) := by decide +kernel
theorem dS_guide_24 : decode (hr_cd 18) 24 = .ok (.aload_n 0, 1) := by decide +kernel
theorem dS_guide_25 : decode (hr_cd 18) 25 = .ok (.getfield 9, 3) := by decide +kernel
theorem dS_guide_28 : decode (hr_cd 18) 28 = .ok (.invokevirtual 54, 3) := by decide +kernel
theorem dS_guide_31 : decode (hr_cd 18) 31 = .ok (.istore 4, 2) := by decide +kernel
theorem dS_guide_33 : decode (hr_cd 18) 33 = .ok (.aload_n 0, 1) := by decide +kernel
theorem dS_guide_34 : decode (hr_cd 18) 34 = .ok (.iload 4, 2) := by decide +kernel
theorem dS_guide_36 : decode (hr_cd 18) 36 = .ok (.invokevirtual 58, 3) := by decide +kernel
theorem dS_guide_39 : decode (hr_cd 18) 39 = .ok (.ifCond .eq 41, 3) := by decide +kernel
theorem dS_guide_42 : decode (hr_cd 18) 42 = .ok (.aload_n 0, 1) := by decide +kernel
theorem dS_guide_43 : decode (hr_cd 18) 43 = .ok (.getfield 21, 3) := by decide +kernel
theorem dS_guide_46 : decode (hr_cd 18) 46 = .ok (.ifCond .ne 8, 3) := by decide +kernel
theorem dS_guide_49 : decode (hr_cd 18) 49 = .ok (.iload 4, 2) := by decide +kernel
theorem dS_guide_51 : decode (hr_cd 18) 51 = .ok (.goto 16, 3) := by decide +kernel
theorem dS_guide_54 : decode (hr_cd 18) 54 = .ok (.aload_n 0, 1) := by decide +kernel
theorem dS_guide_55 : decode (hr_cd 18) 55 = .ok (.getfield 32, 3) := by decide +kernel
theorem dS_guide_58 : decode (hr_cd 18) 58 = .ok (.iload_n 3, 1) := by decide +kernel
theorem dS_guide_59 : decode (hr_cd 18) 59 = .ok (.aaload, 1) := by decide +kernel
theorem dS_guide_60 : decode (hr_cd 18) 60 = .ok (.aload_n 0, 1) := by decide +kernel
theorem dS_guide_61 : decode (hr_cd 18) 61 = .ok (.getfield 15, 3) := by decide +kernel
theorem dS_guide_64 : decode (hr_cd 18) 64 = .ok (.invokevirtual 62, 3) := by decide +kernel
theorem dS_guide_67 : decode (hr_cd 18) 67 = .ok (.istore 5, 2) := by decide +kernel
theorem dS_guide_69 : decode (hr_cd 18) 69 = .ok (.iload 5, 2) := by decide +kernel
theorem dS_guide_71 : decode (hr_cd 18) 71 = .ok (.iload_n 2, 1) := by decide +kernel
theorem dS_guide_72 : decode (hr_cd 18) 72 = .ok (.if_icmp .le 8, 3) := by decide +kernel
theorem dS_guide_75 : decode (hr_cd 18) 75 = .ok (.iload 5, 2) := by decide +kernel
theorem dS_guide_77 : decode (hr_cd 18) 77 = .ok (.istore_n 2, 1) := by decide +kernel
theorem dS_guide_78 : decode (hr_cd 18) 78 = .ok (.iload_n 3, 1) := by decide +kernel
theorem dS_guide_79 : decode (hr_cd 18) 79 = .ok (.istore_n 1, 1) := by decide +kernel
theorem dS_guide_80 : decode (hr_cd 18) 80 = .ok (.iinc 3 1, 3) := by decide +kernel
theorem dS_guide_83 : decode (hr_cd 18) 83 = .ok (.goto (-77), 3) := by decide +kernel
theorem dS_guide_86 : decode (hr_cd 18) 86 = .ok (.iload_n 1, 1) := by decide +kernel
theorem dS_guide_87 : decode (hr_cd 18) 87 = .ok (.ireturn, 1) := by decide +kernel
theorem dR_lureAt_0 : decode (hr_cd 19) 0 = .ok (.aload_n 0, 1) := by decide +kernel
theorem dR_lureAt_1 : decode (hr_cd 19) 1 = .ok (.getfield 24, 3) := by decide +kernel
theorem dR_lureAt_4 : decode (hr_cd 19) 4 = .ok (.iconst 1, 1) := by decide +kernel
theorem dR_lureAt_5 : decode (hr_cd 19) 5 = .ok (.if_icmp .ne 5, 3) := by decide +kernel
theorem dR_lureAt_8 : decode (hr_cd 19) 8 = .ok (.iconst 0, 1) := by decide +kernel
theorem dR_lureAt_9 : decode (hr_cd 19) 9 = .ok (.ireturn, 1) := by decide +kernel
theorem dR_lureAt_10 : decode (hr_cd 19) 10 = .ok (.aload_n 0, 1) := by decide +kernel
theorem dR_lureAt_11 : decode (hr_cd 19) 11 = .ok (.getfield 21, 3) := by decide +kernel
theorem dR_lureAt_14 : decode (hr_cd 19) 14 = .ok (.aload_n 0, 1) := by decide +kernel
theorem dR_lureAt_15 : decode (hr_cd 19) 15 = .ok (.getfield 15, 3) := by decide +kernel
theorem dR_lureAt_18 : decode (hr_cd 19) 18 = .ok (.iload_n 1, 1) := by decide +kernel
theorem dR_lureAt_19 : decode (hr_cd 19) 19 = .ok (.invokestatic 31, 3) := by decide +kernel
theorem dR_lureAt_22 : decode (hr_cd 19) 22 = .ok (.isub, 1) := by decide +kernel
theorem dR_lureAt_23 : decode (hr_cd 19) 23 = .ok (.iconst 0, 1) := by decide +kernel
theorem dR_lureAt_24 : decode (hr_cd 19) 24 = .ok (.invokestatic 35, 3) := by decide +kernel
theorem dR_lureAt_27 : decode (hr_cd 19) 27 = .ok (.istore_n 2, 1) := by decide +kernel
theorem dR_lureAt_28 : decode (hr_cd 19) 28 = .ok (.aload_n 0, 1) := by decide +kernel
theorem dR_lureAt_29 : decode (hr_cd 19) 29 = .ok (.getfield 9, 3) := by decide +kernel
theorem dR_lureAt_32 : decode (hr_cd 19) 32 = .ok (.tableswitch 66 1 5 #[36, 43, 45, 47, 62], 36) := by decide +kernel
theorem dR_lureAt_68 : decode (hr_cd 19) 68 = .ok (.aload_n 0, 1) := by decide +kernel
theorem dR_lureAt_69 : decode (hr_cd 19) 69 = .ok (.getfield 21, 3) := by decide +kernel
theorem dR_lureAt_72 : decode (hr_cd 19) 72 = .ok (.iconst 3, 1) := by decide +kernel
theorem dR_lureAt_73 : decode (hr_cd 19) 73 = .ok (.iadd, 1) := by decide +kernel
theorem dR_lureAt_74 : decode (hr_cd 19) 74 = .ok (.ireturn, 1) := by decide +kernel
theorem dR_lureAt_75 : decode (hr_cd 19) 75 = .ok (.iload_n 2, 1) := by decide +kernel
theorem dR_lureAt_76 : decode (hr_cd 19) 76 = .ok (.ireturn, 1) := by decide +kernel
theorem dR_lureAt_77 : decode (hr_cd 19) 77 = .ok (.iconst 0, 1) := by decide +kernel
theorem dR_lureAt_78 : decode (hr_cd 19) 78 = .ok (.ireturn, 1) := by decide +kernel
theorem dR_lureAt_79 : decode (hr_cd 19) 79 = .ok (.aload_n 0, 1) := by decide +kernel
theorem dR_lureAt_80 : decode (hr_cd 19) 80 = .ok (.getfield 21, 3) := by decide +kernel
theorem dR_lureAt_83 : decode (hr_cd 19) 83 = .ok (.iconst 3, 1) := by decide +kernel
theorem dR_lureAt_84 : decode (hr_cd 19) 84 = .ok (.iadd, 1) := by decide +kernel
theorem dR_lureAt_85 : decode (hr_cd 19) 85 = .ok (.aload_n 0, 1) := by decide +kernel
theorem dR_lureAt_86 : decode (hr_cd 19) 86 = .ok (.getfield 18, 3) := by decide +kernel
theorem dR_lureAt_89 : decode (hr_cd 19) 89 = .ok (.bipush 10, 2) := by decide +kernel
theorem dR_lureAt_91 : decode (hr_cd 19) 91 = .ok (.idiv, 1) := by decide +kernel
theorem dR_lureAt_92 : decode (hr_cd 19) 92 = .ok (.iadd, 1) := by decide +kernel
theorem dR_lureAt_93 : decode (hr_cd 19) 93 = .ok (.ireturn, 1) := by decide +kernel
theorem dR_lureAt_94 : decode (hr_cd 19) 94 = .ok (.iload_n 2, 1) := by decide +kernel
theorem dR_lureAt_95 : decode (hr_cd 19) 95 = .ok (.iconst 1, 1) := by decide +kernel
theorem dR_lureAt_96 : decode (hr_cd 19) 96 = .ok (.iadd, 1) := by decide +kernel
theorem dR_lureAt_97 : decode (hr_cd 19) 97 = .ok (.ireturn, 1) := by decide +kernel
theorem dR_lureAt_98 : decode (hr_cd 19) 98 = .ok (.aload_n 0, 1) := by decide +kernel
theorem dR_lureAt_99 : decode (hr_cd 19) 99 = .ok (.getfield 21, 3) := by decide +kernel
theorem dR_lureAt_102 : decode (hr_cd 19) 102 = .ok (.ireturn, 1) := by decide +kernel
theorem dS_addRock_0 : decode (hr_cd 23) 0 = .ok (.aload_n 0, 1) := by decide +kernel
theorem dS_addRock_1 : decode (hr_cd 23) 1 = .ok (.invokevirtual 41, 3) := by decide +kernel
theorem dS_addRock_4 : decode (hr_cd 23) 4 = .ok (.ifCond .eq 5, 3) := by decide +kernel
theorem dS_addRock_7 : decode (hr_cd 23) 7 = .ok (.aconst_null, 1) := by decide +kernel
theorem dS_addRock_8 : decode (hr_cd 23) 8 = .ok (.areturn, 1) := by decide +kernel
theorem dS_addRock_9 : decode (hr_cd 23) 9 = .ok (.aload_n 0, 1) := by decide +kernel
theorem dS_addRock_10 : decode (hr_cd 23) 10 = .ok (.getfield 32, 3) := by decide +kernel
theorem dS_addRock_13 : decode (hr_cd 23) 13 = .ok (.aload_n 0, 1) := by decide +kernel
theorem dS_addRock_14 : decode (hr_cd 23) 14 = .ok (.getfield 27, 3) := by decide +kernel
theorem dS_addRock_17 : decode (hr_cd 23) 17 = .ok (.aaload, 1) := by decide +kernel
theorem dS_addRock_18 : decode (hr_cd 23) 18 = .ok (.astore_n 3, 1) := by decide +kernel
theorem dS_addRock_19 : decode (hr_cd 23) 19 = .ok (.aload_n 3, 1) := by decide +kernel
theorem dS_addRock_20 : decode (hr_cd 23) 20 = .ok (.iload_n 1, 1) := by decide +kernel
theorem dS_addRock_21 : decode (hr_cd 23) 21 = .ok (.iload_n 2, 1) := by decide +kernel
theorem dS_addRock_22 : decode (hr_cd 23) 22 = .ok (.invokevirtual 45, 3) := by decide +kernel
theorem dS_addRock_25 : decode (hr_cd 23) 25 = .ok (.aload_n 0, 1) := by decide +kernel
theorem dS_addRock_26 : decode (hr_cd 23) 26 = .ok (.dup, 1) := by decide +kernel
theorem dS_addRock_27 : decode (hr_cd 23) 27 = .ok (.getfield 27, 3) := by decide +kernel
theorem dS_addRock_30 : decode (hr_cd 23) 30 = .ok (.iconst 1, 1) := by decide +kernel
theorem dS_addRock_31 : decode (hr_cd 23) 31 = .ok (.iadd, 1) := by decide +kernel
theorem dS_addRock_32 : decode (hr_cd 23) 32 = .ok (.putfield 27, 3) := by decide +kernel
theorem dS_addRock_35 : decode (hr_cd 23) 35 = .ok (.aload_n 3, 1) := by decide +kernel
theorem dS_addRock_36 : decode (hr_cd 23) 36 = .ok (.areturn, 1) := by decide +kernel
theorem dS_isFull_0 : decode (hr_cd 24) 0 = .ok (.aload_n 0, 1) := by decide +kernel
theorem dS_isFull_1 : decode (hr_cd 24) 1 = .ok (.getfield 27, 3) := by decide +kernel
theorem dS_isFull_4 : decode (hr_cd 24) 4 = .ok (.bipush 8, 2) := by decide +kernel
theorem dS_isFull_6 : decode (hr_cd 24) 6 = .ok (.if_icmp .lt 7, 3) := by decide +kernel
theorem dS_isFull_9 : decode (hr_cd 24) 9 = .ok (.iconst 1, 1) := by decide +kernel
theorem dS_isFull_10 : decode (hr_cd 24) 10 = .ok (.goto 4, 3) := by decide +kernel
theorem dS_isFull_13 : decode (hr_cd 24) 13 = .ok (.iconst 0, 1) := by decide +kernel
theorem dS_isFull_14 : decode (hr_cd 24) 14 = .ok (.ireturn, 1) := by decide +kernel
theorem dR_reset_0 : decode (hr_cd 25) 0 = .ok (.aload_n 0, 1) := by decide +kernel
theorem dR_reset_1 : decode (hr_cd 25) 1 = .ok (.iload_n 1, 1) := by decide +kernel
theorem dR_reset_2 : decode (hr_cd 25) 2 = .ok (.putfield 9, 3) := by decide +kernel
theorem dR_reset_5 : decode (hr_cd 25) 5 = .ok (.aload_n 0, 1) := by decide +kernel
theorem dR_reset_6 : decode (hr_cd 25) 6 = .ok (.iload_n 2, 1) := by decide +kernel
theorem dR_reset_7 : decode (hr_cd 25) 7 = .ok (.putfield 15, 3) := by decide +kernel
theorem dR_reset_10 : decode (hr_cd 25) 10 = .ok (.aload_n 0, 1) := by decide +kernel
theorem dR_reset_11 : decode (hr_cd 25) 11 = .ok (.bipush 20, 2) := by decide +kernel
theorem dR_reset_13 : decode (hr_cd 25) 13 = .ok (.putfield 18, 3) := by decide +kernel
theorem dR_reset_16 : decode (hr_cd 25) 16 = .ok (.aload_n 0, 1) := by decide +kernel
theorem dR_reset_17 : decode (hr_cd 25) 17 = .ok (.iconst 5, 1) := by decide +kernel
theorem dR_reset_18 : decode (hr_cd 25) 18 = .ok (.putfield 21, 3) := by decide +kernel
theorem dR_reset_21 : decode (hr_cd 25) 21 = .ok (.aload_n 0, 1) := by decide +kernel
theorem dR_reset_22 : decode (hr_cd 25) 22 = .ok (.iconst 0, 1) := by decide +kernel
theorem dR_reset_23 : decode (hr_cd 25) 23 = .ok (.putfield 24, 3) := by decide +kernel
theorem dR_reset_26 : decode (hr_cd 25) 26 = .ok (.return_, 1) := by decide +kernel
theorem dR_wrecksIn_0 : decode (hr_cd 28) 0 = .ok (.aload_n 0, 1) := by decide +kernel
theorem dR_wrecksIn_1 : decode (hr_cd 28) 1 = .ok (.getfield 9, 3) := by decide +kernel
theorem dR_wrecksIn_4 : decode (hr_cd 28) 4 = .ok (.tableswitch 47 2 5 #[32, 45, 47, 32], 32) := by decide +kernel
theorem dR_wrecksIn_36 : decode (hr_cd 28) 36 = .ok (.iload_n 1, 1) := by decide +kernel
theorem dR_wrecksIn_37 : decode (hr_cd 28) 37 = .ok (.iconst 3, 1) := by decide +kernel
theorem dR_wrecksIn_38 : decode (hr_cd 28) 38 = .ok (.irem, 1) := by decide +kernel
theorem dR_wrecksIn_39 : decode (hr_cd 28) 39 = .ok (.iconst 2, 1) := by decide +kernel
theorem dR_wrecksIn_40 : decode (hr_cd 28) 40 = .ok (.if_icmp .eq 7, 3) := by decide +kernel
theorem dR_wrecksIn_43 : decode (hr_cd 28) 43 = .ok (.iconst 1, 1) := by decide +kernel
theorem dR_wrecksIn_44 : decode (hr_cd 28) 44 = .ok (.goto 4, 3) := by decide +kernel
theorem dR_wrecksIn_47 : decode (hr_cd 28) 47 = .ok (.iconst 0, 1) := by decide +kernel
theorem dR_wrecksIn_48 : decode (hr_cd 28) 48 = .ok (.ireturn, 1) := by decide +kernel
theorem dR_wrecksIn_49 : decode (hr_cd 28) 49 = .ok (.iconst 0, 1) := by decide +kernel
theorem dR_wrecksIn_50 : decode (hr_cd 28) 50 = .ok (.ireturn, 1) := by decide +kernel
theorem dR_wrecksIn_51 : decode (hr_cd 28) 51 = .ok (.iconst 1, 1) := by decide +kernel
theorem dR_wrecksIn_52 : decode (hr_cd 28) 52 = .ok (.ireturn, 1) := by decide +kernel
theorem dR_change_0 : decode (hr_cd 30) 0 = .ok (.iload_n 1, 1) := by decide +kernel
theorem dR_change_1 : decode (hr_cd 30) 1 = .ok (.tableswitch 67 1 4 #[31, 43, 55, 67], 31) := by decide +kernel
theorem dR_change_32 : decode (hr_cd 30) 32 = .ok (.aload_n 0, 1) := by decide +kernel
theorem dR_change_33 : decode (hr_cd 30) 33 = .ok (.getfield 15, 3) := by decide +kernel
theorem dR_change_36 : decode (hr_cd 30) 36 = .ok (.istore_n 3, 1) := by decide +kernel
theorem dR_change_37 : decode (hr_cd 30) 37 = .ok (.aload_n 0, 1) := by decide +kernel
theorem dR_change_38 : decode (hr_cd 30) 38 = .ok (.iload_n 2, 1) := by decide +kernel
theorem dR_change_39 : decode (hr_cd 30) 39 = .ok (.putfield 15, 3) := by decide +kernel
theorem dR_change_42 : decode (hr_cd 30) 42 = .ok (.iload_n 3, 1) := by decide +kernel
theorem dR_change_43 : decode (hr_cd 30) 43 = .ok (.ireturn, 1) := by decide +kernel
theorem dR_change_44 : decode (hr_cd 30) 44 = .ok (.aload_n 0, 1) := by decide +kernel
theorem dR_change_45 : decode (hr_cd 30) 45 = .ok (.getfield 18, 3) := by decide +kernel
theorem dR_change_48 : decode (hr_cd 30) 48 = .ok (.istore_n 3, 1) := by decide +kernel
theorem dR_change_49 : decode (hr_cd 30) 49 = .ok (.aload_n 0, 1) := by decide +kernel
theorem dR_change_50 : decode (hr_cd 30) 50 = .ok (.iload_n 2, 1) := by decide +kernel
theorem dR_change_51 : decode (hr_cd 30) 51 = .ok (.putfield 18, 3) := by decide +kernel
theorem dR_change_54 : decode (hr_cd 30) 54 = .ok (.iload_n 3, 1) := by decide +kernel
theorem dR_change_55 : decode (hr_cd 30) 55 = .ok (.ireturn, 1) := by decide +kernel
theorem dR_change_56 : decode (hr_cd 30) 56 = .ok (.aload_n 0, 1) := by decide +kernel
theorem dR_change_57 : decode (hr_cd 30) 57 = .ok (.getfield 21, 3) := by decide +kernel
theorem dR_change_60 : decode (hr_cd 30) 60 = .ok (.istore_n 3, 1) := by decide +kernel
theorem dR_change_61 : decode (hr_cd 30) 61 = .ok (.aload_n 0, 1) := by decide +kernel
theorem dR_change_62 : decode (hr_cd 30) 62 = .ok (.iload_n 2, 1) := by decide +kernel
theorem dR_change_63 : decode (hr_cd 30) 63 = .ok (.putfield 21, 3) := by decide +kernel
theorem dR_change_66 : decode (hr_cd 30) 66 = .ok (.iload_n 3, 1) := by decide +kernel
theorem dR_change_67 : decode (hr_cd 30) 67 = .ok (.ireturn, 1) := by decide +kernel
theorem dR_change_68 : decode (hr_cd 30) 68 = .ok (.aload_n 0, 1) := by decide +kernel
theorem dR_change_69 : decode (hr_cd 30) 69 = .ok (.getfield 24, 3) := by decide +kernel
theorem dR_change_72 : decode (hr_cd 30) 72 = .ok (.istore_n 3, 1) := by decide +kernel
theorem dR_change_73 : decode (hr_cd 30) 73 = .ok (.aload_n 0, 1) := by decide +kernel
theorem dR_change_74 : decode (hr_cd 30) 74 = .ok (.iload_n 2, 1) := by decide +kernel
theorem dR_change_75 : decode (hr_cd 30) 75 = .ok (.putfield 24, 3) := by decide +kernel
theorem dR_change_78 : decode (hr_cd 30) 78 = .ok (.iload_n 3, 1) := by decide +kernel
theorem dR_change_79 : decode (hr_cd 30) 79 = .ok (.ireturn, 1) := by decide +kernel
theorem dR_isOfKind_0 : decode (hr_cd 33) 0 = .ok (.aload_n 0, 1) := by decide +kernel
theorem dR_isOfKind_1 : decode (hr_cd 33) 1 = .ok (.getfield 9, 3) := by decide +kernel
theorem dR_isOfKind_4 : decode (hr_cd 33) 4 = .ok (.istore_n 2, 1) := by decide +kernel
theorem dR_isOfKind_5 : decode (hr_cd 33) 5 = .ok (.iconst 0, 1) := by decide +kernel
theorem dR_isOfKind_6 : decode (hr_cd 33) 6 = .ok (.istore_n 3, 1) := by decide +kernel
theorem dR_isOfKind_7 : decode (hr_cd 33) 7 = .ok (.iload_n 3, 1) := by decide +kernel
theorem dR_isOfKind_8 : decode (hr_cd 33) 8 = .ok (.bipush 6, 2) := by decide +kernel
theorem dR_isOfKind_10 : decode (hr_cd 33) 10 = .ok (.if_icmp .ge 32, 3) := by decide +kernel
theorem dR_isOfKind_13 : decode (hr_cd 33) 13 = .ok (.iload_n 2, 1) := by decide +kernel
theorem dR_isOfKind_14 : decode (hr_cd 33) 14 = .ok (.ifCond .lt 28, 3) := by decide +kernel
theorem dR_isOfKind_17 : decode (hr_cd 33) 17 = .ok (.iload_n 2, 1) := by decide +kernel
theorem dR_isOfKind_18 : decode (hr_cd 33) 18 = .ok (.bipush 6, 2) := by decide +kernel
theorem dR_isOfKind_20 : decode (hr_cd 33) 20 = .ok (.if_icmp .ge 22, 3) := by decide +kernel
theorem dR_isOfKind_23 : decode (hr_cd 33) 23 = .ok (.iload_n 2, 1) := by decide +kernel
theorem dR_isOfKind_24 : decode (hr_cd 33) 24 = .ok (.iload_n 1, 1) := by decide +kernel
theorem dR_isOfKind_25 : decode (hr_cd 33) 25 = .ok (.if_icmp .ne 5, 3) := by decide +kernel
theorem dR_isOfKind_28 : decode (hr_cd 33) 28 = .ok (.iconst 1, 1) := by decide +kernel
theorem dR_isOfKind_29 : decode (hr_cd 33) 29 = .ok (.ireturn, 1) := by decide +kernel
theorem dR_isOfKind_30 : decode (hr_cd 33) 30 = .ok (.getstatic 27, 3) := by decide +kernel
theorem dR_isOfKind_33 : decode (hr_cd 33) 33 = .ok (.iload_n 2, 1) := by decide +kernel
theorem dR_isOfKind_34 : decode (hr_cd 33) 34 = .ok (.iaload, 1) := by decide +kernel
theorem dR_isOfKind_35 : decode (hr_cd 33) 35 = .ok (.istore_n 2, 1) := by decide +kernel
theorem dR_isOfKind_36 : decode (hr_cd 33) 36 = .ok (.iinc 3 1, 3) := by decide +kernel
theorem dR_isOfKind_39 : decode (hr_cd 33) 39 = .ok (.goto (-32), 3) := by decide +kernel
theorem dR_isOfKind_42 : decode (hr_cd 33) 42 = .ok (.iconst 0, 1) := by decide +kernel
theorem dR_isOfKind_43 : decode (hr_cd 33) 43 = .ok (.ireturn, 1) := by decide +kernel
theorem dS_loudestAt_0 : decode (hr_cd 36) 0 = .ok (.ldc 53, 2) := by decide +kernel
theorem dS_loudestAt_2 : decode (hr_cd 36) 2 = .ok (.istore_n 2, 1) := by decide +kernel
theorem dS_loudestAt_3 : decode (hr_cd 36) 3 = .ok (.iconst (-1), 1) := by decide +kernel
theorem dS_loudestAt_4 : decode (hr_cd 36) 4 = .ok (.istore_n 3, 1) := by decide +kernel
theorem dS_loudestAt_5 : decode (hr_cd 36) 5 = .ok (.iconst 0, 1) := by decide +kernel
theorem dS_loudestAt_6 : decode (hr_cd 36) 6 = .ok (.istore 4, 2) := by decide +kernel
theorem dS_loudestAt_8 : decode (hr_cd 36) 8 = .ok (.iload 4, 2) := by decide +kernel
theorem dS_loudestAt_10 : decode (hr_cd 36) 10 = .ok (.aload_n 0, 1) := by decide +kernel
theorem dS_loudestAt_11 : decode (hr_cd 36) 11 = .ok (.getfield 27, 3) := by decide +kernel
theorem dS_loudestAt_14 : decode (hr_cd 36) 14 = .ok (.if_icmp .ge 38, 3) := by decide +kernel
theorem dS_loudestAt_17 : decode (hr_cd 36) 17 = .ok (.aload_n 0, 1) := by decide +kernel
theorem dS_loudestAt_18 : decode (hr_cd 36) 18 = .ok (.getfield 32, 3) := by decide +kernel
theorem dS_loudestAt_21 : decode (hr_cd 36) 21 = .ok (.iload 4, 2) := by decide +kernel
theorem dS_loudestAt_23 : decode (hr_cd 36) 23 = .ok (.aaload, 1) := by decide +kernel
theorem dS_loudestAt_24 : decode (hr_cd 36) 24 = .ok (.iload_n 1, 1) := by decide +kernel
theorem dS_loudestAt_25 : decode (hr_cd 36) 25 = .ok (.aload_n 0, 1) := by decide +kernel
theorem dS_loudestAt_26 : decode (hr_cd 36) 26 = .ok (.getfield 9, 3) := by decide +kernel
theorem dS_loudestAt_29 : decode (hr_cd 36) 29 = .ok (.invokevirtual 54, 3) := by decide +kernel
theorem dS_loudestAt_32 : decode (hr_cd 36) 32 = .ok (.istore 5, 2) := by decide +kernel
theorem dS_loudestAt_34 : decode (hr_cd 36) 34 = .ok (.iload 5, 2) := by decide +kernel
theorem dS_loudestAt_36 : decode (hr_cd 36) 36 = .ok (.iload_n 3, 1) := by decide +kernel
theorem dS_loudestAt_37 : decode (hr_cd 36) 37 = .ok (.if_icmp .le 9, 3) := by decide +kernel
theorem dS_loudestAt_40 : decode (hr_cd 36) 40 = .ok (.iload 5, 2) := by decide +kernel
theorem dS_loudestAt_42 : decode (hr_cd 36) 42 = .ok (.istore_n 3, 1) := by decide +kernel
theorem dS_loudestAt_43 : decode (hr_cd 36) 43 = .ok (.iload 4, 2) := by decide +kernel
theorem dS_loudestAt_45 : decode (hr_cd 36) 45 = .ok (.istore_n 2, 1) := by decide +kernel
theorem dS_loudestAt_46 : decode (hr_cd 36) 46 = .ok (.iinc 4 1, 3) := by decide +kernel
theorem dS_loudestAt_49 : decode (hr_cd 36) 49 = .ok (.goto (-41), 3) := by decide +kernel
theorem dS_loudestAt_52 : decode (hr_cd 36) 52 = .ok (.iload_n 2, 1) := by decide +kernel
theorem dS_loudestAt_53 : decode (hr_cd 36) 53 = .ok (.ireturn, 1) := by decide +kernel
theorem dS_goWatches_0 : decode (hr_cd 39) 0 = .ok (.iconst 0, 1) := by decide +kernel
theorem dS_goWatches_1 : decode (hr_cd 39) 1 = .ok (.istore_n 2, 1) := by decide +kernel
theorem dS_goWatches_2 : decode (hr_cd 39) 2 = .ok (.iload_n 2, 1) := by decide +kernel
theorem dS_goWatches_3 : decode (hr_cd 39) 3 = .ok (.iload_n 1, 1) := by decide +kernel
theorem dS_goWatches_4 : decode (hr_cd 39) 4 = .ok (.if_icmp .ge 13, 3) := by decide +kernel
theorem dS_goWatches_7 : decode (hr_cd 39) 7 = .ok (.aload_n 0, 1) := by decide +kernel
theorem dS_goWatches_8 : decode (hr_cd 39) 8 = .ok (.invokevirtual 66, 3) := by decide +kernel
theorem dS_goWatches_11 : decode (hr_cd 39) 11 = .ok (.iinc 2 1, 3) := by decide +kernel
theorem dS_goWatches_14 : decode (hr_cd 39) 14 = .ok (.goto (-12), 3) := by decide +kernel
theorem dS_goWatches_17 : decode (hr_cd 39) 17 = .ok (.return_, 1) := by decide +kernel
theorem dS_goOneWatch_0 : decode (hr_cd 40) 0 = .ok (.aload_n 0, 1) := by decide +kernel
theorem dS_goOneWatch_1 : decode (hr_cd 40) 1 = .ok (.getfield 24, 3) := by decide +kernel
theorem dS_goOneWatch_4 : decode (hr_cd 40) 4 = .ok (.ifCond .ne 65, 3) := by decide +kernel
theorem dS_goOneWatch_7 : decode (hr_cd 40) 7 = .ok (.aload_n 0, 1) := by decide +kernel
theorem dS_goOneWatch_8 : decode (hr_cd 40) 8 = .ok (.invokevirtual 69, 3) := by decide +kernel
theorem dS_goOneWatch_11 : decode (hr_cd 40) 11 = .ok (.istore_n 1, 1) := by decide +kernel
theorem dS_goOneWatch_12 : decode (hr_cd 40) 12 = .ok (.aload_n 0, 1) := by decide +kernel
theorem dS_goOneWatch_13 : decode (hr_cd 40) 13 = .ok (.iload_n 1, 1) := by decide +kernel
theorem dS_goOneWatch_14 : decode (hr_cd 40) 14 = .ok (.ifCond .ge 10, 3) := by decide +kernel
theorem dS_goOneWatch_17 : decode (hr_cd 40) 17 = .ok (.aload_n 0, 1) := by decide +kernel
theorem dS_goOneWatch_18 : decode (hr_cd 40) 18 = .ok (.invokevirtual 73, 3) := by decide +kernel
theorem dS_goOneWatch_21 : decode (hr_cd 40) 21 = .ok (.goto 16, 3) := by decide +kernel
theorem dS_goOneWatch_24 : decode (hr_cd 40) 24 = .ok (.aload_n 0, 1) := by decide +kernel
theorem dS_goOneWatch_25 : decode (hr_cd 40) 25 = .ok (.aload_n 0, 1) := by decide +kernel
theorem dS_goOneWatch_26 : decode (hr_cd 40) 26 = .ok (.getfield 32, 3) := by decide +kernel
theorem dS_goOneWatch_29 : decode (hr_cd 40) 29 = .ok (.iload_n 1, 1) := by decide +kernel
theorem dS_goOneWatch_30 : decode (hr_cd 40) 30 = .ok (.aaload, 1) := by decide +kernel
theorem dS_goOneWatch_31 : decode (hr_cd 40) 31 = .ok (.getfield 76, 3) := by decide +kernel
theorem dS_goOneWatch_34 : decode (hr_cd 40) 34 = .ok (.invokevirtual 77, 3) := by decide +kernel
theorem dS_goOneWatch_37 : decode (hr_cd 40) 37 = .ok (.putfield 15, 3) := by decide +kernel
theorem dS_goOneWatch_40 : decode (hr_cd 40) 40 = .ok (.aload_n 0, 1) := by decide +kernel
theorem dS_goOneWatch_41 : decode (hr_cd 40) 41 = .ok (.invokevirtual 80, 3) := by decide +kernel
theorem dS_goOneWatch_44 : decode (hr_cd 40) 44 = .ok (.ifCond .eq 11, 3) := by decide +kernel
theorem dS_goOneWatch_47 : decode (hr_cd 40) 47 = .ok (.aload_n 0, 1) := by decide +kernel
theorem dS_goOneWatch_48 : decode (hr_cd 40) 48 = .ok (.iconst 1, 1) := by decide +kernel
theorem dS_goOneWatch_49 : decode (hr_cd 40) 49 = .ok (.putfield 24, 3) := by decide +kernel
theorem dS_goOneWatch_52 : decode (hr_cd 40) 52 = .ok (.goto 17, 3) := by decide +kernel
theorem dS_goOneWatch_55 : decode (hr_cd 40) 55 = .ok (.aload_n 0, 1) := by decide +kernel
theorem dS_goOneWatch_56 : decode (hr_cd 40) 56 = .ok (.getfield 15, 3) := by decide +kernel
theorem dS_goOneWatch_59 : decode (hr_cd 40) 59 = .ok (.bipush 63, 2) := by decide +kernel
theorem dS_goOneWatch_61 : decode (hr_cd 40) 61 = .ok (.if_icmp .ne 8, 3) := by decide +kernel
theorem dS_goOneWatch_64 : decode (hr_cd 40) 64 = .ok (.aload_n 0, 1) := by decide +kernel
theorem dS_goOneWatch_65 : decode (hr_cd 40) 65 = .ok (.iconst 2, 1) := by decide +kernel
theorem dS_goOneWatch_66 : decode (hr_cd 40) 66 = .ok (.putfield 24, 3) := by decide +kernel
theorem dS_goOneWatch_69 : decode (hr_cd 40) 69 = .ok (.aload_n 0, 1) := by decide +kernel
theorem dS_goOneWatch_70 : decode (hr_cd 40) 70 = .ok (.getfield 9, 3) := by decide +kernel
theorem dS_goOneWatch_73 : decode (hr_cd 40) 73 = .ok (.bipush 6, 2) := by decide +kernel
theorem dS_goOneWatch_75 : decode (hr_cd 40) 75 = .ok (.irem, 1) := by decide +kernel
theorem dS_goOneWatch_76 : decode (hr_cd 40) 76 = .ok (.iconst 5, 1) := by decide +kernel
theorem dS_goOneWatch_77 : decode (hr_cd 40) 77 = .ok (.if_icmp .ne 7, 3) := by decide +kernel
theorem dS_goOneWatch_80 : decode (hr_cd 40) 80 = .ok (.aload_n 0, 1) := by decide +kernel
theorem dS_goOneWatch_81 : decode (hr_cd 40) 81 = .ok (.invokevirtual 83, 3) := by decide +kernel
theorem dS_goOneWatch_84 : decode (hr_cd 40) 84 = .ok (.aload_n 0, 1) := by decide +kernel
theorem dS_goOneWatch_85 : decode (hr_cd 40) 85 = .ok (.dup, 1) := by decide +kernel
theorem dS_goOneWatch_86 : decode (hr_cd 40) 86 = .ok (.getfield 9, 3) := by decide +kernel
theorem dS_goOneWatch_89 : decode (hr_cd 40) 89 = .ok (.iconst 1, 1) := by decide +kernel
theorem dS_goOneWatch_90 : decode (hr_cd 40) 90 = .ok (.iadd, 1) := by decide +kernel
theorem dS_goOneWatch_91 : decode (hr_cd 40) 91 = .ok (.putfield 9, 3) := by decide +kernel
theorem dS_goOneWatch_94 : decode (hr_cd 40) 94 = .ok (.return_, 1) := by decide +kernel
theorem dS_squareAhead_0 : decode (hr_cd 41) 0 = .ok (.aload_n 0, 1) := by decide +kernel
theorem dS_squareAhead_1 : decode (hr_cd 41) 1 = .ok (.getfield 15, 3) := by decide +kernel
theorem dS_squareAhead_4 : decode (hr_cd 41) 4 = .ok (.bipush 8, 2) := by decide +kernel
theorem dS_squareAhead_6 : decode (hr_cd 41) 6 = .ok (.irem, 1) := by decide +kernel
theorem dS_squareAhead_7 : decode (hr_cd 41) 7 = .ok (.bipush 7, 2) := by decide +kernel
theorem dS_squareAhead_9 : decode (hr_cd 41) 9 = .ok (.if_icmp .ge 10, 3) := by decide +kernel
theorem dS_squareAhead_12 : decode (hr_cd 41) 12 = .ok (.aload_n 0, 1) := by decide +kernel
theorem dS_squareAhead_13 : decode (hr_cd 41) 13 = .ok (.getfield 15, 3) := by decide +kernel
theorem dS_squareAhead_16 : decode (hr_cd 41) 16 = .ok (.iconst 1, 1) := by decide +kernel
theorem dS_squareAhead_17 : decode (hr_cd 41) 17 = .ok (.iadd, 1) := by decide +kernel
theorem dS_squareAhead_18 : decode (hr_cd 41) 18 = .ok (.ireturn, 1) := by decide +kernel
theorem dS_squareAhead_19 : decode (hr_cd 41) 19 = .ok (.aload_n 0, 1) := by decide +kernel
theorem dS_squareAhead_20 : decode (hr_cd 41) 20 = .ok (.getfield 15, 3) := by decide +kernel
theorem dS_squareAhead_23 : decode (hr_cd 41) 23 = .ok (.bipush 63, 2) := by decide +kernel
theorem dS_squareAhead_25 : decode (hr_cd 41) 25 = .ok (.if_icmp .ge 13, 3) := by decide +kernel
theorem dS_squareAhead_28 : decode (hr_cd 41) 28 = .ok (.aload_n 0, 1) := by decide +kernel
theorem dS_squareAhead_29 : decode (hr_cd 41) 29 = .ok (.getfield 15, 3) := by decide +kernel
theorem dS_squareAhead_32 : decode (hr_cd 41) 32 = .ok (.bipush 8, 2) := by decide +kernel
theorem dS_squareAhead_34 : decode (hr_cd 41) 34 = .ok (.iadd, 1) := by decide +kernel
theorem dS_squareAhead_35 : decode (hr_cd 41) 35 = .ok (.goto 7, 3) := by decide +kernel
theorem dS_squareAhead_38 : decode (hr_cd 41) 38 = .ok (.aload_n 0, 1) := by decide +kernel
theorem dS_squareAhead_39 : decode (hr_cd 41) 39 = .ok (.getfield 15, 3) := by decide +kernel
theorem dS_squareAhead_42 : decode (hr_cd 41) 42 = .ok (.ireturn, 1) := by decide +kernel
theorem dS_squareBy_0 : decode (hr_cd 42) 0 = .ok (.aload_n 0, 1) := by decide +kernel
theorem dS_squareBy_1 : decode (hr_cd 42) 1 = .ok (.getfield 15, 3) := by decide +kernel
theorem dS_squareBy_4 : decode (hr_cd 42) 4 = .ok (.istore_n 2, 1) := by decide +kernel
theorem dS_squareBy_5 : decode (hr_cd 42) 5 = .ok (.ldc 86, 2) := by decide +kernel
theorem dS_squareBy_7 : decode (hr_cd 42) 7 = .ok (.istore_n 3, 1) := by decide +kernel
theorem dS_squareBy_8 : decode (hr_cd 42) 8 = .ok (.iconst 0, 1) := by decide +kernel
theorem dS_squareBy_9 : decode (hr_cd 42) 9 = .ok (.istore 4, 2) := by decide +kernel
theorem dS_squareBy_11 : decode (hr_cd 42) 11 = .ok (.iload 4, 2) := by decide +kernel
theorem dS_squareBy_13 : decode (hr_cd 42) 13 = .ok (.iconst 4, 1) := by decide +kernel
theorem dS_squareBy_14 : decode (hr_cd 42) 14 = .ok (.if_icmp .ge 59, 3) := by decide +kernel
theorem dS_squareBy_17 : decode (hr_cd 42) 17 = .ok (.aload_n 0, 1) := by decide +kernel
theorem dS_squareBy_18 : decode (hr_cd 42) 18 = .ok (.iload 4, 2) := by decide +kernel
theorem dS_squareBy_20 : decode (hr_cd 42) 20 = .ok (.invokevirtual 87, 3) := by decide +kernel
theorem dS_squareBy_23 : decode (hr_cd 42) 23 = .ok (.istore 5, 2) := by decide +kernel
theorem dS_squareBy_25 : decode (hr_cd 42) 25 = .ok (.iload 5, 2) := by decide +kernel
theorem dS_squareBy_27 : decode (hr_cd 42) 27 = .ok (.ifCond .lt 40, 3) := by decide +kernel
theorem dS_squareBy_30 : decode (hr_cd 42) 30 = .ok (.iload 5, 2) := by decide +kernel
theorem dS_squareBy_32 : decode (hr_cd 42) 32 = .ok (.iload_n 1, 1) := by decide +kernel
theorem dS_squareBy_33 : decode (hr_cd 42) 33 = .ok (.invokestatic 90, 3) := by decide +kernel
theorem dS_squareBy_36 : decode (hr_cd 42) 36 = .ok (.istore 6, 2) := by decide +kernel
theorem dS_squareBy_38 : decode (hr_cd 42) 38 = .ok (.aload_n 0, 1) := by decide +kernel
theorem dS_squareBy_39 : decode (hr_cd 42) 39 = .ok (.getfield 21, 3) := by decide +kernel
theorem dS_squareBy_42 : decode (hr_cd 42) 42 = .ok (.ifCond .ne 8, 3) := by decide +kernel
theorem dS_squareBy_45 : decode (hr_cd 42) 45 = .ok (.iload 6, 2) := by decide +kernel
theorem dS_squareBy_47 : decode (hr_cd 42) 47 = .ok (.goto 6, 3) := by decide +kernel
theorem dS_squareBy_50 : decode (hr_cd 42) 50 = .ok (.iload 6, 2) := by decide +kernel
theorem dS_squareBy_52 : decode (hr_cd 42) 52 = .ok (.ineg, 1) := by decide +kernel
theorem dS_squareBy_53 : decode (hr_cd 42) 53 = .ok (.istore 7, 2) := by decide +kernel
theorem dS_squareBy_55 : decode (hr_cd 42) 55 = .ok (.iload 7, 2) := by decide +kernel
theorem dS_squareBy_57 : decode (hr_cd 42) 57 = .ok (.iload_n 3, 1) := by decide +kernel
theorem dS_squareBy_58 : decode (hr_cd 42) 58 = .ok (.if_icmp .le 9, 3) := by decide +kernel
theorem dS_squareBy_61 : decode (hr_cd 42) 61 = .ok (.iload 7, 2) := by decide +kernel
theorem dS_squareBy_63 : decode (hr_cd 42) 63 = .ok (.istore_n 3, 1) := by decide +kernel
theorem dS_squareBy_64 : decode (hr_cd 42) 64 = .ok (.iload 5, 2) := by decide +kernel
theorem dS_squareBy_66 : decode (hr_cd 42) 66 = .ok (.istore_n 2, 1) := by decide +kernel
theorem dS_squareBy_67 : decode (hr_cd 42) 67 = .ok (.iinc 4 1, 3) := by decide +kernel
theorem dS_squareBy_70 : decode (hr_cd 42) 70 = .ok (.goto (-59), 3) := by decide +kernel
theorem dS_squareBy_73 : decode (hr_cd 42) 73 = .ok (.iload_n 2, 1) := by decide +kernel
theorem dS_squareBy_74 : decode (hr_cd 42) 74 = .ok (.ireturn, 1) := by decide +kernel
theorem dS_neighbour_0 : decode (hr_cd 43) 0 = .ok (.aload_n 0, 1) := by decide +kernel
theorem dS_neighbour_1 : decode (hr_cd 43) 1 = .ok (.getfield 15, 3) := by decide +kernel
theorem dS_neighbour_4 : decode (hr_cd 43) 4 = .ok (.bipush 8, 2) := by decide +kernel
theorem dS_neighbour_6 : decode (hr_cd 43) 6 = .ok (.idiv, 1) := by decide +kernel
theorem dS_neighbour_7 : decode (hr_cd 43) 7 = .ok (.istore_n 2, 1) := by decide +kernel
theorem dS_neighbour_8 : decode (hr_cd 43) 8 = .ok (.aload_n 0, 1) := by decide +kernel
theorem dS_neighbour_9 : decode (hr_cd 43) 9 = .ok (.getfield 15, 3) := by decide +kernel
theorem dS_neighbour_12 : decode (hr_cd 43) 12 = .ok (.bipush 8, 2) := by decide +kernel
theorem dS_neighbour_14 : decode (hr_cd 43) 14 = .ok (.irem, 1) := by decide +kernel
theorem dS_neighbour_15 : decode (hr_cd 43) 15 = .ok (.istore_n 3, 1) := by decide +kernel
theorem dS_neighbour_16 : decode (hr_cd 43) 16 = .ok (.iload_n 1, 1) := by decide +kernel
theorem dS_neighbour_17 : decode (hr_cd 43) 17 = .ok (.tableswitch 78 0 2 #[27, 43, 60], 27) := by decide +kernel
theorem dS_neighbour_44 : decode (hr_cd 43) 44 = .ok (.iload_n 2, 1) := by decide +kernel
theorem dS_neighbour_45 : decode (hr_cd 43) 45 = .ok (.ifCond .le 13, 3) := by decide +kernel
theorem dS_neighbour_48 : decode (hr_cd 43) 48 = .ok (.aload_n 0, 1) := by decide +kernel
theorem dS_neighbour_49 : decode (hr_cd 43) 49 = .ok (.getfield 15, 3) := by decide +kernel
theorem dS_neighbour_52 : decode (hr_cd 43) 52 = .ok (.bipush 8, 2) := by decide +kernel
theorem dS_neighbour_54 : decode (hr_cd 43) 54 = .ok (.isub, 1) := by decide +kernel
theorem dS_neighbour_55 : decode (hr_cd 43) 55 = .ok (.goto 4, 3) := by decide +kernel
theorem dS_neighbour_58 : decode (hr_cd 43) 58 = .ok (.iconst (-1), 1) := by decide +kernel
theorem dS_neighbour_59 : decode (hr_cd 43) 59 = .ok (.ireturn, 1) := by decide +kernel
theorem dS_neighbour_60 : decode (hr_cd 43) 60 = .ok (.iload_n 3, 1) := by decide +kernel
theorem dS_neighbour_61 : decode (hr_cd 43) 61 = .ok (.bipush 7, 2) := by decide +kernel
theorem dS_neighbour_63 : decode (hr_cd 43) 63 = .ok (.if_icmp .ge 12, 3) := by decide +kernel
theorem dS_neighbour_66 : decode (hr_cd 43) 66 = .ok (.aload_n 0, 1) := by decide +kernel
theorem dS_neighbour_67 : decode (hr_cd 43) 67 = .ok (.getfield 15, 3) := by decide +kernel
theorem dS_neighbour_70 : decode (hr_cd 43) 70 = .ok (.iconst 1, 1) := by decide +kernel
theorem dS_neighbour_71 : decode (hr_cd 43) 71 = .ok (.iadd, 1) := by decide +kernel
theorem dS_neighbour_72 : decode (hr_cd 43) 72 = .ok (.goto 4, 3) := by decide +kernel
theorem dS_neighbour_75 : decode (hr_cd 43) 75 = .ok (.iconst (-1), 1) := by decide +kernel
theorem dS_neighbour_76 : decode (hr_cd 43) 76 = .ok (.ireturn, 1) := by decide +kernel
theorem dS_neighbour_77 : decode (hr_cd 43) 77 = .ok (.iload_n 2, 1) := by decide +kernel
theorem dS_neighbour_78 : decode (hr_cd 43) 78 = .ok (.bipush 7, 2) := by decide +kernel
theorem dS_neighbour_80 : decode (hr_cd 43) 80 = .ok (.if_icmp .ge 13, 3) := by decide +kernel
theorem dS_neighbour_83 : decode (hr_cd 43) 83 = .ok (.aload_n 0, 1) := by decide +kernel
theorem dS_neighbour_84 : decode (hr_cd 43) 84 = .ok (.getfield 15, 3) := by decide +kernel
theorem dS_neighbour_87 : decode (hr_cd 43) 87 = .ok (.bipush 8, 2) := by decide +kernel
theorem dS_neighbour_89 : decode (hr_cd 43) 89 = .ok (.iadd, 1) := by decide +kernel
theorem dS_neighbour_90 : decode (hr_cd 43) 90 = .ok (.goto 4, 3) := by decide +kernel
theorem dS_neighbour_93 : decode (hr_cd 43) 93 = .ok (.iconst (-1), 1) := by decide +kernel
theorem dS_neighbour_94 : decode (hr_cd 43) 94 = .ok (.ireturn, 1) := by decide +kernel
theorem dS_neighbour_95 : decode (hr_cd 43) 95 = .ok (.iload_n 3, 1) := by decide +kernel
theorem dS_neighbour_96 : decode (hr_cd 43) 96 = .ok (.ifCond .le 12, 3) := by decide +kernel
theorem dS_neighbour_99 : decode (hr_cd 43) 99 = .ok (.aload_n 0, 1) := by decide +kernel
theorem dS_neighbour_100 : decode (hr_cd 43) 100 = .ok (.getfield 15, 3) := by decide +kernel
theorem dS_neighbour_103 : decode (hr_cd 43) 103 = .ok (.iconst 1, 1) := by decide +kernel
theorem dS_neighbour_104 : decode (hr_cd 43) 104 = .ok (.isub, 1) := by decide +kernel
theorem dS_neighbour_105 : decode (hr_cd 43) 105 = .ok (.goto 4, 3) := by decide +kernel
theorem dS_neighbour_108 : decode (hr_cd 43) 108 = .ok (.iconst (-1), 1) := by decide +kernel
theorem dS_neighbour_109 : decode (hr_cd 43) 109 = .ok (.ireturn, 1) := by decide +kernel
theorem dS_isWreckedHere_0 : decode (hr_cd 44) 0 = .ok (.iconst 0, 1) := by decide +kernel
theorem dS_isWreckedHere_1 : decode (hr_cd 44) 1 = .ok (.istore_n 1, 1) := by decide +kernel
theorem dS_isWreckedHere_2 : decode (hr_cd 44) 2 = .ok (.iload_n 1, 1) := by decide +kernel
theorem dS_isWreckedHere_3 : decode (hr_cd 44) 3 = .ok (.aload_n 0, 1) := by decide +kernel
theorem dS_isWreckedHere_4 : decode (hr_cd 44) 4 = .ok (.getfield 27, 3) := by decide +kernel
theorem dS_isWreckedHere_7 : decode (hr_cd 44) 7 = .ok (.if_icmp .ge 43, 3) := by decide +kernel
theorem dS_isWreckedHere_10 : decode (hr_cd 44) 10 = .ok (.aload_n 0, 1) := by decide +kernel
theorem dS_isWreckedHere_11 : decode (hr_cd 44) 11 = .ok (.getfield 32, 3) := by decide +kernel
theorem dS_isWreckedHere_14 : decode (hr_cd 44) 14 = .ok (.iload_n 1, 1) := by decide +kernel
theorem dS_isWreckedHere_15 : decode (hr_cd 44) 15 = .ok (.aaload, 1) := by decide +kernel
theorem dS_isWreckedHere_16 : decode (hr_cd 44) 16 = .ok (.getfield 76, 3) := by decide +kernel
theorem dS_isWreckedHere_19 : decode (hr_cd 44) 19 = .ok (.aload_n 0, 1) := by decide +kernel
theorem dS_isWreckedHere_20 : decode (hr_cd 44) 20 = .ok (.getfield 15, 3) := by decide +kernel
theorem dS_isWreckedHere_23 : decode (hr_cd 44) 23 = .ok (.if_icmp .ne 21, 3) := by decide +kernel
theorem dS_isWreckedHere_26 : decode (hr_cd 44) 26 = .ok (.aload_n 0, 1) := by decide +kernel
theorem dS_isWreckedHere_27 : decode (hr_cd 44) 27 = .ok (.getfield 32, 3) := by decide +kernel
theorem dS_isWreckedHere_30 : decode (hr_cd 44) 30 = .ok (.iload_n 1, 1) := by decide +kernel
theorem dS_isWreckedHere_31 : decode (hr_cd 44) 31 = .ok (.aaload, 1) := by decide +kernel
theorem dS_isWreckedHere_32 : decode (hr_cd 44) 32 = .ok (.aload_n 0, 1) := by decide +kernel
theorem dS_isWreckedHere_33 : decode (hr_cd 44) 33 = .ok (.getfield 9, 3) := by decide +kernel
theorem dS_isWreckedHere_36 : decode (hr_cd 44) 36 = .ok (.invokevirtual 93, 3) := by decide +kernel
theorem dS_isWreckedHere_39 : decode (hr_cd 44) 39 = .ok (.ifCond .eq 5, 3) := by decide +kernel
theorem dS_isWreckedHere_42 : decode (hr_cd 44) 42 = .ok (.iconst 1, 1) := by decide +kernel
theorem dS_isWreckedHere_43 : decode (hr_cd 44) 43 = .ok (.ireturn, 1) := by decide +kernel
theorem dS_isWreckedHere_44 : decode (hr_cd 44) 44 = .ok (.iinc 1 1, 3) := by decide +kernel
theorem dS_isWreckedHere_47 : decode (hr_cd 44) 47 = .ok (.goto (-45), 3) := by decide +kernel
theorem dS_isWreckedHere_50 : decode (hr_cd 44) 50 = .ok (.iconst 0, 1) := by decide +kernel
theorem dS_isWreckedHere_51 : decode (hr_cd 44) 51 = .ok (.ireturn, 1) := by decide +kernel
theorem dS_driftBars_0 : decode (hr_cd 45) 0 = .ok (.iconst 0, 1) := by decide +kernel
theorem dS_driftBars_1 : decode (hr_cd 45) 1 = .ok (.istore_n 1, 1) := by decide +kernel
theorem dS_driftBars_2 : decode (hr_cd 45) 2 = .ok (.iload_n 1, 1) := by decide +kernel
theorem dS_driftBars_3 : decode (hr_cd 45) 3 = .ok (.aload_n 0, 1) := by decide +kernel
theorem dS_driftBars_4 : decode (hr_cd 45) 4 = .ok (.getfield 27, 3) := by decide +kernel
theorem dS_driftBars_7 : decode (hr_cd 45) 7 = .ok (.if_icmp .ge 51, 3) := by decide +kernel
theorem dS_driftBars_10 : decode (hr_cd 45) 10 = .ok (.aload_n 0, 1) := by decide +kernel
theorem dS_driftBars_11 : decode (hr_cd 45) 11 = .ok (.getfield 32, 3) := by decide +kernel
theorem dS_driftBars_14 : decode (hr_cd 45) 14 = .ok (.iload_n 1, 1) := by decide +kernel
theorem dS_driftBars_15 : decode (hr_cd 45) 15 = .ok (.aaload, 1) := by decide +kernel
theorem dS_driftBars_16 : decode (hr_cd 45) 16 = .ok (.astore_n 2, 1) := by decide +kernel
theorem dS_driftBars_17 : decode (hr_cd 45) 17 = .ok (.aload_n 2, 1) := by decide +kernel
theorem dS_driftBars_18 : decode (hr_cd 45) 18 = .ok (.getfield 96, 3) := by decide +kernel
theorem dS_driftBars_21 : decode (hr_cd 45) 21 = .ok (.ifCond .ne 31, 3) := by decide +kernel
theorem dS_driftBars_24 : decode (hr_cd 45) 24 = .ok (.aload_n 2, 1) := by decide +kernel
theorem dS_driftBars_25 : decode (hr_cd 45) 25 = .ok (.getfield 76, 3) := by decide +kernel
theorem dS_driftBars_28 : decode (hr_cd 45) 28 = .ok (.bipush 8, 2) := by decide +kernel
theorem dS_driftBars_30 : decode (hr_cd 45) 30 = .ok (.irem, 1) := by decide +kernel
theorem dS_driftBars_31 : decode (hr_cd 45) 31 = .ok (.ifCond .le 21, 3) := by decide +kernel
theorem dS_driftBars_34 : decode (hr_cd 45) 34 = .ok (.aload_n 2, 1) := by decide +kernel
theorem dS_driftBars_35 : decode (hr_cd 45) 35 = .ok (.iconst 2, 1) := by decide +kernel
theorem dS_driftBars_36 : decode (hr_cd 45) 36 = .ok (.invokevirtual 99, 3) := by decide +kernel
theorem dS_driftBars_39 : decode (hr_cd 45) 39 = .ok (.ifCond .eq 13, 3) := by decide +kernel
theorem dS_driftBars_42 : decode (hr_cd 45) 42 = .ok (.aload_n 2, 1) := by decide +kernel
theorem dS_driftBars_43 : decode (hr_cd 45) 43 = .ok (.dup, 1) := by decide +kernel
theorem dS_driftBars_44 : decode (hr_cd 45) 44 = .ok (.getfield 76, 3) := by decide +kernel
theorem dS_driftBars_47 : decode (hr_cd 45) 47 = .ok (.iconst 1, 1) := by decide +kernel
theorem dS_driftBars_48 : decode (hr_cd 45) 48 = .ok (.isub, 1) := by decide +kernel
theorem dS_driftBars_49 : decode (hr_cd 45) 49 = .ok (.putfield 76, 3) := by decide +kernel
theorem dS_driftBars_52 : decode (hr_cd 45) 52 = .ok (.iinc 1 1, 3) := by decide +kernel
theorem dS_driftBars_55 : decode (hr_cd 45) 55 = .ok (.goto (-53), 3) := by decide +kernel
theorem dS_driftBars_58 : decode (hr_cd 45) 58 = .ok (.return_, 1) := by decide +kernel
theorem dS_become_0 : decode (hr_cd 48) 0 = .ok (.aload_n 0, 1) := by decide +kernel
theorem dS_become_1 : decode (hr_cd 48) 1 = .ok (.aload_n 1, 1) := by decide +kernel
theorem dS_become_2 : decode (hr_cd 48) 2 = .ok (.getfield 9, 3) := by decide +kernel
theorem dS_become_5 : decode (hr_cd 48) 5 = .ok (.putfield 9, 3) := by decide +kernel
theorem dS_become_8 : decode (hr_cd 48) 8 = .ok (.aload_n 0, 1) := by decide +kernel
theorem dS_become_9 : decode (hr_cd 48) 9 = .ok (.aload_n 1, 1) := by decide +kernel
theorem dS_become_10 : decode (hr_cd 48) 10 = .ok (.getfield 15, 3) := by decide +kernel
theorem dS_become_13 : decode (hr_cd 48) 13 = .ok (.putfield 15, 3) := by decide +kernel
theorem dS_become_16 : decode (hr_cd 48) 16 = .ok (.aload_n 0, 1) := by decide +kernel
theorem dS_become_17 : decode (hr_cd 48) 17 = .ok (.aload_n 1, 1) := by decide +kernel
theorem dS_become_18 : decode (hr_cd 48) 18 = .ok (.getfield 18, 3) := by decide +kernel
theorem dS_become_21 : decode (hr_cd 48) 21 = .ok (.putfield 18, 3) := by decide +kernel
theorem dS_become_24 : decode (hr_cd 48) 24 = .ok (.aload_n 0, 1) := by decide +kernel
theorem dS_become_25 : decode (hr_cd 48) 25 = .ok (.aload_n 1, 1) := by decide +kernel
theorem dS_become_26 : decode (hr_cd 48) 26 = .ok (.getfield 21, 3) := by decide +kernel
theorem dS_become_29 : decode (hr_cd 48) 29 = .ok (.putfield 21, 3) := by decide +kernel
theorem dS_become_32 : decode (hr_cd 48) 32 = .ok (.aload_n 0, 1) := by decide +kernel
theorem dS_become_33 : decode (hr_cd 48) 33 = .ok (.aload_n 1, 1) := by decide +kernel
theorem dS_become_34 : decode (hr_cd 48) 34 = .ok (.getfield 24, 3) := by decide +kernel
theorem dS_become_37 : decode (hr_cd 48) 37 = .ok (.putfield 24, 3) := by decide +kernel
theorem dS_become_40 : decode (hr_cd 48) 40 = .ok (.aload_n 0, 1) := by decide +kernel
theorem dS_become_41 : decode (hr_cd 48) 41 = .ok (.aload_n 1, 1) := by decide +kernel
theorem dS_become_42 : decode (hr_cd 48) 42 = .ok (.getfield 27, 3) := by decide +kernel
theorem dS_become_45 : decode (hr_cd 48) 45 = .ok (.putfield 27, 3) := by decide +kernel
theorem dS_become_48 : decode (hr_cd 48) 48 = .ok (.iconst 0, 1) := by decide +kernel
theorem dS_become_49 : decode (hr_cd 48) 49 = .ok (.istore_n 2, 1) := by decide +kernel
theorem dS_become_50 : decode (hr_cd 48) 50 = .ok (.iload_n 2, 1) := by decide +kernel
theorem dS_become_51 : decode (hr_cd 48) 51 = .ok (.aload_n 0, 1) := by decide +kernel
theorem dS_become_52 : decode (hr_cd 48) 52 = .ok (.getfield 27, 3) := by decide +kernel
theorem dS_become_55 : decode (hr_cd 48) 55 = .ok (.if_icmp .ge 24, 3) := by decide +kernel
theorem dS_become_58 : decode (hr_cd 48) 58 = .ok (.aload_n 0, 1) := by decide +kernel
theorem dS_become_59 : decode (hr_cd 48) 59 = .ok (.getfield 32, 3) := by decide +kernel
theorem dS_become_62 : decode (hr_cd 48) 62 = .ok (.iload_n 2, 1) := by decide +kernel
theorem dS_become_63 : decode (hr_cd 48) 63 = .ok (.aaload, 1) := by decide +kernel
theorem dS_become_64 : decode (hr_cd 48) 64 = .ok (.aload_n 1, 1) := by decide +kernel
theorem dS_become_65 : decode (hr_cd 48) 65 = .ok (.getfield 32, 3) := by decide +kernel
theorem dS_become_68 : decode (hr_cd 48) 68 = .ok (.iload_n 2, 1) := by decide +kernel
theorem dS_become_69 : decode (hr_cd 48) 69 = .ok (.aaload, 1) := by decide +kernel
theorem dS_become_70 : decode (hr_cd 48) 70 = .ok (.invokevirtual 37, 3) := by decide +kernel
theorem dS_become_73 : decode (hr_cd 48) 73 = .ok (.iinc 2 1, 3) := by decide +kernel
theorem dS_become_76 : decode (hr_cd 48) 76 = .ok (.goto (-26), 3) := by decide +kernel
theorem dS_become_79 : decode (hr_cd 48) 79 = .ok (.return_, 1) := by decide +kernel
theorem dR_become_0 : decode (hr_cd 49) 0 = .ok (.aload_n 0, 1) := by decide +kernel
theorem dR_become_1 : decode (hr_cd 49) 1 = .ok (.aload_n 1, 1) := by decide +kernel
theorem dR_become_2 : decode (hr_cd 49) 2 = .ok (.getfield 9, 3) := by decide +kernel
theorem dR_become_5 : decode (hr_cd 49) 5 = .ok (.putfield 9, 3) := by decide +kernel
theorem dR_become_8 : decode (hr_cd 49) 8 = .ok (.aload_n 0, 1) := by decide +kernel
theorem dR_become_9 : decode (hr_cd 49) 9 = .ok (.aload_n 1, 1) := by decide +kernel
theorem dR_become_10 : decode (hr_cd 49) 10 = .ok (.getfield 15, 3) := by decide +kernel
theorem dR_become_13 : decode (hr_cd 49) 13 = .ok (.putfield 15, 3) := by decide +kernel
theorem dR_become_16 : decode (hr_cd 49) 16 = .ok (.aload_n 0, 1) := by decide +kernel
theorem dR_become_17 : decode (hr_cd 49) 17 = .ok (.aload_n 1, 1) := by decide +kernel
theorem dR_become_18 : decode (hr_cd 49) 18 = .ok (.getfield 18, 3) := by decide +kernel
theorem dR_become_21 : decode (hr_cd 49) 21 = .ok (.putfield 18, 3) := by decide +kernel
theorem dR_become_24 : decode (hr_cd 49) 24 = .ok (.aload_n 0, 1) := by decide +kernel
theorem dR_become_25 : decode (hr_cd 49) 25 = .ok (.aload_n 1, 1) := by decide +kernel
theorem dR_become_26 : decode (hr_cd 49) 26 = .ok (.getfield 21, 3) := by decide +kernel
theorem dR_become_29 : decode (hr_cd 49) 29 = .ok (.putfield 21, 3) := by decide +kernel
theorem dR_become_32 : decode (hr_cd 49) 32 = .ok (.aload_n 0, 1) := by decide +kernel
theorem dR_become_33 : decode (hr_cd 49) 33 = .ok (.aload_n 1, 1) := by decide +kernel
theorem dR_become_34 : decode (hr_cd 49) 34 = .ok (.getfield 24, 3) := by decide +kernel
theorem dR_become_37 : decode (hr_cd 49) 37 = .ok (.putfield 24, 3) := by decide +kernel
theorem dR_become_40 : decode (hr_cd 49) 40 = .ok (.return_, 1) := by decide +kernel
theorem dS_watchesToFate_0 : decode (hr_cd 52) 0 = .ok (.iconst 0, 1) := by decide +kernel
theorem dS_watchesToFate_1 : decode (hr_cd 52) 1 = .ok (.istore_n 3, 1) := by decide +kernel
theorem dS_watchesToFate_2 : decode (hr_cd 52) 2 = .ok (.iload_n 3, 1) := by decide +kernel
theorem dS_watchesToFate_3 : decode (hr_cd 52) 3 = .ok (.iload_n 2, 1) := by decide +kernel
theorem dS_watchesToFate_4 : decode (hr_cd 52) 4 = .ok (.if_icmp .gt 35, 3) := by decide +kernel
theorem dS_watchesToFate_7 : decode (hr_cd 52) 7 = .ok (.aload_n 0, 1) := by decide +kernel
theorem dS_watchesToFate_8 : decode (hr_cd 52) 8 = .ok (.getfield 24, 3) := by decide +kernel
theorem dS_watchesToFate_11 : decode (hr_cd 52) 11 = .ok (.ifCond .eq 18, 3) := by decide +kernel
theorem dS_watchesToFate_14 : decode (hr_cd 52) 14 = .ok (.aload_n 0, 1) := by decide +kernel
theorem dS_watchesToFate_15 : decode (hr_cd 52) 15 = .ok (.getfield 24, 3) := by decide +kernel
theorem dS_watchesToFate_18 : decode (hr_cd 52) 18 = .ok (.iload_n 1, 1) := by decide +kernel
theorem dS_watchesToFate_19 : decode (hr_cd 52) 19 = .ok (.if_icmp .ne 7, 3) := by decide +kernel
theorem dS_watchesToFate_22 : decode (hr_cd 52) 22 = .ok (.iload_n 3, 1) := by decide +kernel
theorem dS_watchesToFate_23 : decode (hr_cd 52) 23 = .ok (.goto 5, 3) := by decide +kernel
theorem dS_watchesToFate_26 : decode (hr_cd 52) 26 = .ok (.ldc 53, 2) := by decide +kernel
theorem dS_watchesToFate_28 : decode (hr_cd 52) 28 = .ok (.ireturn, 1) := by decide +kernel
theorem dS_watchesToFate_29 : decode (hr_cd 52) 29 = .ok (.aload_n 0, 1) := by decide +kernel
theorem dS_watchesToFate_30 : decode (hr_cd 52) 30 = .ok (.invokevirtual 66, 3) := by decide +kernel
theorem dS_watchesToFate_33 : decode (hr_cd 52) 33 = .ok (.iinc 3 1, 3) := by decide +kernel
theorem dS_watchesToFate_36 : decode (hr_cd 52) 36 = .ok (.goto (-34), 3) := by decide +kernel
theorem dS_watchesToFate_39 : decode (hr_cd 52) 39 = .ok (.ldc 53, 2) := by decide +kernel
theorem dS_watchesToFate_41 : decode (hr_cd 52) 41 = .ok (.ireturn, 1) := by decide +kernel
theorem dS_watchesToSquare_0 : decode (hr_cd 55) 0 = .ok (.iconst 0, 1) := by decide +kernel
theorem dS_watchesToSquare_1 : decode (hr_cd 55) 1 = .ok (.istore_n 3, 1) := by decide +kernel
theorem dS_watchesToSquare_2 : decode (hr_cd 55) 2 = .ok (.iload_n 3, 1) := by decide +kernel
theorem dS_watchesToSquare_3 : decode (hr_cd 55) 3 = .ok (.iload_n 2, 1) := by decide +kernel
theorem dS_watchesToSquare_4 : decode (hr_cd 55) 4 = .ok (.if_icmp .gt 23, 3) := by decide +kernel
theorem dS_watchesToSquare_7 : decode (hr_cd 55) 7 = .ok (.aload_n 0, 1) := by decide +kernel
theorem dS_watchesToSquare_8 : decode (hr_cd 55) 8 = .ok (.getfield 15, 3) := by decide +kernel
theorem dS_watchesToSquare_11 : decode (hr_cd 55) 11 = .ok (.iload_n 1, 1) := by decide +kernel
theorem dS_watchesToSquare_12 : decode (hr_cd 55) 12 = .ok (.if_icmp .ne 5, 3) := by decide +kernel
theorem dS_watchesToSquare_15 : decode (hr_cd 55) 15 = .ok (.iload_n 3, 1) := by decide +kernel
theorem dS_watchesToSquare_16 : decode (hr_cd 55) 16 = .ok (.ireturn, 1) := by decide +kernel
theorem dS_watchesToSquare_17 : decode (hr_cd 55) 17 = .ok (.aload_n 0, 1) := by decide +kernel
theorem dS_watchesToSquare_18 : decode (hr_cd 55) 18 = .ok (.invokevirtual 66, 3) := by decide +kernel
theorem dS_watchesToSquare_21 : decode (hr_cd 55) 21 = .ok (.iinc 3 1, 3) := by decide +kernel
theorem dS_watchesToSquare_24 : decode (hr_cd 55) 24 = .ok (.goto (-22), 3) := by decide +kernel
theorem dS_watchesToSquare_27 : decode (hr_cd 55) 27 = .ok (.ldc 53, 2) := by decide +kernel
theorem dS_watchesToSquare_29 : decode (hr_cd 55) 29 = .ok (.ireturn, 1) := by decide +kernel
theorem dC_open_0 : decode (hr_cd 57) 0 = .ok (.aload_n 0, 1) := by decide +kernel
theorem dC_open_1 : decode (hr_cd 57) 1 = .ok (.ldc 9, 2) := by decide +kernel
theorem dC_open_3 : decode (hr_cd 57) 3 = .ok (.putfield 10, 3) := by decide +kernel
theorem dC_open_6 : decode (hr_cd 57) 6 = .ok (.aload_n 0, 1) := by decide +kernel
theorem dC_open_7 : decode (hr_cd 57) 7 = .ok (.iload_n 1, 1) := by decide +kernel
theorem dC_open_8 : decode (hr_cd 57) 8 = .ok (.putfield 16, 3) := by decide +kernel
theorem dC_open_11 : decode (hr_cd 57) 11 = .ok (.return_, 1) := by decide +kernel
theorem dC_offer_0 : decode (hr_cd 58) 0 = .ok (.iload_n 2, 1) := by decide +kernel
theorem dC_offer_1 : decode (hr_cd 58) 1 = .ok (.aload_n 0, 1) := by decide +kernel
theorem dC_offer_2 : decode (hr_cd 58) 2 = .ok (.getfield 16, 3) := by decide +kernel
theorem dC_offer_5 : decode (hr_cd 58) 5 = .ok (.if_icmp .ge 13, 3) := by decide +kernel
theorem dC_offer_8 : decode (hr_cd 58) 8 = .ok (.aload_n 0, 1) := by decide +kernel
theorem dC_offer_9 : decode (hr_cd 58) 9 = .ok (.iload_n 2, 1) := by decide +kernel
theorem dC_offer_10 : decode (hr_cd 58) 10 = .ok (.putfield 16, 3) := by decide +kernel
theorem dC_offer_13 : decode (hr_cd 58) 13 = .ok (.aload_n 0, 1) := by decide +kernel
theorem dC_offer_14 : decode (hr_cd 58) 14 = .ok (.iload_n 1, 1) := by decide +kernel
theorem dC_offer_15 : decode (hr_cd 58) 15 = .ok (.putfield 10, 3) := by decide +kernel
theorem dC_offer_18 : decode (hr_cd 58) 18 = .ok (.return_, 1) := by decide +kernel
theorem dJI_bitCount_0 : decode (hr_cd 64) 0 = .ok (.iload_n 0, 1) := by decide +kernel
theorem dJI_bitCount_1 : decode (hr_cd 64) 1 = .ok (.iload_n 0, 1) := by decide +kernel
theorem dJI_bitCount_2 : decode (hr_cd 64) 2 = .ok (.iconst 1, 1) := by decide +kernel
theorem dJI_bitCount_3 : decode (hr_cd 64) 3 = .ok (.iushr, 1) := by decide +kernel
theorem dJI_bitCount_4 : decode (hr_cd 64) 4 = .ok (.ldc_w 265, 3) := by decide +kernel
theorem dJI_bitCount_7 : decode (hr_cd 64) 7 = .ok (.iand, 1) := by decide +kernel
theorem dJI_bitCount_8 : decode (hr_cd 64) 8 = .ok (.isub, 1) := by decide +kernel
theorem dJI_bitCount_9 : decode (hr_cd 64) 9 = .ok (.istore_n 0, 1) := by decide +kernel
theorem dJI_bitCount_10 : decode (hr_cd 64) 10 = .ok (.iload_n 0, 1) := by decide +kernel
theorem dJI_bitCount_11 : decode (hr_cd 64) 11 = .ok (.ldc_w 266, 3) := by decide +kernel
theorem dJI_bitCount_14 : decode (hr_cd 64) 14 = .ok (.iand, 1) := by decide +kernel
theorem dJI_bitCount_15 : decode (hr_cd 64) 15 = .ok (.iload_n 0, 1) := by decide +kernel
theorem dJI_bitCount_16 : decode (hr_cd 64) 16 = .ok (.iconst 2, 1) := by decide +kernel
theorem dJI_bitCount_17 : decode (hr_cd 64) 17 = .ok (.iushr, 1) := by decide +kernel
theorem dJI_bitCount_18 : decode (hr_cd 64) 18 = .ok (.ldc_w 266, 3) := by decide +kernel
theorem dJI_bitCount_21 : decode (hr_cd 64) 21 = .ok (.iand, 1) := by decide +kernel
theorem dJI_bitCount_22 : decode (hr_cd 64) 22 = .ok (.iadd, 1) := by decide +kernel
theorem dJI_bitCount_23 : decode (hr_cd 64) 23 = .ok (.istore_n 0, 1) := by decide +kernel
theorem dJI_bitCount_24 : decode (hr_cd 64) 24 = .ok (.iload_n 0, 1) := by decide +kernel
theorem dJI_bitCount_25 : decode (hr_cd 64) 25 = .ok (.iload_n 0, 1) := by decide +kernel
theorem dJI_bitCount_26 : decode (hr_cd 64) 26 = .ok (.iconst 4, 1) := by decide +kernel
theorem dJI_bitCount_27 : decode (hr_cd 64) 27 = .ok (.iushr, 1) := by decide +kernel
theorem dJI_bitCount_28 : decode (hr_cd 64) 28 = .ok (.iadd, 1) := by decide +kernel
theorem dJI_bitCount_29 : decode (hr_cd 64) 29 = .ok (.ldc_w 267, 3) := by decide +kernel
theorem dJI_bitCount_32 : decode (hr_cd 64) 32 = .ok (.iand, 1) := by decide +kernel
theorem dJI_bitCount_33 : decode (hr_cd 64) 33 = .ok (.istore_n 0, 1) := by decide +kernel
theorem dJI_bitCount_34 : decode (hr_cd 64) 34 = .ok (.iload_n 0, 1) := by decide +kernel
theorem dJI_bitCount_35 : decode (hr_cd 64) 35 = .ok (.iload_n 0, 1) := by decide +kernel
theorem dJI_bitCount_36 : decode (hr_cd 64) 36 = .ok (.bipush 8, 2) := by decide +kernel
theorem dJI_bitCount_38 : decode (hr_cd 64) 38 = .ok (.iushr, 1) := by decide +kernel
theorem dJI_bitCount_39 : decode (hr_cd 64) 39 = .ok (.iadd, 1) := by decide +kernel
theorem dJI_bitCount_40 : decode (hr_cd 64) 40 = .ok (.istore_n 0, 1) := by decide +kernel
theorem dJI_bitCount_41 : decode (hr_cd 64) 41 = .ok (.iload_n 0, 1) := by decide +kernel
theorem dJI_bitCount_42 : decode (hr_cd 64) 42 = .ok (.iload_n 0, 1) := by decide +kernel
theorem dJI_bitCount_43 : decode (hr_cd 64) 43 = .ok (.bipush 16, 2) := by decide +kernel
theorem dJI_bitCount_45 : decode (hr_cd 64) 45 = .ok (.iushr, 1) := by decide +kernel
theorem dJI_bitCount_46 : decode (hr_cd 64) 46 = .ok (.iadd, 1) := by decide +kernel
theorem dJI_bitCount_47 : decode (hr_cd 64) 47 = .ok (.istore_n 0, 1) := by decide +kernel
theorem dJI_bitCount_48 : decode (hr_cd 64) 48 = .ok (.iload_n 0, 1) := by decide +kernel
theorem dJI_bitCount_49 : decode (hr_cd 64) 49 = .ok (.bipush 63, 2) := by decide +kernel
theorem dJI_bitCount_51 : decode (hr_cd 64) 51 = .ok (.iand, 1) := by decide +kernel
theorem dJI_bitCount_52 : decode (hr_cd 64) 52 = .ok (.ireturn, 1) := by decide +kernel
theorem dS_hush_0 : decode (hr_cd 65) 0 = .ok (.iconst 0, 1) := by decide +kernel
theorem dS_hush_1 : decode (hr_cd 65) 1 = .ok (.istore_n 2, 1) := by decide +kernel
theorem dS_hush_2 : decode (hr_cd 65) 2 = .ok (.iload_n 2, 1) := by decide +kernel
theorem dS_hush_3 : decode (hr_cd 65) 3 = .ok (.aload_n 0, 1) := by decide +kernel
theorem dS_hush_4 : decode (hr_cd 65) 4 = .ok (.getfield 27, 3) := by decide +kernel
theorem dS_hush_7 : decode (hr_cd 65) 7 = .ok (.if_icmp .ge 28, 3) := by decide +kernel
theorem dS_hush_10 : decode (hr_cd 65) 10 = .ok (.iload_n 1, 1) := by decide +kernel
theorem dS_hush_11 : decode (hr_cd 65) 11 = .ok (.iload_n 2, 1) := by decide +kernel
theorem dS_hush_12 : decode (hr_cd 65) 12 = .ok (.ishr, 1) := by decide +kernel
theorem dS_hush_13 : decode (hr_cd 65) 13 = .ok (.iconst 1, 1) := by decide +kernel
theorem dS_hush_14 : decode (hr_cd 65) 14 = .ok (.iand, 1) := by decide +kernel
theorem dS_hush_15 : decode (hr_cd 65) 15 = .ok (.iconst 1, 1) := by decide +kernel
theorem dS_hush_16 : decode (hr_cd 65) 16 = .ok (.if_icmp .ne 13, 3) := by decide +kernel
theorem dS_hush_19 : decode (hr_cd 65) 19 = .ok (.aload_n 0, 1) := by decide +kernel
theorem dS_hush_20 : decode (hr_cd 65) 20 = .ok (.getfield 32, 3) := by decide +kernel
theorem dS_hush_23 : decode (hr_cd 65) 23 = .ok (.iload_n 2, 1) := by decide +kernel
theorem dS_hush_24 : decode (hr_cd 65) 24 = .ok (.aaload, 1) := by decide +kernel
theorem dS_hush_25 : decode (hr_cd 65) 25 = .ok (.iconst 1, 1) := by decide +kernel
theorem dS_hush_26 : decode (hr_cd 65) 26 = .ok (.putfield 96, 3) := by decide +kernel
theorem dS_hush_29 : decode (hr_cd 65) 29 = .ok (.iinc 2 1, 3) := by decide +kernel
theorem dS_hush_32 : decode (hr_cd 65) 32 = .ok (.goto (-30), 3) := by decide +kernel
theorem dS_hush_35 : decode (hr_cd 65) 35 = .ok (.return_, 1) := by decide +kernel
theorem dT_append_0 : decode (hr_cd 67) 0 = .ok (.iload_n 2, 1) := by decide +kernel
theorem dT_append_1 : decode (hr_cd 67) 1 = .ok (.iconst 1, 1) := by decide +kernel
theorem dT_append_2 : decode (hr_cd 67) 2 = .ok (.isub, 1) := by decide +kernel
theorem dT_append_3 : decode (hr_cd 67) 3 = .ok (.istore_n 3, 1) := by decide +kernel
theorem dT_append_4 : decode (hr_cd 67) 4 = .ok (.iload_n 3, 1) := by decide +kernel
theorem dT_append_5 : decode (hr_cd 67) 5 = .ok (.ifCond .lt 44, 3) := by decide +kernel
theorem dT_append_8 : decode (hr_cd 67) 8 = .ok (.aload_n 0, 1) := by decide +kernel
theorem dT_append_9 : decode (hr_cd 67) 9 = .ok (.getfield 15, 3) := by decide +kernel
theorem dT_append_12 : decode (hr_cd 67) 12 = .ok (.bipush 120, 2) := by decide +kernel
theorem dT_append_14 : decode (hr_cd 67) 14 = .ok (.if_icmp .ge 35, 3) := by decide +kernel
theorem dT_append_17 : decode (hr_cd 67) 17 = .ok (.aload_n 0, 1) := by decide +kernel
theorem dT_append_18 : decode (hr_cd 67) 18 = .ok (.getfield 9, 3) := by decide +kernel
theorem dT_append_21 : decode (hr_cd 67) 21 = .ok (.aload_n 0, 1) := by decide +kernel
theorem dT_append_22 : decode (hr_cd 67) 22 = .ok (.getfield 15, 3) := by decide +kernel
theorem dT_append_25 : decode (hr_cd 67) 25 = .ok (.iload_n 1, 1) := by decide +kernel
theorem dT_append_26 : decode (hr_cd 67) 26 = .ok (.bipush 8, 2) := by decide +kernel
theorem dT_append_28 : decode (hr_cd 67) 28 = .ok (.iload_n 3, 1) := by decide +kernel
theorem dT_append_29 : decode (hr_cd 67) 29 = .ok (.imul, 1) := by decide +kernel
theorem dT_append_30 : decode (hr_cd 67) 30 = .ok (.ishr, 1) := by decide +kernel
theorem dT_append_31 : decode (hr_cd 67) 31 = .ok (.i2b, 1) := by decide +kernel
theorem dT_append_32 : decode (hr_cd 67) 32 = .ok (.bastore, 1) := by decide +kernel
theorem dT_append_33 : decode (hr_cd 67) 33 = .ok (.aload_n 0, 1) := by decide +kernel
theorem dT_append_34 : decode (hr_cd 67) 34 = .ok (.dup, 1) := by decide +kernel
theorem dT_append_35 : decode (hr_cd 67) 35 = .ok (.getfield 15, 3) := by decide +kernel
theorem dT_append_38 : decode (hr_cd 67) 38 = .ok (.iconst 1, 1) := by decide +kernel
theorem dT_append_39 : decode (hr_cd 67) 39 = .ok (.iadd, 1) := by decide +kernel
theorem dT_append_40 : decode (hr_cd 67) 40 = .ok (.putfield 15, 3) := by decide +kernel
theorem dT_append_43 : decode (hr_cd 67) 43 = .ok (.iinc 3 (-1), 3) := by decide +kernel
theorem dT_append_46 : decode (hr_cd 67) 46 = .ok (.goto (-42), 3) := by decide +kernel
theorem dT_append_49 : decode (hr_cd 67) 49 = .ok (.return_, 1) := by decide +kernel
theorem dT_readChart_0 : decode (hr_cd 70) 0 = .ok (.aload_n 0, 1) := by decide +kernel
theorem dT_readChart_1 : decode (hr_cd 70) 1 = .ok (.iconst 0, 1) := by decide +kernel
theorem dT_readChart_2 : decode (hr_cd 70) 2 = .ok (.putfield 19, 3) := by decide +kernel
theorem dT_readChart_5 : decode (hr_cd 70) 5 = .ok (.aload_n 0, 1) := by decide +kernel
theorem dT_readChart_6 : decode (hr_cd 70) 6 = .ok (.invokevirtual 22, 3) := by decide +kernel
theorem dT_readChart_9 : decode (hr_cd 70) 9 = .ok (.iconst 1, 1) := by decide +kernel
theorem dT_readChart_10 : decode (hr_cd 70) 10 = .ok (.istore_n 2, 1) := by decide +kernel
theorem dT_readChart_11 : decode (hr_cd 70) 11 = .ok (.iload_n 2, 1) := by decide +kernel
theorem dT_readChart_12 : decode (hr_cd 70) 12 = .ok (.bipush 120, 2) := by decide +kernel
theorem dT_readChart_14 : decode (hr_cd 70) 14 = .ok (.if_icmp .gt 52, 3) := by decide +kernel
theorem dT_readChart_17 : decode (hr_cd 70) 17 = .ok (.aload_n 0, 1) := by decide +kernel
theorem dT_readChart_18 : decode (hr_cd 70) 18 = .ok (.aload_n 1, 1) := by decide +kernel
theorem dT_readChart_19 : decode (hr_cd 70) 19 = .ok (.invokevirtual 25, 3) := by decide +kernel
theorem dT_readChart_22 : decode (hr_cd 70) 22 = .ok (.ifCond .ne 10, 3) := by decide +kernel
theorem dT_readChart_25 : decode (hr_cd 70) 25 = .ok (.iconst (-1), 1) := by decide +kernel
theorem dT_readChart_26 : decode (hr_cd 70) 26 = .ok (.aload_n 0, 1) := by decide +kernel
theorem dT_readChart_27 : decode (hr_cd 70) 27 = .ok (.getfield 29, 3) := by decide +kernel
theorem dT_readChart_30 : decode (hr_cd 70) 30 = .ok (.isub, 1) := by decide +kernel
theorem dT_readChart_31 : decode (hr_cd 70) 31 = .ok (.ireturn, 1) := by decide +kernel
theorem dT_readChart_32 : decode (hr_cd 70) 32 = .ok (.aload_n 0, 1) := by decide +kernel
theorem dT_readChart_33 : decode (hr_cd 70) 33 = .ok (.getfield 32, 3) := by decide +kernel
theorem dT_readChart_36 : decode (hr_cd 70) 36 = .ok (.ifCond .ne 5, 3) := by decide +kernel
theorem dT_readChart_39 : decode (hr_cd 70) 39 = .ok (.iload_n 2, 1) := by decide +kernel
theorem dT_readChart_40 : decode (hr_cd 70) 40 = .ok (.ireturn, 1) := by decide +kernel
theorem dT_readChart_41 : decode (hr_cd 70) 41 = .ok (.aload_n 0, 1) := by decide +kernel
theorem dT_readChart_42 : decode (hr_cd 70) 42 = .ok (.getfield 32, 3) := by decide +kernel
theorem dT_readChart_45 : decode (hr_cd 70) 45 = .ok (.iconst 3, 1) := by decide +kernel
theorem dT_readChart_46 : decode (hr_cd 70) 46 = .ok (.if_icmp .eq 10, 3) := by decide +kernel
theorem dT_readChart_49 : decode (hr_cd 70) 49 = .ok (.iconst (-1), 1) := by decide +kernel
theorem dT_readChart_50 : decode (hr_cd 70) 50 = .ok (.aload_n 0, 1) := by decide +kernel
theorem dT_readChart_51 : decode (hr_cd 70) 51 = .ok (.getfield 29, 3) := by decide +kernel
theorem dT_readChart_54 : decode (hr_cd 70) 54 = .ok (.isub, 1) := by decide +kernel
theorem dT_readChart_55 : decode (hr_cd 70) 55 = .ok (.ireturn, 1) := by decide +kernel
theorem dT_readChart_56 : decode (hr_cd 70) 56 = .ok (.aload_n 0, 1) := by decide +kernel
theorem dT_readChart_57 : decode (hr_cd 70) 57 = .ok (.invokevirtual 22, 3) := by decide +kernel
theorem dT_readChart_60 : decode (hr_cd 70) 60 = .ok (.iinc 2 1, 3) := by decide +kernel
theorem dT_readChart_63 : decode (hr_cd 70) 63 = .ok (.goto (-52), 3) := by decide +kernel
theorem dT_readChart_66 : decode (hr_cd 70) 66 = .ok (.iconst (-1), 1) := by decide +kernel
theorem dT_readChart_67 : decode (hr_cd 70) 67 = .ok (.aload_n 0, 1) := by decide +kernel
theorem dT_readChart_68 : decode (hr_cd 70) 68 = .ok (.getfield 29, 3) := by decide +kernel
theorem dT_readChart_71 : decode (hr_cd 70) 71 = .ok (.isub, 1) := by decide +kernel
theorem dT_readChart_72 : decode (hr_cd 70) 72 = .ok (.ireturn, 1) := by decide +kernel
theorem dT_advance_0 : decode (hr_cd 71) 0 = .ok (.aload_n 0, 1) := by decide +kernel
theorem dT_advance_1 : decode (hr_cd 71) 1 = .ok (.aload_n 0, 1) := by decide +kernel
theorem dT_advance_2 : decode (hr_cd 71) 2 = .ok (.getfield 19, 3) := by decide +kernel
theorem dT_advance_5 : decode (hr_cd 71) 5 = .ok (.putfield 29, 3) := by decide +kernel
theorem dT_advance_8 : decode (hr_cd 71) 8 = .ok (.aload_n 0, 1) := by decide +kernel
theorem dT_advance_9 : decode (hr_cd 71) 9 = .ok (.getfield 29, 3) := by decide +kernel
theorem dT_advance_12 : decode (hr_cd 71) 12 = .ok (.aload_n 0, 1) := by decide +kernel
theorem dT_advance_13 : decode (hr_cd 71) 13 = .ok (.getfield 15, 3) := by decide +kernel
theorem dT_advance_16 : decode (hr_cd 71) 16 = .ok (.if_icmp .ge 30, 3) := by decide +kernel
theorem dT_advance_19 : decode (hr_cd 71) 19 = .ok (.aload_n 0, 1) := by decide +kernel
theorem dT_advance_20 : decode (hr_cd 71) 20 = .ok (.getfield 9, 3) := by decide +kernel
theorem dT_advance_23 : decode (hr_cd 71) 23 = .ok (.aload_n 0, 1) := by decide +kernel
theorem dT_advance_24 : decode (hr_cd 71) 24 = .ok (.getfield 29, 3) := by decide +kernel
theorem dT_advance_27 : decode (hr_cd 71) 27 = .ok (.baload, 1) := by decide +kernel
theorem dT_advance_28 : decode (hr_cd 71) 28 = .ok (.bipush 32, 2) := by decide +kernel
theorem dT_advance_30 : decode (hr_cd 71) 30 = .ok (.if_icmp .ne 16, 3) := by decide +kernel
theorem dT_advance_33 : decode (hr_cd 71) 33 = .ok (.aload_n 0, 1) := by decide +kernel
theorem dT_advance_34 : decode (hr_cd 71) 34 = .ok (.dup, 1) := by decide +kernel
theorem dT_advance_35 : decode (hr_cd 71) 35 = .ok (.getfield 29, 3) := by decide +kernel
theorem dT_advance_38 : decode (hr_cd 71) 38 = .ok (.iconst 1, 1) := by decide +kernel
theorem dT_advance_39 : decode (hr_cd 71) 39 = .ok (.iadd, 1) := by decide +kernel
theorem dT_advance_40 : decode (hr_cd 71) 40 = .ok (.putfield 29, 3) := by decide +kernel
theorem dT_advance_43 : decode (hr_cd 71) 43 = .ok (.goto (-35), 3) := by decide +kernel
theorem dT_advance_46 : decode (hr_cd 71) 46 = .ok (.aload_n 0, 1) := by decide +kernel
theorem dT_advance_47 : decode (hr_cd 71) 47 = .ok (.aload_n 0, 1) := by decide +kernel
theorem dT_advance_48 : decode (hr_cd 71) 48 = .ok (.getfield 29, 3) := by decide +kernel
theorem dT_advance_51 : decode (hr_cd 71) 51 = .ok (.putfield 19, 3) := by decide +kernel
theorem dT_advance_54 : decode (hr_cd 71) 54 = .ok (.aload_n 0, 1) := by decide +kernel
theorem dT_advance_55 : decode (hr_cd 71) 55 = .ok (.getfield 29, 3) := by decide +kernel
theorem dT_advance_58 : decode (hr_cd 71) 58 = .ok (.aload_n 0, 1) := by decide +kernel
theorem dT_advance_59 : decode (hr_cd 71) 59 = .ok (.getfield 15, 3) := by decide +kernel
theorem dT_advance_62 : decode (hr_cd 71) 62 = .ok (.if_icmp .lt 11, 3) := by decide +kernel
theorem dT_advance_65 : decode (hr_cd 71) 65 = .ok (.aload_n 0, 1) := by decide +kernel
theorem dT_advance_66 : decode (hr_cd 71) 66 = .ok (.iconst 0, 1) := by decide +kernel
theorem dT_advance_67 : decode (hr_cd 71) 67 = .ok (.putfield 32, 3) := by decide +kernel
theorem dT_advance_70 : decode (hr_cd 71) 70 = .ok (.goto 122, 3) := by decide +kernel
theorem dT_advance_73 : decode (hr_cd 71) 73 = .ok (.aload_n 0, 1) := by decide +kernel
theorem dT_advance_74 : decode (hr_cd 71) 74 = .ok (.getfield 9, 3) := by decide +kernel
theorem dT_advance_77 : decode (hr_cd 71) 77 = .ok (.aload_n 0, 1) := by decide +kernel
theorem dT_advance_78 : decode (hr_cd 71) 78 = .ok (.getfield 29, 3) := by decide +kernel
theorem dT_advance_81 : decode (hr_cd 71) 81 = .ok (.baload, 1) := by decide +kernel
theorem dT_advance_82 : decode (hr_cd 71) 82 = .ok (.invokestatic 125, 3) := by decide +kernel
theorem dT_advance_85 : decode (hr_cd 71) 85 = .ok (.ifCond .eq 47, 3) := by decide +kernel
theorem dT_advance_88 : decode (hr_cd 71) 88 = .ok (.aload_n 0, 1) := by decide +kernel
theorem dT_advance_89 : decode (hr_cd 71) 89 = .ok (.iconst 1, 1) := by decide +kernel
theorem dT_advance_90 : decode (hr_cd 71) 90 = .ok (.putfield 32, 3) := by decide +kernel
theorem dT_advance_93 : decode (hr_cd 71) 93 = .ok (.aload_n 0, 1) := by decide +kernel
theorem dT_advance_94 : decode (hr_cd 71) 94 = .ok (.getfield 19, 3) := by decide +kernel
theorem dT_advance_97 : decode (hr_cd 71) 97 = .ok (.aload_n 0, 1) := by decide +kernel
theorem dT_advance_98 : decode (hr_cd 71) 98 = .ok (.getfield 15, 3) := by decide +kernel
theorem dT_advance_101 : decode (hr_cd 71) 101 = .ok (.if_icmp .ge 91, 3) := by decide +kernel
theorem dT_advance_104 : decode (hr_cd 71) 104 = .ok (.aload_n 0, 1) := by decide +kernel
theorem dT_advance_105 : decode (hr_cd 71) 105 = .ok (.getfield 9, 3) := by decide +kernel
theorem dT_advance_108 : decode (hr_cd 71) 108 = .ok (.aload_n 0, 1) := by decide +kernel
theorem dT_advance_109 : decode (hr_cd 71) 109 = .ok (.getfield 19, 3) := by decide +kernel
theorem dT_advance_112 : decode (hr_cd 71) 112 = .ok (.baload, 1) := by decide +kernel
theorem dT_advance_113 : decode (hr_cd 71) 113 = .ok (.invokestatic 125, 3) := by decide +kernel
theorem dT_advance_116 : decode (hr_cd 71) 116 = .ok (.ifCond .eq 76, 3) := by decide +kernel
theorem dT_advance_119 : decode (hr_cd 71) 119 = .ok (.aload_n 0, 1) := by decide +kernel
theorem dT_advance_120 : decode (hr_cd 71) 120 = .ok (.dup, 1) := by decide +kernel
theorem dT_advance_121 : decode (hr_cd 71) 121 = .ok (.getfield 19, 3) := by decide +kernel
theorem dT_advance_124 : decode (hr_cd 71) 124 = .ok (.iconst 1, 1) := by decide +kernel
theorem dT_advance_125 : decode (hr_cd 71) 125 = .ok (.iadd, 1) := by decide +kernel
theorem dT_advance_126 : decode (hr_cd 71) 126 = .ok (.putfield 19, 3) := by decide +kernel
theorem dT_advance_129 : decode (hr_cd 71) 129 = .ok (.goto (-36), 3) := by decide +kernel
theorem dT_advance_132 : decode (hr_cd 71) 132 = .ok (.aload_n 0, 1) := by decide +kernel
theorem dT_advance_133 : decode (hr_cd 71) 133 = .ok (.getfield 9, 3) := by decide +kernel
theorem dT_advance_136 : decode (hr_cd 71) 136 = .ok (.aload_n 0, 1) := by decide +kernel
theorem dT_advance_137 : decode (hr_cd 71) 137 = .ok (.getfield 29, 3) := by decide +kernel
theorem dT_advance_140 : decode (hr_cd 71) 140 = .ok (.baload, 1) := by decide +kernel
theorem dT_advance_141 : decode (hr_cd 71) 141 = .ok (.invokestatic 129, 3) := by decide +kernel
theorem dT_advance_144 : decode (hr_cd 71) 144 = .ok (.ifCond .eq 15, 3) := by decide +kernel
theorem dT_advance_147 : decode (hr_cd 71) 147 = .ok (.aload_n 0, 1) := by decide +kernel
theorem dT_advance_148 : decode (hr_cd 71) 148 = .ok (.iconst 2, 1) := by decide +kernel
theorem dT_advance_149 : decode (hr_cd 71) 149 = .ok (.putfield 32, 3) := by decide +kernel
theorem dT_advance_152 : decode (hr_cd 71) 152 = .ok (.aload_n 0, 1) := by decide +kernel
theorem dT_advance_153 : decode (hr_cd 71) 153 = .ok (.invokevirtual 132, 3) := by decide +kernel
theorem dT_advance_156 : decode (hr_cd 71) 156 = .ok (.goto 36, 3) := by decide +kernel
theorem dT_advance_159 : decode (hr_cd 71) 159 = .ok (.aload_n 0, 1) := by decide +kernel
theorem dT_advance_160 : decode (hr_cd 71) 160 = .ok (.aload_n 0, 1) := by decide +kernel
theorem dT_advance_161 : decode (hr_cd 71) 161 = .ok (.getfield 9, 3) := by decide +kernel
theorem dT_advance_164 : decode (hr_cd 71) 164 = .ok (.aload_n 0, 1) := by decide +kernel
theorem dT_advance_165 : decode (hr_cd 71) 165 = .ok (.getfield 29, 3) := by decide +kernel
theorem dT_advance_168 : decode (hr_cd 71) 168 = .ok (.baload, 1) := by decide +kernel
theorem dT_advance_169 : decode (hr_cd 71) 169 = .ok (.bipush 59, 2) := by decide +kernel
theorem dT_advance_171 : decode (hr_cd 71) 171 = .ok (.if_icmp .ne 7, 3) := by decide +kernel
theorem dT_advance_174 : decode (hr_cd 71) 174 = .ok (.iconst 3, 1) := by decide +kernel
theorem dT_advance_175 : decode (hr_cd 71) 175 = .ok (.goto 4, 3) := by decide +kernel
theorem dT_advance_178 : decode (hr_cd 71) 178 = .ok (.iconst 4, 1) := by decide +kernel
theorem dT_advance_179 : decode (hr_cd 71) 179 = .ok (.putfield 32, 3) := by decide +kernel
theorem dT_advance_182 : decode (hr_cd 71) 182 = .ok (.aload_n 0, 1) := by decide +kernel
theorem dT_advance_183 : decode (hr_cd 71) 183 = .ok (.dup, 1) := by decide +kernel
theorem dT_advance_184 : decode (hr_cd 71) 184 = .ok (.getfield 19, 3) := by decide +kernel
theorem dT_advance_187 : decode (hr_cd 71) 187 = .ok (.iconst 1, 1) := by decide +kernel
theorem dT_advance_188 : decode (hr_cd 71) 188 = .ok (.iadd, 1) := by decide +kernel
theorem dT_advance_189 : decode (hr_cd 71) 189 = .ok (.putfield 19, 3) := by decide +kernel
theorem dT_advance_192 : decode (hr_cd 71) 192 = .ok (.return_, 1) := by decide +kernel
theorem dT_isLetter_0 : decode (hr_cd 72) 0 = .ok (.iload_n 0, 1) := by decide +kernel
theorem dT_isLetter_1 : decode (hr_cd 72) 1 = .ok (.bipush 97, 2) := by decide +kernel
theorem dT_isLetter_3 : decode (hr_cd 72) 3 = .ok (.if_icmp .lt 13, 3) := by decide +kernel
theorem dT_isLetter_6 : decode (hr_cd 72) 6 = .ok (.iload_n 0, 1) := by decide +kernel
theorem dT_isLetter_7 : decode (hr_cd 72) 7 = .ok (.bipush 122, 2) := by decide +kernel
theorem dT_isLetter_9 : decode (hr_cd 72) 9 = .ok (.if_icmp .gt 7, 3) := by decide +kernel
theorem dT_isLetter_12 : decode (hr_cd 72) 12 = .ok (.iconst 1, 1) := by decide +kernel
theorem dT_isLetter_13 : decode (hr_cd 72) 13 = .ok (.goto 4, 3) := by decide +kernel
theorem dT_isLetter_16 : decode (hr_cd 72) 16 = .ok (.iconst 0, 1) := by decide +kernel
theorem dT_isLetter_17 : decode (hr_cd 72) 17 = .ok (.ireturn, 1) := by decide +kernel
theorem dT_isDigit_0 : decode (hr_cd 73) 0 = .ok (.iload_n 0, 1) := by decide +kernel
theorem dT_isDigit_1 : decode (hr_cd 73) 1 = .ok (.bipush 48, 2) := by decide +kernel
theorem dT_isDigit_3 : decode (hr_cd 73) 3 = .ok (.if_icmp .lt 13, 3) := by decide +kernel
theorem dT_isDigit_6 : decode (hr_cd 73) 6 = .ok (.iload_n 0, 1) := by decide +kernel
theorem dT_isDigit_7 : decode (hr_cd 73) 7 = .ok (.bipush 57, 2) := by decide +kernel
theorem dT_isDigit_9 : decode (hr_cd 73) 9 = .ok (.if_icmp .gt 7, 3) := by decide +kernel
theorem dT_isDigit_12 : decode (hr_cd 73) 12 = .ok (.iconst 1, 1) := by decide +kernel
theorem dT_isDigit_13 : decode (hr_cd 73) 13 = .ok (.goto 4, 3) := by decide +kernel
theorem dT_isDigit_16 : decode (hr_cd 73) 16 = .ok (.iconst 0, 1) := by decide +kernel
theorem dT_isDigit_17 : decode (hr_cd 73) 17 = .ok (.ireturn, 1) := by decide +kernel
theorem dT_readDigits_0 : decode (hr_cd 74) 0 = .ok (.aload_n 0, 1) := by decide +kernel
theorem dT_readDigits_1 : decode (hr_cd 74) 1 = .ok (.iconst 0, 1) := by decide +kernel
theorem dT_readDigits_2 : decode (hr_cd 74) 2 = .ok (.putfield 98, 3) := by decide +kernel
theorem dT_readDigits_5 : decode (hr_cd 74) 5 = .ok (.aload_n 0, 1) := by decide +kernel
theorem dT_readDigits_6 : decode (hr_cd 74) 6 = .ok (.getfield 19, 3) := by decide +kernel
theorem dT_readDigits_9 : decode (hr_cd 74) 9 = .ok (.aload_n 0, 1) := by decide +kernel
theorem dT_readDigits_10 : decode (hr_cd 74) 10 = .ok (.getfield 15, 3) := by decide +kernel
theorem dT_readDigits_13 : decode (hr_cd 74) 13 = .ok (.if_icmp .ge 65, 3) := by decide +kernel
theorem dT_readDigits_16 : decode (hr_cd 74) 16 = .ok (.aload_n 0, 1) := by decide +kernel
theorem dT_readDigits_17 : decode (hr_cd 74) 17 = .ok (.getfield 9, 3) := by decide +kernel
theorem dT_readDigits_20 : decode (hr_cd 74) 20 = .ok (.aload_n 0, 1) := by decide +kernel
theorem dT_readDigits_21 : decode (hr_cd 74) 21 = .ok (.getfield 19, 3) := by decide +kernel
theorem dT_readDigits_24 : decode (hr_cd 74) 24 = .ok (.baload, 1) := by decide +kernel
theorem dT_readDigits_25 : decode (hr_cd 74) 25 = .ok (.invokestatic 129, 3) := by decide +kernel
theorem dT_readDigits_28 : decode (hr_cd 74) 28 = .ok (.ifCond .eq 50, 3) := by decide +kernel
theorem dT_readDigits_31 : decode (hr_cd 74) 31 = .ok (.aload_n 0, 1) := by decide +kernel
theorem dT_readDigits_32 : decode (hr_cd 74) 32 = .ok (.getfield 98, 3) := by decide +kernel
theorem dT_readDigits_35 : decode (hr_cd 74) 35 = .ok (.sipush 999, 3) := by decide +kernel
theorem dT_readDigits_38 : decode (hr_cd 74) 38 = .ok (.if_icmp .gt 27, 3) := by decide +kernel
theorem dT_readDigits_41 : decode (hr_cd 74) 41 = .ok (.aload_n 0, 1) := by decide +kernel
theorem dT_readDigits_42 : decode (hr_cd 74) 42 = .ok (.aload_n 0, 1) := by decide +kernel
theorem dT_readDigits_43 : decode (hr_cd 74) 43 = .ok (.getfield 98, 3) := by decide +kernel
theorem dT_readDigits_46 : decode (hr_cd 74) 46 = .ok (.bipush 10, 2) := by decide +kernel
theorem dT_readDigits_48 : decode (hr_cd 74) 48 = .ok (.imul, 1) := by decide +kernel
theorem dT_readDigits_49 : decode (hr_cd 74) 49 = .ok (.aload_n 0, 1) := by decide +kernel
theorem dT_readDigits_50 : decode (hr_cd 74) 50 = .ok (.getfield 9, 3) := by decide +kernel
theorem dT_readDigits_53 : decode (hr_cd 74) 53 = .ok (.aload_n 0, 1) := by decide +kernel
theorem dT_readDigits_54 : decode (hr_cd 74) 54 = .ok (.getfield 19, 3) := by decide +kernel
theorem dT_readDigits_57 : decode (hr_cd 74) 57 = .ok (.baload, 1) := by decide +kernel
theorem dT_readDigits_58 : decode (hr_cd 74) 58 = .ok (.iadd, 1) := by decide +kernel
theorem dT_readDigits_59 : decode (hr_cd 74) 59 = .ok (.bipush 48, 2) := by decide +kernel
theorem dT_readDigits_61 : decode (hr_cd 74) 61 = .ok (.isub, 1) := by decide +kernel
theorem dT_readDigits_62 : decode (hr_cd 74) 62 = .ok (.putfield 98, 3) := by decide +kernel
theorem dT_readDigits_65 : decode (hr_cd 74) 65 = .ok (.aload_n 0, 1) := by decide +kernel
theorem dT_readDigits_66 : decode (hr_cd 74) 66 = .ok (.dup, 1) := by decide +kernel
theorem dT_readDigits_67 : decode (hr_cd 74) 67 = .ok (.getfield 19, 3) := by decide +kernel
theorem dT_readDigits_70 : decode (hr_cd 74) 70 = .ok (.iconst 1, 1) := by decide +kernel
theorem dT_readDigits_71 : decode (hr_cd 74) 71 = .ok (.iadd, 1) := by decide +kernel
theorem dT_readDigits_72 : decode (hr_cd 74) 72 = .ok (.putfield 19, 3) := by decide +kernel
theorem dT_readDigits_75 : decode (hr_cd 74) 75 = .ok (.goto (-70), 3) := by decide +kernel
theorem dT_readDigits_78 : decode (hr_cd 74) 78 = .ok (.return_, 1) := by decide +kernel
theorem dT_readItem_0 : decode (hr_cd 75) 0 = .ok (.aload_n 0, 1) := by decide +kernel
theorem dT_readItem_1 : decode (hr_cd 75) 1 = .ok (.ldc 35, 2) := by decide +kernel
theorem dT_readItem_3 : decode (hr_cd 75) 3 = .ok (.invokevirtual 37, 3) := by decide +kernel
theorem dT_readItem_6 : decode (hr_cd 75) 6 = .ok (.ifCond .eq 9, 3) := by decide +kernel
theorem dT_readItem_9 : decode (hr_cd 75) 9 = .ok (.aload_n 0, 1) := by decide +kernel
theorem dT_readItem_10 : decode (hr_cd 75) 10 = .ok (.aload_n 1, 1) := by decide +kernel
theorem dT_readItem_11 : decode (hr_cd 75) 11 = .ok (.invokevirtual 41, 3) := by decide +kernel
theorem dT_readItem_14 : decode (hr_cd 75) 14 = .ok (.ireturn, 1) := by decide +kernel
theorem dT_readItem_15 : decode (hr_cd 75) 15 = .ok (.aload_n 0, 1) := by decide +kernel
theorem dT_readItem_16 : decode (hr_cd 75) 16 = .ok (.invokevirtual 44, 3) := by decide +kernel
theorem dT_readItem_19 : decode (hr_cd 75) 19 = .ok (.istore_n 2, 1) := by decide +kernel
theorem dT_readItem_20 : decode (hr_cd 75) 20 = .ok (.iload_n 2, 1) := by decide +kernel
theorem dT_readItem_21 : decode (hr_cd 75) 21 = .ok (.ifCond .lt 10, 3) := by decide +kernel
theorem dT_readItem_24 : decode (hr_cd 75) 24 = .ok (.aload_n 1, 1) := by decide +kernel
theorem dT_readItem_25 : decode (hr_cd 75) 25 = .ok (.invokevirtual 48, 3) := by decide +kernel
theorem dT_readItem_28 : decode (hr_cd 75) 28 = .ok (.ifCond .eq 5, 3) := by decide +kernel
theorem dT_readItem_31 : decode (hr_cd 75) 31 = .ok (.iconst 0, 1) := by decide +kernel
theorem dT_readItem_32 : decode (hr_cd 75) 32 = .ok (.ireturn, 1) := by decide +kernel
theorem dT_readItem_33 : decode (hr_cd 75) 33 = .ok (.aload_n 0, 1) := by decide +kernel
theorem dT_readItem_34 : decode (hr_cd 75) 34 = .ok (.invokevirtual 22, 3) := by decide +kernel
theorem dT_readItem_37 : decode (hr_cd 75) 37 = .ok (.aload_n 0, 1) := by decide +kernel
theorem dT_readItem_38 : decode (hr_cd 75) 38 = .ok (.aload_n 1, 1) := by decide +kernel
theorem dT_readItem_39 : decode (hr_cd 75) 39 = .ok (.iload_n 2, 1) := by decide +kernel
theorem dT_readItem_40 : decode (hr_cd 75) 40 = .ok (.invokevirtual 54, 3) := by decide +kernel
theorem dT_readItem_43 : decode (hr_cd 75) 43 = .ok (.ireturn, 1) := by decide +kernel
theorem dT_takeWord_0 : decode (hr_cd 76) 0 = .ok (.aload_n 0, 1) := by decide +kernel
theorem dT_takeWord_1 : decode (hr_cd 76) 1 = .ok (.aload_n 1, 1) := by decide +kernel
theorem dT_takeWord_2 : decode (hr_cd 76) 2 = .ok (.invokevirtual 95, 3) := by decide +kernel
theorem dT_takeWord_5 : decode (hr_cd 76) 5 = .ok (.ifCond .ne 5, 3) := by decide +kernel
theorem dT_takeWord_8 : decode (hr_cd 76) 8 = .ok (.iconst 0, 1) := by decide +kernel
theorem dT_takeWord_9 : decode (hr_cd 76) 9 = .ok (.ireturn, 1) := by decide +kernel
theorem dT_takeWord_10 : decode (hr_cd 76) 10 = .ok (.aload_n 0, 1) := by decide +kernel
theorem dT_takeWord_11 : decode (hr_cd 76) 11 = .ok (.invokevirtual 22, 3) := by decide +kernel
theorem dT_takeWord_14 : decode (hr_cd 76) 14 = .ok (.iconst 1, 1) := by decide +kernel
theorem dT_takeWord_15 : decode (hr_cd 76) 15 = .ok (.ireturn, 1) := by decide +kernel
theorem dT_isWord_0 : decode (hr_cd 77) 0 = .ok (.aload_n 0, 1) := by decide +kernel
theorem dT_isWord_1 : decode (hr_cd 77) 1 = .ok (.getfield 32, 3) := by decide +kernel
theorem dT_isWord_4 : decode (hr_cd 77) 4 = .ok (.iconst 1, 1) := by decide +kernel
theorem dT_isWord_5 : decode (hr_cd 77) 5 = .ok (.if_icmp .ne 19, 3) := by decide +kernel
theorem dT_isWord_8 : decode (hr_cd 77) 8 = .ok (.aload_n 0, 1) := by decide +kernel
theorem dT_isWord_9 : decode (hr_cd 77) 9 = .ok (.getfield 19, 3) := by decide +kernel
theorem dT_isWord_12 : decode (hr_cd 77) 12 = .ok (.aload_n 0, 1) := by decide +kernel
theorem dT_isWord_13 : decode (hr_cd 77) 13 = .ok (.getfield 29, 3) := by decide +kernel
theorem dT_isWord_16 : decode (hr_cd 77) 16 = .ok (.isub, 1) := by decide +kernel
theorem dT_isWord_17 : decode (hr_cd 77) 17 = .ok (.aload_n 1, 1) := by decide +kernel
theorem dT_isWord_18 : decode (hr_cd 77) 18 = .ok (.invokevirtual 117, 3) := by decide +kernel
theorem dT_isWord_21 : decode (hr_cd 77) 21 = .ok (.if_icmp .eq 5, 3) := by decide +kernel
theorem dT_isWord_24 : decode (hr_cd 77) 24 = .ok (.iconst 0, 1) := by decide +kernel
theorem dT_isWord_25 : decode (hr_cd 77) 25 = .ok (.ireturn, 1) := by decide +kernel
theorem dT_isWord_26 : decode (hr_cd 77) 26 = .ok (.iconst 0, 1) := by decide +kernel
theorem dT_isWord_27 : decode (hr_cd 77) 27 = .ok (.istore_n 2, 1) := by decide +kernel
theorem dT_isWord_28 : decode (hr_cd 77) 28 = .ok (.iload_n 2, 1) := by decide +kernel
theorem dT_isWord_29 : decode (hr_cd 77) 29 = .ok (.aload_n 1, 1) := by decide +kernel
theorem dT_isWord_30 : decode (hr_cd 77) 30 = .ok (.invokevirtual 117, 3) := by decide +kernel
theorem dT_isWord_33 : decode (hr_cd 77) 33 = .ok (.if_icmp .ge 30, 3) := by decide +kernel
theorem dT_isWord_36 : decode (hr_cd 77) 36 = .ok (.aload_n 0, 1) := by decide +kernel
theorem dT_isWord_37 : decode (hr_cd 77) 37 = .ok (.getfield 9, 3) := by decide +kernel
theorem dT_isWord_40 : decode (hr_cd 77) 40 = .ok (.aload_n 0, 1) := by decide +kernel
theorem dT_isWord_41 : decode (hr_cd 77) 41 = .ok (.getfield 29, 3) := by decide +kernel
theorem dT_isWord_44 : decode (hr_cd 77) 44 = .ok (.iload_n 2, 1) := by decide +kernel
theorem dT_isWord_45 : decode (hr_cd 77) 45 = .ok (.iadd, 1) := by decide +kernel
theorem dT_isWord_46 : decode (hr_cd 77) 46 = .ok (.baload, 1) := by decide +kernel
theorem dT_isWord_47 : decode (hr_cd 77) 47 = .ok (.aload_n 1, 1) := by decide +kernel
theorem dT_isWord_48 : decode (hr_cd 77) 48 = .ok (.iload_n 2, 1) := by decide +kernel
theorem dT_isWord_49 : decode (hr_cd 77) 49 = .ok (.invokevirtual 121, 3) := by decide +kernel
theorem dT_isWord_52 : decode (hr_cd 77) 52 = .ok (.if_icmp .eq 5, 3) := by decide +kernel
theorem dT_isWord_55 : decode (hr_cd 77) 55 = .ok (.iconst 0, 1) := by decide +kernel
theorem dT_isWord_56 : decode (hr_cd 77) 56 = .ok (.ireturn, 1) := by decide +kernel
theorem dT_isWord_57 : decode (hr_cd 77) 57 = .ok (.iinc 2 1, 3) := by decide +kernel
theorem dT_isWord_60 : decode (hr_cd 77) 60 = .ok (.goto (-32), 3) := by decide +kernel
theorem dT_isWord_63 : decode (hr_cd 77) 63 = .ok (.iconst 1, 1) := by decide +kernel
theorem dT_isWord_64 : decode (hr_cd 77) 64 = .ok (.ireturn, 1) := by decide +kernel
theorem dJS_length_0 : decode (hr_cd 78) 0 = .ok (.aload_n 0, 1) := by decide +kernel
theorem dJS_length_1 : decode (hr_cd 78) 1 = .ok (.getfield 9, 3) := by decide +kernel
theorem dJS_length_4 : decode (hr_cd 78) 4 = .ok (.arraylength, 1) := by decide +kernel
theorem dJS_length_5 : decode (hr_cd 78) 5 = .ok (.aload_n 0, 1) := by decide +kernel
theorem dJS_length_6 : decode (hr_cd 78) 6 = .ok (.invokevirtual 335, 3) := by decide +kernel
theorem dJS_length_9 : decode (hr_cd 78) 9 = .ok (.ishr, 1) := by decide +kernel
theorem dJS_length_10 : decode (hr_cd 78) 10 = .ok (.ireturn, 1) := by decide +kernel
theorem dJS_coder_0 : decode (hr_cd 79) 0 = .ok (.getstatic 38, 3) := by decide +kernel
theorem dJS_coder_3 : decode (hr_cd 79) 3 = .ok (.ifCond .eq 10, 3) := by decide +kernel
theorem dJS_coder_6 : decode (hr_cd 79) 6 = .ok (.aload_n 0, 1) := by decide +kernel
theorem dJS_coder_7 : decode (hr_cd 79) 7 = .ok (.getfield 15, 3) := by decide +kernel
theorem dJS_coder_10 : decode (hr_cd 79) 10 = .ok (.goto 4, 3) := by decide +kernel
theorem dJS_coder_13 : decode (hr_cd 79) 13 = .ok (.iconst 1, 1) := by decide +kernel
theorem dJS_coder_14 : decode (hr_cd 79) 14 = .ok (.ireturn, 1) := by decide +kernel
theorem dJS_charAt_0 : decode (hr_cd 80) 0 = .ok (.aload_n 0, 1) := by decide +kernel
theorem dJS_charAt_1 : decode (hr_cd 80) 1 = .ok (.invokevirtual 492, 3) := by decide +kernel
theorem dJS_charAt_4 : decode (hr_cd 80) 4 = .ok (.ifCond .eq 12, 3) := by decide +kernel
theorem dJS_charAt_7 : decode (hr_cd 80) 7 = .ok (.aload_n 0, 1) := by decide +kernel
theorem dJS_charAt_8 : decode (hr_cd 80) 8 = .ok (.getfield 9, 3) := by decide +kernel
theorem dJS_charAt_11 : decode (hr_cd 80) 11 = .ok (.iload_n 1, 1) := by decide +kernel
theorem dJS_charAt_12 : decode (hr_cd 80) 12 = .ok (.invokestatic 495, 3) := by decide +kernel
theorem dJS_charAt_15 : decode (hr_cd 80) 15 = .ok (.ireturn, 1) := by decide +kernel
theorem dJS_charAt_16 : decode (hr_cd 80) 16 = .ok (.aload_n 0, 1) := by decide +kernel
theorem dJS_charAt_17 : decode (hr_cd 80) 17 = .ok (.getfield 9, 3) := by decide +kernel
theorem dJS_charAt_20 : decode (hr_cd 80) 20 = .ok (.iload_n 1, 1) := by decide +kernel
theorem dJS_charAt_21 : decode (hr_cd 80) 21 = .ok (.invokestatic 498, 3) := by decide +kernel
theorem dJS_charAt_24 : decode (hr_cd 80) 24 = .ok (.ireturn, 1) := by decide +kernel
theorem dJS_isLatin1_0 : decode (hr_cd 81) 0 = .ok (.getstatic 38, 3) := by decide +kernel
theorem dJS_isLatin1_3 : decode (hr_cd 81) 3 = .ok (.ifCond .eq 14, 3) := by decide +kernel
theorem dJS_isLatin1_6 : decode (hr_cd 81) 6 = .ok (.aload_n 0, 1) := by decide +kernel
theorem dJS_isLatin1_7 : decode (hr_cd 81) 7 = .ok (.getfield 15, 3) := by decide +kernel
theorem dJS_isLatin1_10 : decode (hr_cd 81) 10 = .ok (.ifCond .ne 7, 3) := by decide +kernel
theorem dJS_isLatin1_13 : decode (hr_cd 81) 13 = .ok (.iconst 1, 1) := by decide +kernel
theorem dJS_isLatin1_14 : decode (hr_cd 81) 14 = .ok (.goto 4, 3) := by decide +kernel
theorem dJS_isLatin1_17 : decode (hr_cd 81) 17 = .ok (.iconst 0, 1) := by decide +kernel
theorem dJS_isLatin1_18 : decode (hr_cd 81) 18 = .ok (.ireturn, 1) := by decide +kernel
theorem dJL_charAt_0 : decode (hr_cd 82) 0 = .ok (.iload_n 1, 1) := by decide +kernel
theorem dJL_charAt_1 : decode (hr_cd 82) 1 = .ok (.aload_n 0, 1) := by decide +kernel
theorem dJL_charAt_2 : decode (hr_cd 82) 2 = .ok (.arraylength, 1) := by decide +kernel
theorem dJL_charAt_3 : decode (hr_cd 82) 3 = .ok (.invokestatic 9, 3) := by decide +kernel
theorem dJL_charAt_6 : decode (hr_cd 82) 6 = .ok (.aload_n 0, 1) := by decide +kernel
theorem dJL_charAt_7 : decode (hr_cd 82) 7 = .ok (.iload_n 1, 1) := by decide +kernel
theorem dJL_charAt_8 : decode (hr_cd 82) 8 = .ok (.baload, 1) := by decide +kernel
theorem dJL_charAt_9 : decode (hr_cd 82) 9 = .ok (.sipush 255, 3) := by decide +kernel
theorem dJL_charAt_12 : decode (hr_cd 82) 12 = .ok (.iand, 1) := by decide +kernel
theorem dJL_charAt_13 : decode (hr_cd 82) 13 = .ok (.i2c, 1) := by decide +kernel
theorem dJL_charAt_14 : decode (hr_cd 82) 14 = .ok (.ireturn, 1) := by decide +kernel
theorem dJS_checkIndex_0 : decode (hr_cd 83) 0 = .ok (.iload_n 0, 1) := by decide +kernel
theorem dJS_checkIndex_1 : decode (hr_cd 83) 1 = .ok (.iload_n 1, 1) := by decide +kernel
theorem dJS_checkIndex_2 : decode (hr_cd 83) 2 = .ok (.getstatic 1053, 3) := by decide +kernel
theorem dJS_checkIndex_5 : decode (hr_cd 83) 5 = .ok (.invokestatic 1059, 3) := by decide +kernel
theorem dJS_checkIndex_8 : decode (hr_cd 83) 8 = .ok (.pop, 1) := by decide +kernel
theorem dJS_checkIndex_9 : decode (hr_cd 83) 9 = .ok (.return_, 1) := by decide +kernel
theorem dJP_checkIndex_0 : decode (hr_cd 84) 0 = .ok (.iload_n 0, 1) := by decide +kernel
theorem dJP_checkIndex_1 : decode (hr_cd 84) 1 = .ok (.ifCond .lt 8, 3) := by decide +kernel
theorem dJP_checkIndex_4 : decode (hr_cd 84) 4 = .ok (.iload_n 0, 1) := by decide +kernel
theorem dJP_checkIndex_5 : decode (hr_cd 84) 5 = .ok (.iload_n 1, 1) := by decide +kernel
theorem dJP_checkIndex_6 : decode (hr_cd 84) 6 = .ok (.if_icmp .lt 10, 3) := by decide +kernel
theorem dJP_checkIndex_9 : decode (hr_cd 84) 9 = .ok (.aload_n 2, 1) := by decide +kernel
theorem dJP_checkIndex_10 : decode (hr_cd 84) 10 = .ok (.iload_n 0, 1) := by decide +kernel
theorem dJP_checkIndex_11 : decode (hr_cd 84) 11 = .ok (.iload_n 1, 1) := by decide +kernel
theorem dJP_checkIndex_12 : decode (hr_cd 84) 12 = .ok (.invokestatic 95, 3) := by decide +kernel
theorem dJP_checkIndex_15 : decode (hr_cd 84) 15 = .ok (.athrow, 1) := by decide +kernel
theorem dJP_checkIndex_16 : decode (hr_cd 84) 16 = .ok (.iload_n 0, 1) := by decide +kernel
theorem dJP_checkIndex_17 : decode (hr_cd 84) 17 = .ok (.ireturn, 1) := by decide +kernel
theorem dT_readShip_0 : decode (hr_cd 89) 0 = .ok (.aload_n 0, 1) := by decide +kernel
theorem dT_readShip_1 : decode (hr_cd 89) 1 = .ok (.bipush 63, 2) := by decide +kernel
theorem dT_readShip_3 : decode (hr_cd 89) 3 = .ok (.invokevirtual 58, 3) := by decide +kernel
theorem dT_readShip_6 : decode (hr_cd 89) 6 = .ok (.istore_n 2, 1) := by decide +kernel
theorem dT_readShip_7 : decode (hr_cd 89) 7 = .ok (.iload_n 2, 1) := by decide +kernel
theorem dT_readShip_8 : decode (hr_cd 89) 8 = .ok (.ifCond .ge 5, 3) := by decide +kernel
theorem dT_readShip_11 : decode (hr_cd 89) 11 = .ok (.iconst 0, 1) := by decide +kernel
theorem dT_readShip_12 : decode (hr_cd 89) 12 = .ok (.ireturn, 1) := by decide +kernel
theorem dT_readShip_13 : decode (hr_cd 89) 13 = .ok (.aload_n 1, 1) := by decide +kernel
theorem dT_readShip_14 : decode (hr_cd 89) 14 = .ok (.iload_n 2, 1) := by decide +kernel
theorem dT_readShip_15 : decode (hr_cd 89) 15 = .ok (.invokevirtual 62, 3) := by decide +kernel
theorem dT_readShip_18 : decode (hr_cd 89) 18 = .ok (.aload_n 0, 1) := by decide +kernel
theorem dT_readShip_19 : decode (hr_cd 89) 19 = .ok (.ldc 66, 2) := by decide +kernel
theorem dT_readShip_21 : decode (hr_cd 89) 21 = .ok (.invokevirtual 37, 3) := by decide +kernel
theorem dT_readShip_24 : decode (hr_cd 89) 24 = .ok (.ifCond .eq 21, 3) := by decide +kernel
theorem dT_readShip_27 : decode (hr_cd 89) 27 = .ok (.aload_n 0, 1) := by decide +kernel
theorem dT_readShip_28 : decode (hr_cd 89) 28 = .ok (.bipush 9, 2) := by decide +kernel
theorem dT_readShip_30 : decode (hr_cd 89) 30 = .ok (.invokevirtual 58, 3) := by decide +kernel
theorem dT_readShip_33 : decode (hr_cd 89) 33 = .ok (.istore_n 3, 1) := by decide +kernel
theorem dT_readShip_34 : decode (hr_cd 89) 34 = .ok (.iload_n 3, 1) := by decide +kernel
theorem dT_readShip_35 : decode (hr_cd 89) 35 = .ok (.ifCond .ge 5, 3) := by decide +kernel
theorem dT_readShip_38 : decode (hr_cd 89) 38 = .ok (.iconst 0, 1) := by decide +kernel
theorem dT_readShip_39 : decode (hr_cd 89) 39 = .ok (.ireturn, 1) := by decide +kernel
theorem dT_readShip_40 : decode (hr_cd 89) 40 = .ok (.aload_n 1, 1) := by decide +kernel
theorem dT_readShip_41 : decode (hr_cd 89) 41 = .ok (.iload_n 3, 1) := by decide +kernel
theorem dT_readShip_42 : decode (hr_cd 89) 42 = .ok (.putfield 68, 3) := by decide +kernel
theorem dT_readShip_45 : decode (hr_cd 89) 45 = .ok (.aload_n 1, 1) := by decide +kernel
theorem dT_readShip_46 : decode (hr_cd 89) 46 = .ok (.aload_n 0, 1) := by decide +kernel
theorem dT_readShip_47 : decode (hr_cd 89) 47 = .ok (.ldc 70, 2) := by decide +kernel
theorem dT_readShip_49 : decode (hr_cd 89) 49 = .ok (.invokevirtual 37, 3) := by decide +kernel
theorem dT_readShip_52 : decode (hr_cd 89) 52 = .ok (.ifCond .eq 7, 3) := by decide +kernel
theorem dT_readShip_55 : decode (hr_cd 89) 55 = .ok (.iconst 1, 1) := by decide +kernel
theorem dT_readShip_56 : decode (hr_cd 89) 56 = .ok (.goto 4, 3) := by decide +kernel
theorem dT_readShip_59 : decode (hr_cd 89) 59 = .ok (.iconst 0, 1) := by decide +kernel
theorem dT_readShip_60 : decode (hr_cd 89) 60 = .ok (.putfield 72, 3) := by decide +kernel
theorem dT_readShip_63 : decode (hr_cd 89) 63 = .ok (.iconst 1, 1) := by decide +kernel
theorem dT_readShip_64 : decode (hr_cd 89) 64 = .ok (.ireturn, 1) := by decide +kernel
theorem dT_takeNumber_0 : decode (hr_cd 90) 0 = .ok (.aload_n 0, 1) := by decide +kernel
theorem dT_takeNumber_1 : decode (hr_cd 90) 1 = .ok (.getfield 32, 3) := by decide +kernel
theorem dT_takeNumber_4 : decode (hr_cd 90) 4 = .ok (.iconst 2, 1) := by decide +kernel
theorem dT_takeNumber_5 : decode (hr_cd 90) 5 = .ok (.if_icmp .ne 11, 3) := by decide +kernel
theorem dT_takeNumber_8 : decode (hr_cd 90) 8 = .ok (.aload_n 0, 1) := by decide +kernel
theorem dT_takeNumber_9 : decode (hr_cd 90) 9 = .ok (.getfield 98, 3) := by decide +kernel
theorem dT_takeNumber_12 : decode (hr_cd 90) 12 = .ok (.iload_n 1, 1) := by decide +kernel
theorem dT_takeNumber_13 : decode (hr_cd 90) 13 = .ok (.if_icmp .le 5, 3) := by decide +kernel
theorem dT_takeNumber_16 : decode (hr_cd 90) 16 = .ok (.iconst (-1), 1) := by decide +kernel
theorem dT_takeNumber_17 : decode (hr_cd 90) 17 = .ok (.ireturn, 1) := by decide +kernel
theorem dT_takeNumber_18 : decode (hr_cd 90) 18 = .ok (.aload_n 0, 1) := by decide +kernel
theorem dT_takeNumber_19 : decode (hr_cd 90) 19 = .ok (.getfield 98, 3) := by decide +kernel
theorem dT_takeNumber_22 : decode (hr_cd 90) 22 = .ok (.istore_n 2, 1) := by decide +kernel
theorem dT_takeNumber_23 : decode (hr_cd 90) 23 = .ok (.aload_n 0, 1) := by decide +kernel
theorem dT_takeNumber_24 : decode (hr_cd 90) 24 = .ok (.invokevirtual 22, 3) := by decide +kernel
theorem dT_takeNumber_27 : decode (hr_cd 90) 27 = .ok (.iload_n 2, 1) := by decide +kernel
theorem dT_takeNumber_28 : decode (hr_cd 90) 28 = .ok (.ireturn, 1) := by decide +kernel
theorem dT_kindNamed_0 : decode (hr_cd 91) 0 = .ok (.iconst 0, 1) := by decide +kernel
theorem dT_kindNamed_1 : decode (hr_cd 91) 1 = .ok (.istore_n 1, 1) := by decide +kernel
theorem dT_kindNamed_2 : decode (hr_cd 91) 2 = .ok (.iload_n 1, 1) := by decide +kernel
theorem dT_kindNamed_3 : decode (hr_cd 91) 3 = .ok (.bipush 6, 2) := by decide +kernel
theorem dT_kindNamed_5 : decode (hr_cd 91) 5 = .ok (.if_icmp .ge 22, 3) := by decide +kernel
theorem dT_kindNamed_8 : decode (hr_cd 91) 8 = .ok (.aload_n 0, 1) := by decide +kernel
theorem dT_kindNamed_9 : decode (hr_cd 91) 9 = .ok (.iload_n 1, 1) := by decide +kernel
theorem dT_kindNamed_10 : decode (hr_cd 91) 10 = .ok (.invokestatic 101, 3) := by decide +kernel
theorem dT_kindNamed_13 : decode (hr_cd 91) 13 = .ok (.invokevirtual 95, 3) := by decide +kernel
theorem dT_kindNamed_16 : decode (hr_cd 91) 16 = .ok (.ifCond .eq 5, 3) := by decide +kernel
theorem dT_kindNamed_19 : decode (hr_cd 91) 19 = .ok (.iload_n 1, 1) := by decide +kernel
theorem dT_kindNamed_20 : decode (hr_cd 91) 20 = .ok (.ireturn, 1) := by decide +kernel
theorem dT_kindNamed_21 : decode (hr_cd 91) 21 = .ok (.iinc 1 1, 3) := by decide +kernel
theorem dT_kindNamed_24 : decode (hr_cd 91) 24 = .ok (.goto (-22), 3) := by decide +kernel
theorem dT_kindNamed_27 : decode (hr_cd 91) 27 = .ok (.iconst (-1), 1) := by decide +kernel
theorem dT_kindNamed_28 : decode (hr_cd 91) 28 = .ok (.ireturn, 1) := by decide +kernel
theorem dT_nameOf_0 : decode (hr_cd 92) 0 = .ok (.iload_n 0, 1) := by decide +kernel
theorem dT_nameOf_1 : decode (hr_cd 92) 1 = .ok (.tableswitch 50 1 5 #[35, 38, 41, 44, 47], 35) := by decide +kernel
theorem dT_nameOf_36 : decode (hr_cd 92) 36 = .ok (.ldc 105, 2) := by decide +kernel
theorem dT_nameOf_38 : decode (hr_cd 92) 38 = .ok (.areturn, 1) := by decide +kernel
theorem dT_nameOf_39 : decode (hr_cd 92) 39 = .ok (.ldc 107, 2) := by decide +kernel
theorem dT_nameOf_41 : decode (hr_cd 92) 41 = .ok (.areturn, 1) := by decide +kernel
theorem dT_nameOf_42 : decode (hr_cd 92) 42 = .ok (.ldc 109, 2) := by decide +kernel
theorem dT_nameOf_44 : decode (hr_cd 92) 44 = .ok (.areturn, 1) := by decide +kernel
theorem dT_nameOf_45 : decode (hr_cd 92) 45 = .ok (.ldc 111, 2) := by decide +kernel
theorem dT_nameOf_47 : decode (hr_cd 92) 47 = .ok (.areturn, 1) := by decide +kernel
theorem dT_nameOf_48 : decode (hr_cd 92) 48 = .ok (.ldc 113, 2) := by decide +kernel
theorem dT_nameOf_50 : decode (hr_cd 92) 50 = .ok (.areturn, 1) := by decide +kernel
theorem dT_nameOf_51 : decode (hr_cd 92) 51 = .ok (.ldc 115, 2) := by decide +kernel
theorem dT_nameOf_53 : decode (hr_cd 92) 53 = .ok (.areturn, 1) := by decide +kernel
theorem dT_readRock_0 : decode (hr_cd 93) 0 = .ok (.aload_n 0, 1) := by decide +kernel
theorem dT_readRock_1 : decode (hr_cd 93) 1 = .ok (.ldc 75, 2) := by decide +kernel
theorem dT_readRock_3 : decode (hr_cd 93) 3 = .ok (.invokevirtual 37, 3) := by decide +kernel
theorem dT_readRock_6 : decode (hr_cd 93) 6 = .ok (.ifCond .ne 5, 3) := by decide +kernel
theorem dT_readRock_9 : decode (hr_cd 93) 9 = .ok (.iconst 0, 1) := by decide +kernel
theorem dT_readRock_10 : decode (hr_cd 93) 10 = .ok (.ireturn, 1) := by decide +kernel
theorem dT_readRock_11 : decode (hr_cd 93) 11 = .ok (.aload_n 0, 1) := by decide +kernel
theorem dT_readRock_12 : decode (hr_cd 93) 12 = .ok (.bipush 63, 2) := by decide +kernel
theorem dT_readRock_14 : decode (hr_cd 93) 14 = .ok (.invokevirtual 58, 3) := by decide +kernel
theorem dT_readRock_17 : decode (hr_cd 93) 17 = .ok (.istore_n 3, 1) := by decide +kernel
theorem dT_readRock_18 : decode (hr_cd 93) 18 = .ok (.iload_n 3, 1) := by decide +kernel
theorem dT_readRock_19 : decode (hr_cd 93) 19 = .ok (.ifCond .ge 5, 3) := by decide +kernel
theorem dT_readRock_22 : decode (hr_cd 93) 22 = .ok (.iconst 0, 1) := by decide +kernel
theorem dT_readRock_23 : decode (hr_cd 93) 23 = .ok (.ireturn, 1) := by decide +kernel
theorem dT_readRock_24 : decode (hr_cd 93) 24 = .ok (.aload_n 1, 1) := by decide +kernel
theorem dT_readRock_25 : decode (hr_cd 93) 25 = .ok (.iload_n 2, 1) := by decide +kernel
theorem dT_readRock_26 : decode (hr_cd 93) 26 = .ok (.iload_n 3, 1) := by decide +kernel
theorem dT_readRock_27 : decode (hr_cd 93) 27 = .ok (.invokevirtual 77, 3) := by decide +kernel
theorem dT_readRock_30 : decode (hr_cd 93) 30 = .ok (.astore 4, 2) := by decide +kernel
theorem dT_readRock_32 : decode (hr_cd 93) 32 = .ok (.aload 4, 2) := by decide +kernel
theorem dT_readRock_34 : decode (hr_cd 93) 34 = .ok (.ifnonnull 5, 3) := by decide +kernel
theorem dT_readRock_37 : decode (hr_cd 93) 37 = .ok (.iconst 0, 1) := by decide +kernel
theorem dT_readRock_38 : decode (hr_cd 93) 38 = .ok (.ireturn, 1) := by decide +kernel
theorem dT_readRock_39 : decode (hr_cd 93) 39 = .ok (.aload_n 0, 1) := by decide +kernel
theorem dT_readRock_40 : decode (hr_cd 93) 40 = .ok (.ldc 81, 2) := by decide +kernel
theorem dT_readRock_42 : decode (hr_cd 93) 42 = .ok (.invokevirtual 37, 3) := by decide +kernel
theorem dT_readRock_45 : decode (hr_cd 93) 45 = .ok (.ifCond .eq 24, 3) := by decide +kernel
theorem dT_readRock_48 : decode (hr_cd 93) 48 = .ok (.aload 4, 2) := by decide +kernel
theorem dT_readRock_50 : decode (hr_cd 93) 50 = .ok (.aload_n 0, 1) := by decide +kernel
theorem dT_readRock_51 : decode (hr_cd 93) 51 = .ok (.bipush 99, 2) := by decide +kernel
theorem dT_readRock_53 : decode (hr_cd 93) 53 = .ok (.invokevirtual 58, 3) := by decide +kernel
theorem dT_readRock_56 : decode (hr_cd 93) 56 = .ok (.putfield 83, 3) := by decide +kernel
theorem dT_readRock_59 : decode (hr_cd 93) 59 = .ok (.aload 4, 2) := by decide +kernel
theorem dT_readRock_61 : decode (hr_cd 93) 61 = .ok (.getfield 83, 3) := by decide +kernel
theorem dT_readRock_64 : decode (hr_cd 93) 64 = .ok (.ifCond .ge 5, 3) := by decide +kernel
theorem dT_readRock_67 : decode (hr_cd 93) 67 = .ok (.iconst 0, 1) := by decide +kernel
theorem dT_readRock_68 : decode (hr_cd 93) 68 = .ok (.ireturn, 1) := by decide +kernel
theorem dT_readRock_69 : decode (hr_cd 93) 69 = .ok (.aload_n 0, 1) := by decide +kernel
theorem dT_readRock_70 : decode (hr_cd 93) 70 = .ok (.ldc 87, 2) := by decide +kernel
theorem dT_readRock_72 : decode (hr_cd 93) 72 = .ok (.invokevirtual 37, 3) := by decide +kernel
theorem dT_readRock_75 : decode (hr_cd 93) 75 = .ok (.ifCond .eq 24, 3) := by decide +kernel
theorem dT_readRock_78 : decode (hr_cd 93) 78 = .ok (.aload 4, 2) := by decide +kernel
theorem dT_readRock_80 : decode (hr_cd 93) 80 = .ok (.aload_n 0, 1) := by decide +kernel
theorem dT_readRock_81 : decode (hr_cd 93) 81 = .ok (.bipush 9, 2) := by decide +kernel
theorem dT_readRock_83 : decode (hr_cd 93) 83 = .ok (.invokevirtual 58, 3) := by decide +kernel
theorem dT_readRock_86 : decode (hr_cd 93) 86 = .ok (.putfield 89, 3) := by decide +kernel
theorem dT_readRock_89 : decode (hr_cd 93) 89 = .ok (.aload 4, 2) := by decide +kernel
theorem dT_readRock_91 : decode (hr_cd 93) 91 = .ok (.getfield 89, 3) := by decide +kernel
theorem dT_readRock_94 : decode (hr_cd 93) 94 = .ok (.ifCond .ge 5, 3) := by decide +kernel
theorem dT_readRock_97 : decode (hr_cd 93) 97 = .ok (.iconst 0, 1) := by decide +kernel
theorem dT_readRock_98 : decode (hr_cd 93) 98 = .ok (.ireturn, 1) := by decide +kernel
theorem dT_readRock_99 : decode (hr_cd 93) 99 = .ok (.aload 4, 2) := by decide +kernel
theorem dT_readRock_101 : decode (hr_cd 93) 101 = .ok (.aload_n 0, 1) := by decide +kernel
theorem dT_readRock_102 : decode (hr_cd 93) 102 = .ok (.ldc 91, 2) := by decide +kernel
theorem dT_readRock_104 : decode (hr_cd 93) 104 = .ok (.invokevirtual 37, 3) := by decide +kernel
theorem dT_readRock_107 : decode (hr_cd 93) 107 = .ok (.ifCond .eq 7, 3) := by decide +kernel
theorem dT_readRock_110 : decode (hr_cd 93) 110 = .ok (.iconst 1, 1) := by decide +kernel
theorem dT_readRock_111 : decode (hr_cd 93) 111 = .ok (.goto 4, 3) := by decide +kernel
theorem dT_readRock_114 : decode (hr_cd 93) 114 = .ok (.iconst 0, 1) := by decide +kernel
theorem dT_readRock_115 : decode (hr_cd 93) 115 = .ok (.putfield 93, 3) := by decide +kernel
theorem dT_readRock_118 : decode (hr_cd 93) 118 = .ok (.iconst 1, 1) := by decide +kernel
theorem dT_readRock_119 : decode (hr_cd 93) 119 = .ok (.ireturn, 1) := by decide +kernel
theorem dH_renew_0 : decode (hr_cd 96) 0 = .ok (.aload_n 0, 1) := by decide +kernel
theorem dH_renew_1 : decode (hr_cd 96) 1 = .ok (.iload_n 1, 1) := by decide +kernel
theorem dH_renew_2 : decode (hr_cd 96) 2 = .ok (.putfield 9, 3) := by decide +kernel
theorem dH_renew_5 : decode (hr_cd 96) 5 = .ok (.aload_n 0, 1) := by decide +kernel
theorem dH_renew_6 : decode (hr_cd 96) 6 = .ok (.iload_n 1, 1) := by decide +kernel
theorem dH_renew_7 : decode (hr_cd 96) 7 = .ok (.ifCond .ne 7, 3) := by decide +kernel
theorem dH_renew_10 : decode (hr_cd 96) 10 = .ok (.iconst 0, 1) := by decide +kernel
theorem dH_renew_11 : decode (hr_cd 96) 11 = .ok (.goto 4, 3) := by decide +kernel
theorem dH_renew_14 : decode (hr_cd 96) 14 = .ok (.iload_n 2, 1) := by decide +kernel
theorem dH_renew_15 : decode (hr_cd 96) 15 = .ok (.putfield 15, 3) := by decide +kernel
theorem dH_renew_18 : decode (hr_cd 96) 18 = .ok (.aload_n 0, 1) := by decide +kernel
theorem dH_renew_19 : decode (hr_cd 96) 19 = .ok (.getfield 18, 3) := by decide +kernel
theorem dH_renew_22 : decode (hr_cd 96) 22 = .ok (.lconst 0, 1) := by decide +kernel
theorem dH_renew_23 : decode (hr_cd 96) 23 = .ok (.invokestatic 22, 3) := by decide +kernel
theorem dH_renew_26 : decode (hr_cd 96) 26 = .ok (.return_, 1) := by decide +kernel
theorem dJA_fill_0 : decode (hr_cd 97) 0 = .ok (.iconst 0, 1) := by decide +kernel
theorem dJA_fill_1 : decode (hr_cd 97) 1 = .ok (.istore_n 3, 1) := by decide +kernel
theorem dJA_fill_2 : decode (hr_cd 97) 2 = .ok (.aload_n 0, 1) := by decide +kernel
theorem dJA_fill_3 : decode (hr_cd 97) 3 = .ok (.arraylength, 1) := by decide +kernel
theorem dJA_fill_4 : decode (hr_cd 97) 4 = .ok (.istore 4, 2) := by decide +kernel
theorem dJA_fill_6 : decode (hr_cd 97) 6 = .ok (.iload_n 3, 1) := by decide +kernel
theorem dJA_fill_7 : decode (hr_cd 97) 7 = .ok (.iload 4, 2) := by decide +kernel
theorem dJA_fill_9 : decode (hr_cd 97) 9 = .ok (.if_icmp .ge 13, 3) := by decide +kernel
theorem dJA_fill_12 : decode (hr_cd 97) 12 = .ok (.aload_n 0, 1) := by decide +kernel
theorem dJA_fill_13 : decode (hr_cd 97) 13 = .ok (.iload_n 3, 1) := by decide +kernel
theorem dJA_fill_14 : decode (hr_cd 97) 14 = .ok (.lload_n 1, 1) := by decide +kernel
theorem dJA_fill_15 : decode (hr_cd 97) 15 = .ok (.lastore, 1) := by decide +kernel
theorem dJA_fill_16 : decode (hr_cd 97) 16 = .ok (.iinc 3 1, 3) := by decide +kernel
theorem dJA_fill_19 : decode (hr_cd 97) 19 = .ok (.goto (-13), 3) := by decide +kernel
theorem dJA_fill_22 : decode (hr_cd 97) 22 = .ok (.return_, 1) := by decide +kernel
theorem dH_isMissing_0 : decode (hr_cd 100) 0 = .ok (.aload_n 0, 1) := by decide +kernel
theorem dH_isMissing_1 : decode (hr_cd 100) 1 = .ok (.getfield 9, 3) := by decide +kernel
theorem dH_isMissing_4 : decode (hr_cd 100) 4 = .ok (.ifCond .ne 7, 3) := by decide +kernel
theorem dH_isMissing_7 : decode (hr_cd 100) 7 = .ok (.iconst 1, 1) := by decide +kernel
theorem dH_isMissing_8 : decode (hr_cd 100) 8 = .ok (.goto 4, 3) := by decide +kernel
theorem dH_isMissing_11 : decode (hr_cd 100) 11 = .ok (.iconst 0, 1) := by decide +kernel
theorem dH_isMissing_12 : decode (hr_cd 100) 12 = .ok (.ireturn, 1) := by decide +kernel
theorem dH_put_0 : decode (hr_cd 101) 0 = .ok (.aload_n 0, 1) := by decide +kernel
theorem dH_put_1 : decode (hr_cd 101) 1 = .ok (.getfield 9, 3) := by decide +kernel
theorem dH_put_4 : decode (hr_cd 101) 4 = .ok (.bipush 8, 2) := by decide +kernel
theorem dH_put_6 : decode (hr_cd 101) 6 = .ok (.if_icmp .ne 16, 3) := by decide +kernel
theorem dH_put_9 : decode (hr_cd 101) 9 = .ok (.aload_n 0, 1) := by decide +kernel
theorem dH_put_10 : decode (hr_cd 101) 10 = .ok (.getfield 18, 3) := by decide +kernel
theorem dH_put_13 : decode (hr_cd 101) 13 = .ok (.iload_n 1, 1) := by decide +kernel
theorem dH_put_14 : decode (hr_cd 101) 14 = .ok (.lload_n 2, 1) := by decide +kernel
theorem dH_put_15 : decode (hr_cd 101) 15 = .ok (.l2i, 1) := by decide +kernel
theorem dH_put_16 : decode (hr_cd 101) 16 = .ok (.i2b, 1) := by decide +kernel
theorem dH_put_17 : decode (hr_cd 101) 17 = .ok (.i2l, 1) := by decide +kernel
theorem dH_put_18 : decode (hr_cd 101) 18 = .ok (.lastore, 1) := by decide +kernel
theorem dH_put_19 : decode (hr_cd 101) 19 = .ok (.goto 32, 3) := by decide +kernel
theorem dH_put_22 : decode (hr_cd 101) 22 = .ok (.aload_n 0, 1) := by decide +kernel
theorem dH_put_23 : decode (hr_cd 101) 23 = .ok (.getfield 9, 3) := by decide +kernel
theorem dH_put_26 : decode (hr_cd 101) 26 = .ok (.bipush 16, 2) := by decide +kernel
theorem dH_put_28 : decode (hr_cd 101) 28 = .ok (.if_icmp .ne 16, 3) := by decide +kernel
theorem dH_put_31 : decode (hr_cd 101) 31 = .ok (.aload_n 0, 1) := by decide +kernel
theorem dH_put_32 : decode (hr_cd 101) 32 = .ok (.getfield 18, 3) := by decide +kernel
theorem dH_put_35 : decode (hr_cd 101) 35 = .ok (.iload_n 1, 1) := by decide +kernel
theorem dH_put_36 : decode (hr_cd 101) 36 = .ok (.lload_n 2, 1) := by decide +kernel
theorem dH_put_37 : decode (hr_cd 101) 37 = .ok (.l2i, 1) := by decide +kernel
theorem dH_put_38 : decode (hr_cd 101) 38 = .ok (.i2s, 1) := by decide +kernel
theorem dH_put_39 : decode (hr_cd 101) 39 = .ok (.i2l, 1) := by decide +kernel
theorem dH_put_40 : decode (hr_cd 101) 40 = .ok (.lastore, 1) := by decide +kernel
theorem dH_put_41 : decode (hr_cd 101) 41 = .ok (.goto 10, 3) := by decide +kernel
theorem dH_put_44 : decode (hr_cd 101) 44 = .ok (.aload_n 0, 1) := by decide +kernel
theorem dH_put_45 : decode (hr_cd 101) 45 = .ok (.getfield 18, 3) := by decide +kernel
theorem dH_put_48 : decode (hr_cd 101) 48 = .ok (.iload_n 1, 1) := by decide +kernel
theorem dH_put_49 : decode (hr_cd 101) 49 = .ok (.lload_n 2, 1) := by decide +kernel
theorem dH_put_50 : decode (hr_cd 101) 50 = .ok (.lastore, 1) := by decide +kernel
theorem dH_put_51 : decode (hr_cd 101) 51 = .ok (.return_, 1) := by decide +kernel
theorem dH_hasRange_0 : decode (hr_cd 103) 0 = .ok (.iload_n 1, 1) := by decide +kernel
theorem dH_hasRange_1 : decode (hr_cd 103) 1 = .ok (.ifCond .lt 29, 3) := by decide +kernel
theorem dH_hasRange_4 : decode (hr_cd 103) 4 = .ok (.iload_n 2, 1) := by decide +kernel
theorem dH_hasRange_5 : decode (hr_cd 103) 5 = .ok (.ifCond .lt 25, 3) := by decide +kernel
theorem dH_hasRange_8 : decode (hr_cd 103) 8 = .ok (.iload_n 1, 1) := by decide +kernel
theorem dH_hasRange_9 : decode (hr_cd 103) 9 = .ok (.aload_n 0, 1) := by decide +kernel
theorem dH_hasRange_10 : decode (hr_cd 103) 10 = .ok (.getfield 15, 3) := by decide +kernel
theorem dH_hasRange_13 : decode (hr_cd 103) 13 = .ok (.if_icmp .gt 17, 3) := by decide +kernel
theorem dH_hasRange_16 : decode (hr_cd 103) 16 = .ok (.iload_n 2, 1) := by decide +kernel
theorem dH_hasRange_17 : decode (hr_cd 103) 17 = .ok (.aload_n 0, 1) := by decide +kernel
theorem dH_hasRange_18 : decode (hr_cd 103) 18 = .ok (.getfield 15, 3) := by decide +kernel
theorem dH_hasRange_21 : decode (hr_cd 103) 21 = .ok (.iload_n 1, 1) := by decide +kernel
theorem dH_hasRange_22 : decode (hr_cd 103) 22 = .ok (.isub, 1) := by decide +kernel
theorem dH_hasRange_23 : decode (hr_cd 103) 23 = .ok (.if_icmp .gt 7, 3) := by decide +kernel
theorem dH_hasRange_26 : decode (hr_cd 103) 26 = .ok (.iconst 1, 1) := by decide +kernel
theorem dH_hasRange_27 : decode (hr_cd 103) 27 = .ok (.goto 4, 3) := by decide +kernel
theorem dH_hasRange_30 : decode (hr_cd 103) 30 = .ok (.iconst 0, 1) := by decide +kernel
theorem dH_hasRange_31 : decode (hr_cd 103) 31 = .ok (.ireturn, 1) := by decide +kernel
theorem dH_isTrackOf_0 : decode (hr_cd 107) 0 = .ok (.iconst 0, 1) := by decide +kernel
theorem dH_isTrackOf_1 : decode (hr_cd 107) 1 = .ok (.istore_n 2, 1) := by decide +kernel
theorem dH_isTrackOf_2 : decode (hr_cd 107) 2 = .ok (.iload_n 2, 1) := by decide +kernel
theorem dH_isTrackOf_3 : decode (hr_cd 107) 3 = .ok (.aload_n 0, 1) := by decide +kernel
theorem dH_isTrackOf_4 : decode (hr_cd 107) 4 = .ok (.getfield 15, 3) := by decide +kernel
theorem dH_isTrackOf_7 : decode (hr_cd 107) 7 = .ok (.if_icmp .ge 30, 3) := by decide +kernel
theorem dH_isTrackOf_10 : decode (hr_cd 107) 10 = .ok (.aload_n 0, 1) := by decide +kernel
theorem dH_isTrackOf_11 : decode (hr_cd 107) 11 = .ok (.getfield 18, 3) := by decide +kernel
theorem dH_isTrackOf_14 : decode (hr_cd 107) 14 = .ok (.iload_n 2, 1) := by decide +kernel
theorem dH_isTrackOf_15 : decode (hr_cd 107) 15 = .ok (.laload, 1) := by decide +kernel
theorem dH_isTrackOf_16 : decode (hr_cd 107) 16 = .ok (.aload_n 1, 1) := by decide +kernel
theorem dH_isTrackOf_17 : decode (hr_cd 107) 17 = .ok (.getfield 28, 3) := by decide +kernel
theorem dH_isTrackOf_20 : decode (hr_cd 107) 20 = .ok (.i2l, 1) := by decide +kernel
theorem dH_isTrackOf_21 : decode (hr_cd 107) 21 = .ok (.lcmp, 1) := by decide +kernel
theorem dH_isTrackOf_22 : decode (hr_cd 107) 22 = .ok (.ifCond .eq 5, 3) := by decide +kernel
theorem dH_isTrackOf_25 : decode (hr_cd 107) 25 = .ok (.iconst 0, 1) := by decide +kernel
theorem dH_isTrackOf_26 : decode (hr_cd 107) 26 = .ok (.ireturn, 1) := by decide +kernel
theorem dH_isTrackOf_27 : decode (hr_cd 107) 27 = .ok (.aload_n 1, 1) := by decide +kernel
theorem dH_isTrackOf_28 : decode (hr_cd 107) 28 = .ok (.invokevirtual 33, 3) := by decide +kernel
theorem dH_isTrackOf_31 : decode (hr_cd 107) 31 = .ok (.iinc 2 1, 3) := by decide +kernel
theorem dH_isTrackOf_34 : decode (hr_cd 107) 34 = .ok (.goto (-32), 3) := by decide +kernel
theorem dH_isTrackOf_37 : decode (hr_cd 107) 37 = .ok (.iconst 1, 1) := by decide +kernel
theorem dH_isTrackOf_38 : decode (hr_cd 107) 38 = .ok (.ireturn, 1) := by decide +kernel
theorem dS_silentRocks_0 : decode (hr_cd 112) 0 = .ok (.iconst 0, 1) := by decide +kernel
theorem dS_silentRocks_1 : decode (hr_cd 112) 1 = .ok (.istore_n 1, 1) := by decide +kernel
theorem dS_silentRocks_2 : decode (hr_cd 112) 2 = .ok (.iconst 0, 1) := by decide +kernel
theorem dS_silentRocks_3 : decode (hr_cd 112) 3 = .ok (.istore_n 2, 1) := by decide +kernel
theorem dS_silentRocks_4 : decode (hr_cd 112) 4 = .ok (.iload_n 2, 1) := by decide +kernel
theorem dS_silentRocks_5 : decode (hr_cd 112) 5 = .ok (.aload_n 0, 1) := by decide +kernel
theorem dS_silentRocks_6 : decode (hr_cd 112) 6 = .ok (.getfield 27, 3) := by decide +kernel
theorem dS_silentRocks_9 : decode (hr_cd 112) 9 = .ok (.if_icmp .ge 21, 3) := by decide +kernel
theorem dS_silentRocks_12 : decode (hr_cd 112) 12 = .ok (.iload_n 1, 1) := by decide +kernel
theorem dS_silentRocks_13 : decode (hr_cd 112) 13 = .ok (.aload_n 0, 1) := by decide +kernel
theorem dS_silentRocks_14 : decode (hr_cd 112) 14 = .ok (.getfield 32, 3) := by decide +kernel
theorem dS_silentRocks_17 : decode (hr_cd 112) 17 = .ok (.iload_n 2, 1) := by decide +kernel
theorem dS_silentRocks_18 : decode (hr_cd 112) 18 = .ok (.aaload, 1) := by decide +kernel
theorem dS_silentRocks_19 : decode (hr_cd 112) 19 = .ok (.getfield 96, 3) := by decide +kernel
theorem dS_silentRocks_22 : decode (hr_cd 112) 22 = .ok (.iadd, 1) := by decide +kernel
theorem dS_silentRocks_23 : decode (hr_cd 112) 23 = .ok (.istore_n 1, 1) := by decide +kernel
theorem dS_silentRocks_24 : decode (hr_cd 112) 24 = .ok (.iinc 2 1, 3) := by decide +kernel
theorem dS_silentRocks_27 : decode (hr_cd 112) 27 = .ok (.goto (-23), 3) := by decide +kernel
theorem dS_silentRocks_30 : decode (hr_cd 112) 30 = .ok (.iload_n 1, 1) := by decide +kernel
theorem dS_silentRocks_31 : decode (hr_cd 112) 31 = .ok (.ireturn, 1) := by decide +kernel
theorem dS_allHorns_0 : decode (hr_cd 113) 0 = .ok (.iconst 0, 1) := by decide +kernel
theorem dS_allHorns_1 : decode (hr_cd 113) 1 = .ok (.istore_n 1, 1) := by decide +kernel
theorem dS_allHorns_2 : decode (hr_cd 113) 2 = .ok (.iconst 0, 1) := by decide +kernel
theorem dS_allHorns_3 : decode (hr_cd 113) 3 = .ok (.istore_n 2, 1) := by decide +kernel
theorem dS_allHorns_4 : decode (hr_cd 113) 4 = .ok (.iload_n 2, 1) := by decide +kernel
theorem dS_allHorns_5 : decode (hr_cd 113) 5 = .ok (.aload_n 0, 1) := by decide +kernel
theorem dS_allHorns_6 : decode (hr_cd 113) 6 = .ok (.getfield 27, 3) := by decide +kernel
theorem dS_allHorns_9 : decode (hr_cd 113) 9 = .ok (.if_icmp .ge 21, 3) := by decide +kernel
theorem dS_allHorns_12 : decode (hr_cd 113) 12 = .ok (.iload_n 1, 1) := by decide +kernel
theorem dS_allHorns_13 : decode (hr_cd 113) 13 = .ok (.aload_n 0, 1) := by decide +kernel
theorem dS_allHorns_14 : decode (hr_cd 113) 14 = .ok (.getfield 32, 3) := by decide +kernel
theorem dS_allHorns_17 : decode (hr_cd 113) 17 = .ok (.iload_n 2, 1) := by decide +kernel
theorem dS_allHorns_18 : decode (hr_cd 113) 18 = .ok (.aaload, 1) := by decide +kernel
theorem dS_allHorns_19 : decode (hr_cd 113) 19 = .ok (.getfield 102, 3) := by decide +kernel
theorem dS_allHorns_22 : decode (hr_cd 113) 22 = .ok (.iadd, 1) := by decide +kernel
theorem dS_allHorns_23 : decode (hr_cd 113) 23 = .ok (.istore_n 1, 1) := by decide +kernel
theorem dS_allHorns_24 : decode (hr_cd 113) 24 = .ok (.iinc 2 1, 3) := by decide +kernel
theorem dS_allHorns_27 : decode (hr_cd 113) 27 = .ok (.goto (-23), 3) := by decide +kernel
theorem dS_allHorns_30 : decode (hr_cd 113) 30 = .ok (.iload_n 1, 1) := by decide +kernel
theorem dS_allHorns_31 : decode (hr_cd 113) 31 = .ok (.ireturn, 1) := by decide +kernel
